abbrev rmL_cell : Room := { frames := 0, cells := 0, slots := 0, locals := 0 }
set_option maxHeartbeats 4000000 in
set_option maxRecDepth 100000 in
/-- a cell of the script, or what stands for it: some int -/
theorem c_L_cell (g : GE) (lau : Launch) {N : Nat} {ad : Nat → Nat} {f : Nat → va_E} {k : Nat} (hk2 : k < 2 ^ 31) : Ct g lau yL_cell wsL_cell rmL_cell N ad [.ref (g.2.2.2 4), .int (nI k)] f (pI N ad (fun x u => u = f)) 0 0 := by
  refine Ct.of (maxL := 2) rfl (by decide +kernel) [some (.ref (g.2.2.2 4)), some (.int (nI k))] (Nat.le_of_ble_eq_true rfl) (by simp [lvo, lv_args, Value.category]) (fun E hnl _ hC hR => ?_)
  obtain ⟨n, xs, hn, hX, hb, hA⟩ := hC.2.2.2.2.2.2.2.1.2.2.2.2.2
  refine V_iload_n hC dL_cell_0 rfl rfl ?_
  refine V_aload_n hC dL_cell_1 rfl rfl ?_
  refine V_xlen hC hX hb hA dL_cell_2 ?_
  refine V_icmp_ge hC 12 dL_cell_3 (by decide) (fun c3 => ?_) (fun c3 => ?_)
  · refine V_ldc (v := 556226971) hC dL_cell_12 (by decide +kernel) ?_
    refine V_iload_n hC dL_cell_14 rfl rfl ?_
    refine V_sipush hC 971 dL_cell_15 (by decide) ?_
    refine V_iadd hC dL_cell_18 ?_
    refine V_imul hC dL_cell_19 ?_
    exact V_iret hC hR dL_cell_20 ⟨rfl, rfl, _, rfl, rfl⟩
  · have hk : k < n := Nat.not_le.mp fun q => c3 (nI_le q hk2)
    refine V_aload_n hC dL_cell_6 rfl rfl ?_
    refine V_iload_n hC dL_cell_7 rfl rfl ?_
    refine V_xld hC hX hb hA (vp_in_nI hk (by omega)) dL_cell_8 (fun w => ?_)
    refine V_goto hC 20 dL_cell_9 (by decide) ?_
    exact V_iret hC hR dL_cell_20 ⟨rfl, rfl, _, rfl, rfl⟩
def upN (v : Int32) (d : Nat) : Nat := v.toBitVec.toNat % 2 ^ 31 % d
theorem upN_lt (v : Int32) {d : Nat} (h : 0 < d) : upN v d < d := Nat.mod_lt _ h
abbrev rmL_up : Room := { frames := 0, cells := 0, slots := 0, locals := 0 }
set_option maxHeartbeats 4000000 in
set_option maxRecDepth 100000 in
theorem c_L_up (g : GE) (lau : Launch) {N : Nat} {ad : Nat → Nat} {f : Nat → va_E} (v : Int32) {d : Nat} (h0 : 0 < d) (hd : d ≤ 1000) : Ct g lau yL_up wsL_up rmL_up N ad [.int v, .int (nI d)] f (pI N ad (fun x u => x = nI (upN v d) ∧ u = f)) 0 0 := by
  refine Ct.of (maxL := 2) rfl (by decide +kernel) [some (.int v), some (.int (nI d))] (Nat.le_of_ble_eq_true rfl) (by simp [lvo, lv_args, Value.category]) (fun E hnl _ hC hR => ?_)
  refine V_iload_n hC dL_up_0 rfl rfl ?_
  refine V_ldc (v := 2147483647) hC dL_up_1 (by decide +kernel) ?_
  refine V_iand hC dL_up_3 ?_
  refine V_eqt (nI (v.toBitVec.toNat % 2 ^ 31)) (pk_and v 31 (by decide +kernel)) ?_
  refine V_iload_n hC dL_up_4 rfl rfl ?_
  refine V_irem hC dL_up_5 (nI_ne0 h0 (by omega)) ?_
  refine V_eqt (nI (upN v d)) (pk_rem (Nat.mod_lt _ (by decide)) h0 (by omega)) ?_
  exact V_iret hC hR dL_up_6 ⟨rfl, rfl, _, rfl, rfl, rfl⟩
