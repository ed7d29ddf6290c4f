abbrev rmX5_in : Room := { frames := 0, cells := 0, slots := 0, locals := 0 }
def inJ (v a b : Int64) : Prop := a.toInt ≤ v.toInt ∧ v.toInt ≤ b.toInt
set_option maxHeartbeats 4000000 in
set_option maxRecDepth 100000 in
theorem c_X5_in (g : GE) (l : Launch) {N : Nat} {ad : Nat → Nat} {f : Nat → va_E} (v a b : Int64) : Ct g l yX5_in wsX5_in rmX5_in N ad [.long v, .long a, .long b] f (pI N ad (fun x u => (x = 1 ∧ inJ v a b ∧ u = f) ∨ (x = 0 ∧ ¬ inJ v a b ∧ u = f))) 0 0 := by
  refine Ct.of (maxL := 6) rfl (by decide +kernel) [some (.long v), none, some (.long a), none, some (.long b), none] (Nat.le_of_ble_eq_true rfl) (by simp [lvo, lv_args, Value.category]) (fun E hnl _ hC hR => ?_)
  refine V_lload_n hC dX5_in_0 rfl rfl ?_
  refine V_lload_n hC dX5_in_1 rfl rfl ?_
  refine V_lcmp hC dX5_in_2 ?_
  refine V_if_lt hC 17 dX5_in_3 (by decide) (fun c3 => ?_) (fun c3 => ?_)
  · refine V_iconst hC 0 dX5_in_17 (by decide) ?_
    refine V_zret hC hR rfl dX5_in_18 ⟨rfl, rfl, _, rfl, Or.inr ⟨rfl, ?_, rfl⟩⟩
    rw [lg_cmp_lt, Int64.lt_iff_toInt_lt] at c3
    exact fun h => by have := h.1; omega
  · rw [lg_cmp_lt, Int64.lt_iff_toInt_lt] at c3
    refine V_lload_n hC dX5_in_6 rfl rfl ?_
    refine V_lload hC dX5_in_7 rfl ?_
    refine V_lcmp hC dX5_in_9 ?_
    refine V_if_gt hC 17 dX5_in_10 (by decide) (fun c10 => ?_) (fun c10 => ?_)
    · rw [lg_cmp_gt, Int64.lt_iff_toInt_lt] at c10
      refine V_iconst hC 0 dX5_in_17 (by decide) ?_
      refine V_zret hC hR rfl dX5_in_18 ⟨rfl, rfl, _, rfl, Or.inr ⟨rfl, ?_, rfl⟩⟩
      exact fun h => by have := h.2; omega
    · rw [lg_cmp_gt, Int64.lt_iff_toInt_lt] at c10
      refine V_iconst hC 1 dX5_in_13 (by decide) ?_
      refine V_goto hC 18 dX5_in_14 (by decide) ?_
      exact V_zret hC hR rfl dX5_in_18 ⟨rfl, rfl, _, rfl, Or.inl ⟨rfl, ⟨by omega, by omega⟩, rfl⟩⟩
theorem inX5_X5_get : ∀ w ∈ wsX50, w ∈ wsX5_get := by decide +kernel
abbrev rmX5_get : Room := { frames := 0, cells := 0, slots := 0, locals := 0 }
set_option maxHeartbeats 4000000 in
set_option maxRecDepth 100000 in
theorem c_X5_get (g : GE) (lau : Launch) {N : Nat} {ad : Nat → Nat} {f : Nat → va_E} {o : Nat} {a kp hs : Nat → Int32} {hl : Int32} {so sv pd : Nat → Int32} {pn sp od wb nb : Int32} (hN : o + 7 ≤ N) {b w : Nat} (hb : b < 8) (hw : w < 6) : Ct g lau yX5_get wsX5_get rmX5_get N ad [.ref (ad o), .int (nI b), .int (nI w)] (zM g ad f o a kp hs hl so sv pd pn sp od wb nb) (pI N ad (fun x u => x = a (27 + 6 * b + w) ∧ u = (zM g ad f o a kp hs hl so sv pd pn sp od wb nb))) 0 0 := by
  refine Ct.of (maxL := 3) rfl (by decide +kernel) [some (.ref (ad o)), some (.int (nI b)), some (.int (nI w))] (Nat.le_of_ble_eq_true rfl) (by simp [lvo, lv_args, Value.category]) (fun E hnl _ hC hR => ?_)
  refine V_aload_n hC dX5_get_0 rfl rfl ?_
  refine V_zM_all hC hN dX5_get_1 inX5_X5_get (by decide +kernel) ?_
  refine V_bipush hC 27 dX5_get_4 (by decide) ?_
  refine V_bipush hC 6 dX5_get_6 (by decide) ?_
  refine V_iload_n hC dX5_get_8 rfl rfl ?_
  refine V_imul hC dX5_get_9 ?_
  refine V_iadd hC dX5_get_10 ?_
  refine V_iload_n hC dX5_get_11 rfl rfl ?_
  refine V_iadd hC dX5_get_12 ?_
  refine V_zM_ld1 hC hN dX5_get_13 (ix_of (j := 27 + 6 * b + w) (by rw [show (27 : Int32) = nI 27 from rfl, show (6 : Int32) = nI 6 from rfl, pk_mul, nI_add, nI_add]) (by omega) (by decide)) ?_
  refine V_iret hC hR dX5_get_14 ⟨rfl, rfl, _, rfl, ?_⟩
  exact ⟨rfl, rfl⟩
theorem inX5_X5_put : ∀ w ∈ wsX50, w ∈ wsX5_put := by decide +kernel
abbrev rmX5_put : Room := { frames := 0, cells := 0, slots := 0, locals := 0 }
set_option maxHeartbeats 4000000 in
set_option maxRecDepth 100000 in
theorem c_X5_put (g : GE) (lau : Launch) {N : Nat} {ad : Nat → Nat} {f : Nat → va_E} {o : Nat} {a kp hs : Nat → Int32} {hl : Int32} {so sv pd : Nat → Int32} {pn sp od wb nb : Int32} (hN : o + 7 ≤ N) {b w : Nat} {z : Int32} (hb : b < 8) (hw : w < 6) : Ct g lau yX5_put wsX5_put rmX5_put N ad [.ref (ad o), .int (nI b), .int (nI w), .int z] (zM g ad f o a kp hs hl so sv pd pn sp od wb nb) (pV N ad (fun u => u = (zM g ad f o (upd a (27 + 6 * b + w) z) kp hs hl so sv pd pn sp od wb nb))) 0 0 := by
  refine Ct.of (maxL := 4) rfl (by decide +kernel) [some (.ref (ad o)), some (.int (nI b)), some (.int (nI w)), some (.int z)] (Nat.le_of_ble_eq_true rfl) (by simp [lvo, lv_args, Value.category]) (fun E hnl _ hC hR => ?_)
  refine V_aload_n hC dX5_put_0 rfl rfl ?_
  refine V_zM_all hC hN dX5_put_1 inX5_X5_put (by decide +kernel) ?_
  refine V_bipush hC 27 dX5_put_4 (by decide) ?_
  refine V_bipush hC 6 dX5_put_6 (by decide) ?_
  refine V_iload_n hC dX5_put_8 rfl rfl ?_
  refine V_imul hC dX5_put_9 ?_
  refine V_iadd hC dX5_put_10 ?_
  refine V_iload_n hC dX5_put_11 rfl rfl ?_
  refine V_iadd hC dX5_put_12 ?_
  refine V_iload_n hC dX5_put_13 rfl rfl ?_
  refine V_zM_st1 hC hN dX5_put_14 (ix_of (j := 27 + 6 * b + w) (by rw [show (27 : Int32) = nI 27 from rfl, show (6 : Int32) = nI 6 from rfl, pk_mul, nI_add, nI_add]) (by omega) (by decide)) ?_
  refine V_vret hC hR dX5_put_15 ⟨rfl, rfl, rfl, ?_⟩
  exact rfl
theorem inX5_X5_back : ∀ w ∈ wsX50, w ∈ wsX5_back := by decide +kernel
abbrev rmX5_back : Room := { frames := 1, cells := 0, slots := 0, locals := 22 }
set_option maxHeartbeats 4000000 in
set_option maxRecDepth 100000 in
theorem c_X5_back (g : GE) (lau : Launch) {N : Nat} {ad : Nat → Nat} {f : Nat → va_E} {o : Nat} {a kp hs : Nat → Int32} {hl : Int32} {so sv pd : Nat → Int32} {pn sp od wb nb : Int32} (hN : o + 7 ≤ N) {b : Nat} (hb : b < 8) : Ct g lau yX5_back wsX5_back rmX5_back N ad [.ref (ad o), .int (nI b)] (zM g ad f o a kp hs hl so sv pd pn sp od wb nb) (pI N ad (fun x u => x = a (27 + 6 * b + 0) - a (27 + 6 * b + 1) ∧ u = (zM g ad f o a kp hs hl so sv pd pn sp od wb nb))) 0 0 := by
  refine Ct.of (maxL := 2) rfl (by decide +kernel) [some (.ref (ad o)), some (.int (nI b))] (Nat.le_of_ble_eq_true rfl) (by simp [lvo, lv_args, Value.category]) (fun E hnl _ hC hR => ?_)
  refine V_aload_n hC dX5_back_0 rfl rfl ?_
  refine V_iload_n hC dX5_back_1 rfl rfl ?_
  refine V_iconst hC 0 dX5_back_2 (by decide) ?_
  refine V_cvI (n := 2) hC (c_X5_get g (eL E) hN (b := b) (w := 0) hb (by decide)) dX5_back_3 gX5_back_X5_get rfl rfl rfl ⟨rfl, rfl⟩ (by decide +kernel) (by decide +kernel) (by omega) zM_0 rfl (Nat.le_of_ble_eq_true rfl) (by decide) (fun x3 u3 h3 => ?_)
  obtain ⟨rfl, rfl⟩ := h3
  refine V_aload_n hC dX5_back_6 rfl rfl ?_
  refine V_iload_n hC dX5_back_7 rfl rfl ?_
  refine V_iconst hC 1 dX5_back_8 (by decide) ?_
  refine V_cvI (n := 2) hC (c_X5_get g (eL E) hN (b := b) (w := 1) hb (by decide)) dX5_back_9 gX5_back_X5_get rfl rfl rfl ⟨rfl, rfl⟩ (by decide +kernel) (by decide +kernel) (by omega) zM_0 rfl (Nat.le_of_ble_eq_true rfl) (by decide) (fun x9 u9 h9 => ?_)
  obtain ⟨rfl, rfl⟩ := h9
  refine V_isub hC dX5_back_12 ?_
  refine V_iret hC hR dX5_back_13 ⟨rfl, rfl, _, rfl, ?_⟩
  exact ⟨rfl, rfl⟩
