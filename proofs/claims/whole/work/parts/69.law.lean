/-! the law: its script, its end, its worlds -/
def LX (E : EV) (g : GE) (b L : Nat) (xs : Nat → Int32) : Prop := CX E g cL_law wsL_law RL room_1 ∧ va_X b L xs (eS E) (eS E).heap ∧ b < (eS E).heap.size ∧ ¬ gA g b ∧ eN E = 4 ∧ L ≤ 1536 ∧ g.2.2.1 = (eS E).heap.size ∧ ∀ (H : Heap) (ls : Array Slot), W (eP E) (eL E) (eE E) (eR E) (eS E) (eM E) (eA E) (eB E) (eH E) (eC E) H [] 600000 7302250 (eQ E) (F0 (eM E) 591 ls [.int 1])
abbrev llo (b : Nat) (ad : Nat → Nat) (i : Nat) : List (Option Value) := [some (.ref b), some (.ref (ad 0)), some (.ref (ad 183)), some (.int (nI i))]
theorem V_slen {E : EV} {g : GE} {b L : Nat} {xs : Nat → Int32} {N : Nat} {ad : Nat → Nat} {ce sl : Nat} {f : Nat → va_E} {pc : Nat} {lo : List (Option Value)} {st : List Value} (hX : LX E g b L xs) (hd : decode cL_law pc = .ok (.arraylength, 1)) (kk : V E g N ad ce sl f (pc + 1) lo (.int (nI L) :: st)) : V E g N ad ce sl f pc lo (.ref b :: st) := by
  intro H locs ls hP hD hS hl
  exact va_slen hX.1.1 hX.1.2.1 hX.2.1 hX.2.2.1 hX.2.2.2.1 hS hd (kk H locs ls hP hD hS hl)
theorem V_sld {E : EV} {g : GE} {b L : Nat} {xs : Nat → Int32} {N : Nat} {ad : Nat → Nat} {ce sl : Nat} {f : Nat → va_E} {pc : Nat} {lo : List (Option Value)} {st : List Value} (hX : LX E g b L xs) {k : Nat} {x : Int32} (hx : x = nI k) (hk : k < L) (hd : decode cL_law pc = .ok (.iaload, 1)) (kk : V E g N ad ce sl f (pc + 1) lo (.int (xs k) :: st)) : V E g N ad ce sl f pc lo (.int x :: .ref b :: st) := by
  intro H locs ls hP hD hS hl
  have hL := hX.2.2.2.2.2.1
  have e : x.toNatClampNeg = k := by rw [hx, nI_clamp (by omega)]
  refine va_sld hX.1.1 hX.1.2.1 hX.2.1 hX.2.2.1 hX.2.2.2.1 hS (by rw [hx]; exact vp_in_nI hk (by omega)) hd ?_
  rw [e]
  exact kk H locs ls hP hD hS hl
theorem nI_k1 (i : Nat) : nI i + 1 = nI (i + 1) := (nI_1 i)
theorem nI_k2 (i : Nat) : nI i + 2 = nI (i + 2) := by
  have h2 : (2 : Int32) = 1 + 1 := by decide
  rw [h2, ← Int32.add_assoc, nI_1, nI_1]
theorem nI_k3 (i : Nat) : nI i + 3 = nI (i + 3) := by
  have h3 : (3 : Int32) = 2 + 1 := by decide
  rw [h3, ← Int32.add_assoc, nI_k2, nI_1]
/-- an argument out of the script -/
theorem V_sarg {E : EV} {g : GE} {b L : Nat} {xs : Nat → Int32} {N : Nat} {ad : Nat → Nat} {ce sl : Nat} {f : Nat → va_E} {pc : Nat} {st : List Value} (hX : LX E g b L xs) {i : Nat} (k : Nat) (v : Int32) {n : Int} (d0 : decode cL_law pc = .ok (.aload_n 0, 1)) (d1 : decode cL_law (pc + 1) = .ok (.iload_n 3, 1)) (d2 : decode cL_law (pc + 1 + 1) = .ok (.iconst n, 1)) (hv : Int32.ofInt n = v) (d3 : decode cL_law (pc + 1 + 1 + 1) = .ok (.iadd, 1)) (d4 : decode cL_law (pc + 1 + 1 + 1 + 1) = .ok (.iaload, 1)) (he : nI i + v = nI (i + k)) (hi : i + k < L) (kk : V E g N ad ce sl f (pc + 1 + 1 + 1 + 1 + 1) (llo b ad i) (.int (xs (i + k)) :: st)) : V E g N ad ce sl f pc (llo b ad i) st := by
  have hC := hX.1
  refine V_aload_n hC d0 rfl rfl ?_
  refine V_iload_n hC d1 rfl rfl ?_
  refine V_iconst hC v d2 hv ?_
  refine V_iadd hC d3 ?_
  exact V_sld hX he hi d4 kk
theorem V_lend {E : EV} {g : GE} {b L : Nat} {xs : Nat → Int32} {N : Nat} {ad : Nat → Nat} {f : Nat → va_E} {lo : List (Option Value)} (hX : LX E g b L xs) : V E g N ad 190 3923 f 591 lo [.int 1] := by
  intro H locs ls hP hD hS hl
  have hz := hX.2.2.2.2.2.2.1
  refine va_forget (fun q hq => ?_) (W.widen (Nat.le_of_ble_eq_true rfl) (Nat.le_of_ble_eq_true rfl) (hX.2.2.2.2.2.2.2 H ls))
  have k : g.2.2.1 ≤ q.base := hS.2.2 q hq
  rw [hz] at k
  exact k
theorem lN_self (x : Int64) : lN x.toBitVec.toNat = x := by
  apply Int64.toBitVec_inj.mp
  apply BitVec.eq_of_toNat_eq
  exact wb_tn x.toBitVec.isLt
theorem lN_ex (x : Int64) : ∃ C : Nat, C < 2 ^ 64 ∧ x = lN C := ⟨x.toBitVec.toNat, x.toBitVec.isLt, (lN_self x).symm⟩
/-- the two sides' worlds, tied to one state -/
def LI (g : GE) (ad : Nat → Nat) (S : ST) (u : Nat → va_E) : Prop := CAt g ad 0 S u ∧ ∃ u0, MIs g ad u0 183 S u
theorem zM_self {g : GE} {ad : Nat → Nat} {f v : Nat → va_E} {o : Nat} {a kp hs : Nat → Int32} {hl : Int32} {so sv pd : Nat → Int32} {pn sp od wb nb : Int32} (h : ∀ q, o ≤ q → q < o + 7 → v q = zM g ad f o a kp hs hl so sv pd pn sp od wb nb q) : v = zM g ad v o a kp hs hl so sv pd pn sp od wb nb := by
  funext q
  by_cases hq : o ≤ q ∧ q < o + 7
  · rw [h q hq.1 hq.2]
    rcases (show q = o ∨ q = o + 1 ∨ q = o + 2 ∨ q = o + 3 ∨ q = o + 4 ∨ q = o + 5 ∨ q = o + 6 by omega) with rfl | rfl | rfl | rfl | rfl | rfl | rfl
    · rw [zM_0, zM_0]
    · rw [zM_a1, zM_a1]
    · rw [zM_a2, zM_a2]
    · rw [zM_a3, zM_a3]
    · rw [zM_a4, zM_a4]
    · rw [zM_a5, zM_a5]
    · rw [zM_a6, zM_a6]
  · rw [zM_out (by omega)]
theorem LI.away {g : GE} {ad : Nat → Nat} {S : ST} {u u1 : Nat → va_E} (h : LI g ad S u) (k : ∀ q, q < 0 ∨ 0 + 183 ≤ q → u1 q = u q) : ∃ (a kp hs : Nat → Int32) (hl : Int32) (so sv pd : Nat → Int32) (pn sp od wb nb : Int32), u1 = zM g ad u1 183 a kp hs hl so sv pd pn sp od wb nb ∧ RepM a hs hl so sv pd pn S := by
  obtain ⟨-, u0, a, kp, hs, hl, so, sv, pd, pn, sp, od, wb, nb, e, hM⟩ := h
  refine ⟨a, kp, hs, hl, so, sv, pd, pn, sp, od, wb, nb, zM_self (f := u0) fun q q1 q2 => ?_, hM⟩
  rw [k q (by omega), e]
theorem CAt.keep {g : GE} {ad : Nat → Nat} {o : Nat} {S : ST} {u v : Nat → va_E} (h : CAt g ad o S u) (he : ∀ q, o ≤ q → q < o + 183 → v q = u q) : CAt g ad o S v := ⟨h.1.keep fun q hq => he q (by omega) (by omega), h.2.1.keep fun q a b => he q (by omega) (by omega), h.2.2.keep fun q a b => he q (by omega) (by omega)⟩
theorem LI.back {g : GE} {ad : Nat → Nat} {S : ST} {u1 u2 : Nat → va_E} (h1 : CAt g ad 0 S u1) (h2 : MIs g ad u1 183 S u2) : LI g ad S u2 := by
  obtain ⟨a, kp, hs, hl, so, sv, pd, pn, sp, od, wb, nb, rfl, hM⟩ := h2
  exact ⟨h1.keep fun q q1 q2 => zM_out (by omega), u1, MIs.mk hM⟩
set_option maxHeartbeats 4000000 in
set_option maxRecDepth 100000 in
theorem lc_set {E : EV} {g : GE} {ad : Nat → Nat} {b L i : Nat} {xs : Nat → Int32} (hX : LX E g b L xs) {K : Int} (hK : 30 ≤ K) (hK2 : K ≤ 80000000) {S : ST} {u : Nat → va_E} (hG : goodS K S) (hI : LI g ad S u) (hi : i + 2 < L) (kk : ∀ (S2 : ST) (u2 : Nat → va_E), goodS (K + 100) S2 → LI g ad S2 u2 → V E g 190 ad 190 3923 u2 584 (llo b ad i) []) : V E g 190 ad 190 3923 u 120 (llo b ad i) [] := by
  have hC := hX.1
  refine V_aload_n hC dL_law_120 rfl rfl ?_
  refine V_sarg hX 1 1 dL_law_121 dL_law_122 dL_law_123 (by decide) dL_law_124 dL_law_125 (nI_k1 i) (by omega) ?_
  refine V_sarg hX 2 2 dL_law_126 dL_law_127 dL_law_128 (by decide) dL_law_129 dL_law_130 (nI_k2 i) (by omega) ?_
  refine V_cvI (n := 2) hC (c_X4_set g (eL E) (o := 0) (by omega) hI.1 (xs (i + 1)) (xs (i + 2)) ) dL_law_131 gL_law_X4_set rfl rfl rfl ⟨rfl, rfl⟩ (by decide +kernel) (by decide +kernel) (by omega) hI.1.1.1 rfl (Nat.le_of_ble_eq_true rfl) ⟨Nat.le_of_ble_eq_true rfl, Nat.le_of_ble_eq_true rfl⟩ (fun x1 u1 h1 => ?_)
  obtain ⟨h1, k1, k2⟩ := h1
  obtain ⟨a, kp, hs, hl, so, sv, pd, pn, sp, od, wb, nb, eu, hM⟩ := hI.away k2
  refine V_aload_n hC dL_law_134 rfl rfl ?_
  refine V_sarg hX 1 1 dL_law_135 dL_law_136 dL_law_137 (by decide) dL_law_138 dL_law_139 (nI_k1 i) (by omega) ?_
  refine V_sarg hX 2 2 dL_law_140 dL_law_141 dL_law_142 (by decide) dL_law_143 dL_law_144 (nI_k2 i) (by omega) ?_
  refine V_f eu ?_
  refine V_cvI (n := 2) hC (c_X5_set g (eL E) (o := 183) (by omega) hM (xs (i + 1)) (xs (i + 2)) ) dL_law_145 gL_law_X5_set rfl rfl rfl ⟨rfl, rfl⟩ (by decide +kernel) (by decide +kernel) (by omega) zM_0 rfl (Nat.le_of_ble_eq_true rfl) ⟨Nat.le_of_ble_eq_true rfl, Nat.le_of_ble_eq_true rfl⟩ (fun x2 u2 h2 => ?_)
  obtain ⟨h2, k3⟩ := h2
  refine V_icmp_eq_t hC 584 dL_law_148 (by decide) (h1.trans h2.symm) ?_
  exact kk _ u2 ((hG.set _ _).mono (by omega)) (LI.back k1 k3)
set_option maxHeartbeats 4000000 in
set_option maxRecDepth 100000 in
theorem lc_arrive {E : EV} {g : GE} {ad : Nat → Nat} {b L i : Nat} {xs : Nat → Int32} (hX : LX E g b L xs) {K : Int} (hK : 30 ≤ K) (hK2 : K ≤ 80000000) {S : ST} {u : Nat → va_E} (hG : goodS K S) (hI : LI g ad S u) (hi : i + 2 < L) (kk : ∀ (S2 : ST) (u2 : Nat → va_E), goodS (K + 100) S2 → LI g ad S2 u2 → V E g 190 ad 190 3923 u2 584 (llo b ad i) []) : V E g 190 ad 190 3923 u 153 (llo b ad i) [] := by
  have hC := hX.1
  refine V_aload_n hC dL_law_153 rfl rfl ?_
  refine V_sarg hX 1 1 dL_law_154 dL_law_155 dL_law_156 (by decide) dL_law_157 dL_law_158 (nI_k1 i) (by omega) ?_
  refine V_cvI (n := 1) hC (c_X4_arrive g (eL E) (o := 0) (by omega) hI.1 (xs (i + 1)) ) dL_law_159 gL_law_X4_arrive rfl rfl rfl ⟨rfl, rfl⟩ (by decide +kernel) (by decide +kernel) (by omega) hI.1.1.1 rfl (Nat.le_of_ble_eq_true rfl) ⟨Nat.le_of_ble_eq_true rfl, Nat.le_of_ble_eq_true rfl⟩ (fun x1 u1 h1 => ?_)
  obtain ⟨h1, k1, k2⟩ := h1
  obtain ⟨a, kp, hs, hl, so, sv, pd, pn, sp, od, wb, nb, eu, hM⟩ := hI.away k2
  refine V_aload_n hC dL_law_162 rfl rfl ?_
  refine V_sarg hX 1 1 dL_law_163 dL_law_164 dL_law_165 (by decide) dL_law_166 dL_law_167 (nI_k1 i) (by omega) ?_
  refine V_f eu ?_
  refine V_cvI (n := 1) hC (c_X5_arrive g (eL E) (o := 183) (by omega) hM (xs (i + 1)) ) dL_law_168 gL_law_X5_arrive rfl rfl rfl ⟨rfl, rfl⟩ (by decide +kernel) (by decide +kernel) (by omega) zM_0 rfl (Nat.le_of_ble_eq_true rfl) ⟨Nat.le_of_ble_eq_true rfl, Nat.le_of_ble_eq_true rfl⟩ (fun x2 u2 h2 => ?_)
  obtain ⟨h2, k3⟩ := h2
  refine V_icmp_eq_t hC 584 dL_law_171 (by decide) (h1.trans h2.symm) ?_
  exact kk _ u2 ((hG.arrive hK (by omega) _).mono (by omega)) (LI.back k1 k3)
set_option maxHeartbeats 4000000 in
set_option maxRecDepth 100000 in
theorem lc_turn {E : EV} {g : GE} {ad : Nat → Nat} {b L i : Nat} {xs : Nat → Int32} (hX : LX E g b L xs) {K : Int} (hK : 30 ≤ K) (hK2 : K ≤ 80000000) {S : ST} {u : Nat → va_E} (hG : goodS K S) (hI : LI g ad S u) (hi : i + 2 < L) (kk : ∀ (S2 : ST) (u2 : Nat → va_E), goodS (K + 100) S2 → LI g ad S2 u2 → V E g 190 ad 190 3923 u2 584 (llo b ad i) []) : V E g 190 ad 190 3923 u 176 (llo b ad i) [] := by
  have hC := hX.1
  refine V_aload_n hC dL_law_176 rfl rfl ?_
  refine V_sarg hX 1 1 dL_law_177 dL_law_178 dL_law_179 (by decide) dL_law_180 dL_law_181 (nI_k1 i) (by omega) ?_
  refine V_sarg hX 2 2 dL_law_182 dL_law_183 dL_law_184 (by decide) dL_law_185 dL_law_186 (nI_k2 i) (by omega) ?_
  refine V_cvI (n := 2) hC (c_X4_turn g (eL E) (o := 0) (by omega) hI.1 (xs (i + 1)) (xs (i + 2)) hG.1.1.len) dL_law_187 gL_law_X4_turn rfl rfl rfl ⟨rfl, rfl⟩ (by decide +kernel) (by decide +kernel) (by omega) hI.1.1.1 rfl (Nat.le_of_ble_eq_true rfl) ⟨Nat.le_of_ble_eq_true rfl, Nat.le_of_ble_eq_true rfl⟩ (fun x1 u1 h1 => ?_)
  obtain ⟨h1, k1, k2⟩ := h1
  obtain ⟨a, kp, hs, hl, so, sv, pd, pn, sp, od, wb, nb, eu, hM⟩ := hI.away k2
  refine V_aload_n hC dL_law_190 rfl rfl ?_
  refine V_sarg hX 1 1 dL_law_191 dL_law_192 dL_law_193 (by decide) dL_law_194 dL_law_195 (nI_k1 i) (by omega) ?_
  refine V_sarg hX 2 2 dL_law_196 dL_law_197 dL_law_198 (by decide) dL_law_199 dL_law_200 (nI_k2 i) (by omega) ?_
  refine V_f eu ?_
  refine V_cvI (n := 2) hC (c_X5_turn g (eL E) (o := 183) (by omega) hM (xs (i + 1)) (xs (i + 2)) ) dL_law_201 gL_law_X5_turn rfl rfl rfl ⟨rfl, rfl⟩ (by decide +kernel) (by decide +kernel) (by omega) zM_0 rfl (Nat.le_of_ble_eq_true rfl) ⟨Nat.le_of_ble_eq_true rfl, Nat.le_of_ble_eq_true rfl⟩ (fun x2 u2 h2 => ?_)
  obtain ⟨h2, k3⟩ := h2
  refine V_icmp_eq_t hC 584 dL_law_204 (by decide) (h1.trans h2.symm) ?_
  exact kk _ u2 ((hG.turn (by omega) _ _).mono (by omega)) (LI.back k1 k3)
set_option maxHeartbeats 4000000 in
set_option maxRecDepth 100000 in
theorem lc_pass {E : EV} {g : GE} {ad : Nat → Nat} {b L i : Nat} {xs : Nat → Int32} (hX : LX E g b L xs) {K : Int} (hK : 30 ≤ K) (hK2 : K ≤ 80000000) {S : ST} {u : Nat → va_E} (hG : goodS K S) (hI : LI g ad S u) (hi : i + 2 < L) (kk : ∀ (S2 : ST) (u2 : Nat → va_E), goodS (K + 100) S2 → LI g ad S2 u2 → V E g 190 ad 190 3923 u2 584 (llo b ad i) []) : V E g 190 ad 190 3923 u 209 (llo b ad i) [] := by
  have hC := hX.1
  refine V_aload_n hC dL_law_209 rfl rfl ?_
  refine V_sarg hX 1 1 dL_law_210 dL_law_211 dL_law_212 (by decide) dL_law_213 dL_law_214 (nI_k1 i) (by omega) ?_
  refine V_cvI (n := 1) hC (c_X4_pass g (eL E) (o := 0) (by omega) hI.1 (xs (i + 1)) (fun n hn => hG.1.ok (by omega) n hn) hG.1.1.2.2.2.1) dL_law_215 gL_law_X4_pass rfl rfl rfl ⟨rfl, rfl⟩ (by decide +kernel) (by decide +kernel) (by omega) hI.1.1.1 rfl (Nat.le_of_ble_eq_true rfl) ⟨Nat.le_of_ble_eq_true rfl, Nat.le_of_ble_eq_true rfl⟩ (fun x1 u1 h1 => ?_)
  obtain ⟨h1, k1, k2⟩ := h1
  obtain ⟨a, kp, hs, hl, so, sv, pd, pn, sp, od, wb, nb, eu, hM⟩ := hI.away k2
  refine V_aload_n hC dL_law_218 rfl rfl ?_
  refine V_sarg hX 1 1 dL_law_219 dL_law_220 dL_law_221 (by decide) dL_law_222 dL_law_223 (nI_k1 i) (by omega) ?_
  refine V_f eu ?_
  refine V_cvI (n := 1) hC (c_X5_pass g (eL E) (o := 183) (by omega) hM (xs (i + 1)) (fun n hn => hG.1.ok (by omega) n hn)) dL_law_224 gL_law_X5_pass rfl rfl rfl ⟨rfl, rfl⟩ (by decide +kernel) (by decide +kernel) (by omega) zM_0 rfl (Nat.le_of_ble_eq_true rfl) ⟨Nat.le_of_ble_eq_true rfl, Nat.le_of_ble_eq_true rfl⟩ (fun x2 u2 h2 => ?_)
  obtain ⟨h2, k3⟩ := h2
  refine V_icmp_eq_t hC 584 dL_law_227 (by decide) (h1.trans h2.symm) ?_
  exact kk _ u2 ((hG.pass (by omega) _).mono (by omega)) (LI.back k1 k3)
set_option maxHeartbeats 4000000 in
set_option maxRecDepth 100000 in
theorem lc_box {E : EV} {g : GE} {ad : Nat → Nat} {b L i : Nat} {xs : Nat → Int32} (hX : LX E g b L xs) {K : Int} (hK : 30 ≤ K) (hK2 : K ≤ 80000000) {S : ST} {u : Nat → va_E} (hG : goodS K S) (hI : LI g ad S u) (hi : i + 2 < L) (kk : ∀ (S2 : ST) (u2 : Nat → va_E), goodS (K + 100) S2 → LI g ad S2 u2 → V E g 190 ad 190 3923 u2 584 (llo b ad i) []) : V E g 190 ad 190 3923 u 232 (llo b ad i) [] := by
  have hC := hX.1
  refine V_aload_n hC dL_law_232 rfl rfl ?_
  refine V_sarg hX 1 1 dL_law_233 dL_law_234 dL_law_235 (by decide) dL_law_236 dL_law_237 (nI_k1 i) (by omega) ?_
  refine V_sarg hX 2 2 dL_law_238 dL_law_239 dL_law_240 (by decide) dL_law_241 dL_law_242 (nI_k2 i) (by omega) ?_
  refine V_cvI (n := 2) hC (c_X4_box g (eL E) (o := 0) (by omega) hI.1 (xs (i + 1)) (xs (i + 2)) ) dL_law_243 gL_law_X4_box rfl rfl rfl ⟨rfl, rfl⟩ (by decide +kernel) (by decide +kernel) (by omega) hI.1.1.1 rfl (Nat.le_of_ble_eq_true rfl) ⟨Nat.le_of_ble_eq_true rfl, Nat.le_of_ble_eq_true rfl⟩ (fun x1 u1 h1 => ?_)
  obtain ⟨rfl, rfl⟩ := h1
  obtain ⟨a, kp, hs, hl, so, sv, pd, pn, sp, od, wb, nb, eu, hM⟩ := hI.away (fun q _ => rfl)
  refine V_aload_n hC dL_law_246 rfl rfl ?_
  refine V_sarg hX 1 1 dL_law_247 dL_law_248 dL_law_249 (by decide) dL_law_250 dL_law_251 (nI_k1 i) (by omega) ?_
  refine V_sarg hX 2 2 dL_law_252 dL_law_253 dL_law_254 (by decide) dL_law_255 dL_law_256 (nI_k2 i) (by omega) ?_
  refine V_f eu ?_
  refine V_cvI (n := 2) hC (c_X5_box g (eL E) (o := 183) (by omega) hM.1 (xs (i + 1)) (xs (i + 2)) ) dL_law_257 gL_law_X5_box rfl rfl rfl ⟨rfl, rfl⟩ (by decide +kernel) (by decide +kernel) (by omega) zM_0 rfl (Nat.le_of_ble_eq_true rfl) ⟨Nat.le_of_ble_eq_true rfl, Nat.le_of_ble_eq_true rfl⟩ (fun x2 u2 h2 => ?_)
  obtain ⟨h2, rfl⟩ := h2
  refine V_icmp_eq_t hC 584 dL_law_260 (by decide) h2.symm ?_
  refine V_f eu.symm ?_
  exact kk S _ (hG.mono (by omega)) hI
set_option maxHeartbeats 4000000 in
set_option maxRecDepth 100000 in
theorem lc_plan {E : EV} {g : GE} {ad : Nat → Nat} {b L i : Nat} {xs : Nat → Int32} (hX : LX E g b L xs) {K : Int} (hK : 30 ≤ K) (hK2 : K ≤ 80000000) {S : ST} {u : Nat → va_E} (hG : goodS K S) (hI : LI g ad S u) (hi : i + 2 < L) (kk : ∀ (S2 : ST) (u2 : Nat → va_E), goodS (K + 100) S2 → LI g ad S2 u2 → V E g 190 ad 190 3923 u2 584 (llo b ad i) []) : V E g 190 ad 190 3923 u 265 (llo b ad i) [] := by
  have hC := hX.1
  refine V_aload_n hC dL_law_265 rfl rfl ?_
  refine V_sarg hX 1 1 dL_law_266 dL_law_267 dL_law_268 (by decide) dL_law_269 dL_law_270 (nI_k1 i) (by omega) ?_
  refine V_cvI (n := 1) hC (c_X4_plan g (eL E) (o := 0) (by omega) hI.1 (xs (i + 1)) ) dL_law_271 gL_law_X4_plan rfl rfl rfl ⟨rfl, rfl⟩ (by decide +kernel) (by decide +kernel) (by omega) hI.1.1.1 rfl (Nat.le_of_ble_eq_true rfl) ⟨Nat.le_of_ble_eq_true rfl, Nat.le_of_ble_eq_true rfl⟩ (fun x1 u1 h1 => ?_)
  obtain ⟨rfl, rfl⟩ := h1
  obtain ⟨a, kp, hs, hl, so, sv, pd, pn, sp, od, wb, nb, eu, hM⟩ := hI.away (fun q _ => rfl)
  refine V_aload_n hC dL_law_274 rfl rfl ?_
  refine V_sarg hX 1 1 dL_law_275 dL_law_276 dL_law_277 (by decide) dL_law_278 dL_law_279 (nI_k1 i) (by omega) ?_
  refine V_f eu ?_
  refine V_cvI (n := 1) hC (c_X5_plan g (eL E) (o := 183) (by omega) hM.1 (xs (i + 1)) ) dL_law_280 gL_law_X5_plan rfl rfl rfl ⟨rfl, rfl⟩ (by decide +kernel) (by decide +kernel) (by omega) zM_0 rfl (Nat.le_of_ble_eq_true rfl) ⟨Nat.le_of_ble_eq_true rfl, Nat.le_of_ble_eq_true rfl⟩ (fun x2 u2 h2 => ?_)
  obtain ⟨h2, rfl⟩ := h2
  refine V_icmp_eq_t hC 584 dL_law_283 (by decide) h2.symm ?_
  refine V_f eu.symm ?_
  exact kk S _ (hG.mono (by omega)) hI
set_option maxHeartbeats 4000000 in
set_option maxRecDepth 100000 in
theorem lc_report {E : EV} {g : GE} {ad : Nat → Nat} {b L i : Nat} {xs : Nat → Int32} (hX : LX E g b L xs) {K : Int} (hK : 30 ≤ K) (hK2 : K ≤ 80000000) {S : ST} {u : Nat → va_E} (hG : goodS K S) (hI : LI g ad S u) (hi : i + 2 < L) (kk : ∀ (S2 : ST) (u2 : Nat → va_E), goodS (K + 100) S2 → LI g ad S2 u2 → V E g 190 ad 190 3923 u2 584 (llo b ad i) []) : V E g 190 ad 190 3923 u 288 (llo b ad i) [] := by
  have hC := hX.1
  refine V_aload_n hC dL_law_288 rfl rfl ?_
  refine V_sarg hX 1 1 dL_law_289 dL_law_290 dL_law_291 (by decide) dL_law_292 dL_law_293 (nI_k1 i) (by omega) ?_
  refine V_sarg hX 2 2 dL_law_294 dL_law_295 dL_law_296 (by decide) dL_law_297 dL_law_298 (nI_k2 i) (by omega) ?_
  refine V_cvI (n := 2) hC (c_X4_report g (eL E) (o := 0) (by omega) hI.1 (xs (i + 1)) (xs (i + 2)) ) dL_law_299 gL_law_X4_report rfl rfl rfl ⟨rfl, rfl⟩ (by decide +kernel) (by decide +kernel) (by omega) hI.1.1.1 rfl (Nat.le_of_ble_eq_true rfl) ⟨Nat.le_of_ble_eq_true rfl, Nat.le_of_ble_eq_true rfl⟩ (fun x1 u1 h1 => ?_)
  obtain ⟨rfl, rfl⟩ := h1
  obtain ⟨a, kp, hs, hl, so, sv, pd, pn, sp, od, wb, nb, eu, hM⟩ := hI.away (fun q _ => rfl)
  refine V_aload_n hC dL_law_302 rfl rfl ?_
  refine V_sarg hX 1 1 dL_law_303 dL_law_304 dL_law_305 (by decide) dL_law_306 dL_law_307 (nI_k1 i) (by omega) ?_
  refine V_sarg hX 2 2 dL_law_308 dL_law_309 dL_law_310 (by decide) dL_law_311 dL_law_312 (nI_k2 i) (by omega) ?_
  refine V_f eu ?_
  refine V_cvI (n := 2) hC (c_X5_report g (eL E) (o := 183) (by omega) hM.1 (xs (i + 1)) (xs (i + 2)) ) dL_law_313 gL_law_X5_report rfl rfl rfl ⟨rfl, rfl⟩ (by decide +kernel) (by decide +kernel) (by omega) zM_0 rfl (Nat.le_of_ble_eq_true rfl) ⟨Nat.le_of_ble_eq_true rfl, Nat.le_of_ble_eq_true rfl⟩ (fun x2 u2 h2 => ?_)
  obtain ⟨h2, rfl⟩ := h2
  refine V_icmp_eq_t hC 584 dL_law_316 (by decide) h2.symm ?_
  refine V_f eu.symm ?_
  exact kk S _ (hG.mono (by omega)) hI
set_option maxHeartbeats 4000000 in
set_option maxRecDepth 100000 in
theorem lc_count {E : EV} {g : GE} {ad : Nat → Nat} {b L i : Nat} {xs : Nat → Int32} (hX : LX E g b L xs) {K : Int} (hK : 30 ≤ K) (hK2 : K ≤ 80000000) {S : ST} {u : Nat → va_E} (hG : goodS K S) (hI : LI g ad S u) (hi : i + 2 < L) (kk : ∀ (S2 : ST) (u2 : Nat → va_E), goodS (K + 100) S2 → LI g ad S2 u2 → V E g 190 ad 190 3923 u2 584 (llo b ad i) []) : V E g 190 ad 190 3923 u 321 (llo b ad i) [] := by
  have hC := hX.1
  refine V_aload_n hC dL_law_321 rfl rfl ?_
  refine V_sarg hX 1 1 dL_law_322 dL_law_323 dL_law_324 (by decide) dL_law_325 dL_law_326 (nI_k1 i) (by omega) ?_
  refine V_cvI (n := 1) hC (c_X4_count g (eL E) (o := 0) (by omega) hI.1 (xs (i + 1)) ) dL_law_327 gL_law_X4_count rfl rfl rfl ⟨rfl, rfl⟩ (by decide +kernel) (by decide +kernel) (by omega) hI.1.1.1 rfl (Nat.le_of_ble_eq_true rfl) ⟨Nat.le_of_ble_eq_true rfl, Nat.le_of_ble_eq_true rfl⟩ (fun x1 u1 h1 => ?_)
  obtain ⟨rfl, rfl⟩ := h1
  obtain ⟨a, kp, hs, hl, so, sv, pd, pn, sp, od, wb, nb, eu, hM⟩ := hI.away (fun q _ => rfl)
  refine V_aload_n hC dL_law_330 rfl rfl ?_
  refine V_sarg hX 1 1 dL_law_331 dL_law_332 dL_law_333 (by decide) dL_law_334 dL_law_335 (nI_k1 i) (by omega) ?_
  refine V_f eu ?_
  refine V_cvI (n := 1) hC (c_X5_count g (eL E) (o := 183) (by omega) hM (xs (i + 1)) ) dL_law_336 gL_law_X5_count rfl rfl rfl ⟨rfl, rfl⟩ (by decide +kernel) (by decide +kernel) (by omega) zM_0 rfl (Nat.le_of_ble_eq_true rfl) ⟨Nat.le_of_ble_eq_true rfl, Nat.le_of_ble_eq_true rfl⟩ (fun x2 u2 h2 => ?_)
  obtain ⟨h2, rfl⟩ := h2
  refine V_icmp_eq_t hC 584 dL_law_339 (by decide) h2.symm ?_
  refine V_f eu.symm ?_
  exact kk S _ (hG.mono (by omega)) hI
set_option maxHeartbeats 4000000 in
set_option maxRecDepth 100000 in
theorem lc_ifPass {E : EV} {g : GE} {ad : Nat → Nat} {b L i : Nat} {xs : Nat → Int32} (hX : LX E g b L xs) {K : Int} (hK : 30 ≤ K) (hK2 : K ≤ 80000000) {S : ST} {u : Nat → va_E} (hG : goodS K S) (hI : LI g ad S u) (hi : i + 2 < L) (kk : ∀ (S2 : ST) (u2 : Nat → va_E), goodS (K + 100) S2 → LI g ad S2 u2 → V E g 190 ad 190 3923 u2 584 (llo b ad i) []) : V E g 190 ad 190 3923 u 344 (llo b ad i) [] := by
  have hC := hX.1
  refine V_aload_n hC dL_law_344 rfl rfl ?_
  refine V_sarg hX 1 1 dL_law_345 dL_law_346 dL_law_347 (by decide) dL_law_348 dL_law_349 (nI_k1 i) (by omega) ?_
  refine V_sarg hX 2 2 dL_law_350 dL_law_351 dL_law_352 (by decide) dL_law_353 dL_law_354 (nI_k2 i) (by omega) ?_
  refine V_cvI (n := 2) hC (c_X4_ifPass g (eL E) (o := 0) (by omega) hI.1 (xs (i + 1)) (xs (i + 2)) (fun n hn => hG.1.ok (by omega) n hn) hG.1.1.2.2.2.1) dL_law_355 gL_law_X4_ifPass rfl rfl rfl ⟨rfl, rfl⟩ (by decide +kernel) (by decide +kernel) (by omega) hI.1.1.1 rfl (Nat.le_of_ble_eq_true rfl) ⟨Nat.le_of_ble_eq_true rfl, Nat.le_of_ble_eq_true rfl⟩ (fun x1 u1 h1 => ?_)
  obtain ⟨h1, k1, k2⟩ := h1
  obtain ⟨a, kp, hs, hl, so, sv, pd, pn, sp, od, wb, nb, eu, hM⟩ := hI.away k2
  refine V_aload_n hC dL_law_358 rfl rfl ?_
  refine V_sarg hX 1 1 dL_law_359 dL_law_360 dL_law_361 (by decide) dL_law_362 dL_law_363 (nI_k1 i) (by omega) ?_
  refine V_sarg hX 2 2 dL_law_364 dL_law_365 dL_law_366 (by decide) dL_law_367 dL_law_368 (nI_k2 i) (by omega) ?_
  refine V_f eu ?_
  refine V_cvI (n := 2) hC (c_X5_ifPass g (eL E) (o := 183) (by omega) hM (xs (i + 1)) (xs (i + 2)) (fun n hn => hG.1.ok (by omega) n hn)) dL_law_369 gL_law_X5_ifPass rfl rfl rfl ⟨rfl, rfl⟩ (by decide +kernel) (by decide +kernel) (by omega) zM_0 rfl (Nat.le_of_ble_eq_true rfl) ⟨Nat.le_of_ble_eq_true rfl, Nat.le_of_ble_eq_true rfl⟩ (fun x2 u2 h2 => ?_)
  obtain ⟨h2, k3⟩ := h2
  refine V_icmp_eq_t hC 584 dL_law_372 (by decide) (h1.trans h2.symm) ?_
  exact kk _ u2 (hG.mono (by omega)) (LI.back k1 k3)
set_option maxHeartbeats 4000000 in
set_option maxRecDepth 100000 in
theorem lc_bestGuess {E : EV} {g : GE} {ad : Nat → Nat} {b L i : Nat} {xs : Nat → Int32} (hX : LX E g b L xs) {K : Int} (hK : 30 ≤ K) (hK2 : K ≤ 80000000) {S : ST} {u : Nat → va_E} (hG : goodS K S) (hI : LI g ad S u) (hi : i + 2 < L) (kk : ∀ (S2 : ST) (u2 : Nat → va_E), goodS (K + 100) S2 → LI g ad S2 u2 → V E g 190 ad 190 3923 u2 584 (llo b ad i) []) : V E g 190 ad 190 3923 u 377 (llo b ad i) [] := by
  have hC := hX.1
  refine V_aload_n hC dL_law_377 rfl rfl ?_
  refine V_sarg hX 1 1 dL_law_378 dL_law_379 dL_law_380 (by decide) dL_law_381 dL_law_382 (nI_k1 i) (by omega) ?_
  refine V_sarg hX 2 2 dL_law_383 dL_law_384 dL_law_385 (by decide) dL_law_386 dL_law_387 (nI_k2 i) (by omega) ?_
  refine V_cvI (n := 2) hC (c_X4_bestGuess g (eL E) (o := 0) (by omega) hI.1 (xs (i + 1)) (xs (i + 2)) (hG.1.all (by omega)) hG.1.1.2.2.2.1) dL_law_388 gL_law_X4_bestGuess rfl rfl rfl ⟨rfl, rfl⟩ (by decide +kernel) (by decide +kernel) (by omega) hI.1.1.1 rfl (Nat.le_of_ble_eq_true rfl) ⟨Nat.le_of_ble_eq_true rfl, Nat.le_of_ble_eq_true rfl⟩ (fun x1 u1 h1 => ?_)
  obtain ⟨h1, k1, k2⟩ := h1
  obtain ⟨a, kp, hs, hl, so, sv, pd, pn, sp, od, wb, nb, eu, hM⟩ := hI.away k2
  refine V_aload_n hC dL_law_391 rfl rfl ?_
  refine V_sarg hX 1 1 dL_law_392 dL_law_393 dL_law_394 (by decide) dL_law_395 dL_law_396 (nI_k1 i) (by omega) ?_
  refine V_sarg hX 2 2 dL_law_397 dL_law_398 dL_law_399 (by decide) dL_law_400 dL_law_401 (nI_k2 i) (by omega) ?_
  refine V_f eu ?_
  refine V_cvI (n := 2) hC (c_X5_bestGuess g (eL E) (o := 183) (by omega) hM (xs (i + 1)) (xs (i + 2)) (hG.1.all (by omega))) dL_law_402 gL_law_X5_bestGuess rfl rfl rfl ⟨rfl, rfl⟩ (by decide +kernel) (by decide +kernel) (by omega) zM_0 rfl (Nat.le_of_ble_eq_true rfl) ⟨Nat.le_of_ble_eq_true rfl, Nat.le_of_ble_eq_true rfl⟩ (fun x2 u2 h2 => ?_)
  obtain ⟨h2, k3⟩ := h2
  refine V_icmp_eq_t hC 584 dL_law_405 (by decide) (h1.trans h2.symm) ?_
  exact kk _ u2 (hG.mono (by omega)) (LI.back k1 k3)
set_option maxHeartbeats 4000000 in
set_option maxRecDepth 100000 in
theorem lc_neededSlack {E : EV} {g : GE} {ad : Nat → Nat} {b L i : Nat} {xs : Nat → Int32} (hX : LX E g b L xs) {K : Int} (hK : 30 ≤ K) (hK2 : K ≤ 80000000) {S : ST} {u : Nat → va_E} (hG : goodS K S) (hI : LI g ad S u) (hi : i + 2 < L) (kk : ∀ (S2 : ST) (u2 : Nat → va_E), goodS (K + 100) S2 → LI g ad S2 u2 → V E g 190 ad 190 3923 u2 584 (llo b ad i) []) : V E g 190 ad 190 3923 u 410 (llo b ad i) [] := by
  have hC := hX.1
  refine V_aload_n hC dL_law_410 rfl rfl ?_
  refine V_sarg hX 1 1 dL_law_411 dL_law_412 dL_law_413 (by decide) dL_law_414 dL_law_415 (nI_k1 i) (by omega) ?_
  refine V_cvI (n := 1) hC (c_X4_neededSlack g (eL E) (o := 0) (by omega) hI.1 (xs (i + 1)) (hG.1.all (by omega)) hG.1.1.2.2.2.1 (hG.1.need (by omega))) dL_law_416 gL_law_X4_neededSlack rfl rfl rfl ⟨rfl, rfl⟩ (by decide +kernel) (by decide +kernel) (by omega) hI.1.1.1 rfl (Nat.le_of_ble_eq_true rfl) ⟨Nat.le_of_ble_eq_true rfl, Nat.le_of_ble_eq_true rfl⟩ (fun x1 u1 h1 => ?_)
  obtain ⟨h1, k1, k2⟩ := h1
  obtain ⟨a, kp, hs, hl, so, sv, pd, pn, sp, od, wb, nb, eu, hM⟩ := hI.away k2
  refine V_aload_n hC dL_law_419 rfl rfl ?_
  refine V_sarg hX 1 1 dL_law_420 dL_law_421 dL_law_422 (by decide) dL_law_423 dL_law_424 (nI_k1 i) (by omega) ?_
  refine V_f eu ?_
  refine V_cvI (n := 1) hC (c_X5_neededSlack g (eL E) (o := 183) (by omega) hM (xs (i + 1)) (hG.1.all (by omega))) dL_law_425 gL_law_X5_neededSlack rfl rfl rfl ⟨rfl, rfl⟩ (by decide +kernel) (by decide +kernel) (by omega) zM_0 rfl (Nat.le_of_ble_eq_true rfl) ⟨Nat.le_of_ble_eq_true rfl, Nat.le_of_ble_eq_true rfl⟩ (fun x2 u2 h2 => ?_)
  obtain ⟨h2, k3⟩ := h2
  refine V_icmp_eq_t hC 584 dL_law_428 (by decide) (h1.trans h2.symm) ?_
  exact kk _ u2 (hG.mono (by omega)) (LI.back k1 k3)
set_option maxHeartbeats 4000000 in
set_option maxRecDepth 100000 in
theorem lc_put {E : EV} {g : GE} {ad : Nat → Nat} {b L i : Nat} {xs : Nat → Int32} (hX : LX E g b L xs) {K : Int} (hK : 30 ≤ K) (hK2 : K ≤ 80000000) {S : ST} {u : Nat → va_E} (hG : goodS K S) (hI : LI g ad S u) (hi : i + 2 < L) (kk : ∀ (S2 : ST) (u2 : Nat → va_E), goodS (K + 100) S2 → LI g ad S2 u2 → V E g 190 ad 190 3923 u2 584 (llo b ad i) []) : V E g 190 ad 190 3923 u 433 (llo b ad i) [] := by
  have hC := hX.1
  obtain ⟨C, hC64, eC⟩ := lN_ex ((xs (i + 1)).toInt64 <<< ((32 : Int32).toInt64 &&& 63) ||| ((xs (i + 2)).toInt64 &&& 4294967295))
  refine V_aload_n hC dL_law_433 rfl rfl ?_
  refine V_sarg hX 1 1 dL_law_434 dL_law_435 dL_law_436 (by decide) dL_law_437 dL_law_438 (nI_k1 i) (by omega) ?_
  refine V_i2l hC dL_law_439 ?_
  refine V_bipush hC 32 dL_law_440 (by decide) ?_
  refine V_lshl hC dL_law_442 ?_
  refine V_sarg hX 2 2 dL_law_443 dL_law_444 dL_law_445 (by decide) dL_law_446 dL_law_447 (nI_k2 i) (by omega) ?_
  refine V_i2l hC dL_law_448 ?_
  refine V_ldc2 (v := 4294967295) hC dL_law_449 (by decide +kernel) ?_
  refine V_land hC dL_law_452 ?_
  refine V_lor hC dL_law_453 ?_
  rw [eC]
  refine V_cvI (n := 1) hC (c_X4_put g (eL E) (o := 0) (by omega) hI.1  hC64) dL_law_454 gL_law_X4_put rfl rfl rfl ⟨rfl, rfl⟩ (by decide +kernel) (by decide +kernel) (by omega) hI.1.1.1 rfl (Nat.le_of_ble_eq_true rfl) ⟨Nat.le_of_ble_eq_true rfl, Nat.le_of_ble_eq_true rfl⟩ (fun x1 u1 h1 => ?_)
  obtain ⟨h1, k1, k2⟩ := h1
  obtain ⟨a, kp, hs, hl, so, sv, pd, pn, sp, od, wb, nb, eu, hM⟩ := hI.away k2
  refine V_aload_n hC dL_law_457 rfl rfl ?_
  refine V_sarg hX 1 1 dL_law_458 dL_law_459 dL_law_460 (by decide) dL_law_461 dL_law_462 (nI_k1 i) (by omega) ?_
  refine V_i2l hC dL_law_463 ?_
  refine V_bipush hC 32 dL_law_464 (by decide) ?_
  refine V_lshl hC dL_law_466 ?_
  refine V_sarg hX 2 2 dL_law_467 dL_law_468 dL_law_469 (by decide) dL_law_470 dL_law_471 (nI_k2 i) (by omega) ?_
  refine V_i2l hC dL_law_472 ?_
  refine V_ldc2 (v := 4294967295) hC dL_law_473 (by decide +kernel) ?_
  refine V_land hC dL_law_476 ?_
  refine V_lor hC dL_law_477 ?_
  rw [eC]
  refine V_f eu ?_
  refine V_cvI (n := 1) hC (c_X5_put_ g (eL E) (o := 183) (by omega) hM hC64 ) dL_law_478 gL_law_X5_put_ rfl rfl rfl ⟨rfl, rfl⟩ (by decide +kernel) (by decide +kernel) (by omega) zM_0 rfl (Nat.le_of_ble_eq_true rfl) ⟨Nat.le_of_ble_eq_true rfl, Nat.le_of_ble_eq_true rfl⟩ (fun x2 u2 h2 => ?_)
  obtain ⟨h2, k3⟩ := h2
  refine V_icmp_eq_t hC 584 dL_law_481 (by decide) (h1.trans h2.symm) ?_
  exact kk _ u2 ((hG.put _).mono (by omega)) (LI.back k1 k3)
set_option maxHeartbeats 4000000 in
set_option maxRecDepth 100000 in
theorem lc_wipe {E : EV} {g : GE} {ad : Nat → Nat} {b L i : Nat} {xs : Nat → Int32} (hX : LX E g b L xs) {K : Int} (hK : 30 ≤ K) (hK2 : K ≤ 80000000) {S : ST} {u : Nat → va_E} (hG : goodS K S) (hI : LI g ad S u) (hi : i + 2 < L) (kk : ∀ (S2 : ST) (u2 : Nat → va_E), goodS (K + 100) S2 → LI g ad S2 u2 → V E g 190 ad 190 3923 u2 584 (llo b ad i) []) : V E g 190 ad 190 3923 u 486 (llo b ad i) [] := by
  have hC := hX.1
  refine V_aload_n hC dL_law_486 rfl rfl ?_
  refine V_cvI (n := 0) hC (c_X4_wipe g (eL E) (o := 0) (by omega) hI.1  ) dL_law_487 gL_law_X4_wipe rfl rfl rfl ⟨rfl, rfl⟩ (by decide +kernel) (by decide +kernel) (by omega) hI.1.1.1 rfl (Nat.le_of_ble_eq_true rfl) ⟨Nat.le_of_ble_eq_true rfl, Nat.le_of_ble_eq_true rfl⟩ (fun x1 u1 h1 => ?_)
  obtain ⟨h1, k1, k2⟩ := h1
  obtain ⟨a, kp, hs, hl, so, sv, pd, pn, sp, od, wb, nb, eu, hM⟩ := hI.away k2
  refine V_aload_n hC dL_law_490 rfl rfl ?_
  refine V_f eu ?_
  refine V_cvI (n := 0) hC (c_X5_wipe g (eL E) (o := 183) (by omega) hM  ) dL_law_491 gL_law_X5_wipe rfl rfl rfl ⟨rfl, rfl⟩ (by decide +kernel) (by decide +kernel) (by omega) zM_0 rfl (Nat.le_of_ble_eq_true rfl) ⟨Nat.le_of_ble_eq_true rfl, Nat.le_of_ble_eq_true rfl⟩ (fun x2 u2 h2 => ?_)
  obtain ⟨h2, k3⟩ := h2
  refine V_icmp_eq_t hC 584 dL_law_494 (by decide) (h1.trans h2.symm) ?_
  exact kk _ u2 (hG.wipe.mono (by omega)) (LI.back k1 k3)
set_option maxHeartbeats 4000000 in
set_option maxRecDepth 100000 in
theorem lc_fault {E : EV} {g : GE} {ad : Nat → Nat} {b L i : Nat} {xs : Nat → Int32} (hX : LX E g b L xs) {K : Int} (hK : 30 ≤ K) (hK2 : K ≤ 80000000) {S : ST} {u : Nat → va_E} (hG : goodS K S) (hI : LI g ad S u) (hi : i + 2 < L) (kk : ∀ (S2 : ST) (u2 : Nat → va_E), goodS (K + 100) S2 → LI g ad S2 u2 → V E g 190 ad 190 3923 u2 584 (llo b ad i) []) : V E g 190 ad 190 3923 u 499 (llo b ad i) [] := by
  have hC := hX.1
  refine V_aload_n hC dL_law_499 rfl rfl ?_
  refine V_cvI (n := 0) hC (c_X4_fault g (eL E) (o := 0) (by omega) hI.1  ) dL_law_500 gL_law_X4_fault rfl rfl rfl ⟨rfl, rfl⟩ (by decide +kernel) (by decide +kernel) (by omega) hI.1.1.1 rfl (Nat.le_of_ble_eq_true rfl) ⟨Nat.le_of_ble_eq_true rfl, Nat.le_of_ble_eq_true rfl⟩ (fun x1 u1 h1 => ?_)
  obtain ⟨rfl, rfl⟩ := h1
  obtain ⟨a, kp, hs, hl, so, sv, pd, pn, sp, od, wb, nb, eu, hM⟩ := hI.away (fun q _ => rfl)
  refine V_aload_n hC dL_law_503 rfl rfl ?_
  refine V_f eu ?_
  refine V_cvI (n := 0) hC (c_X5_fault g (eL E) (o := 183) (by omega) hM.2.2.2  ) dL_law_504 gL_law_X5_fault rfl rfl rfl ⟨rfl, rfl⟩ (by decide +kernel) (by decide +kernel) (by omega) zM_0 rfl (Nat.le_of_ble_eq_true rfl) ⟨Nat.le_of_ble_eq_true rfl, Nat.le_of_ble_eq_true rfl⟩ (fun x2 u2 h2 => ?_)
  obtain ⟨h2, sp2, od2, wb2, nb2, rfl⟩ := h2
  refine V_icmp_eq_t hC 584 dL_law_507 (by decide) h2.symm ?_
  exact kk S _ (hG.mono (by omega)) (LI.back hI.1 (MIs.mk hM))
set_option maxHeartbeats 4000000 in
set_option maxRecDepth 100000 in
theorem lc_carryOut {E : EV} {g : GE} {ad : Nat → Nat} {b L i : Nat} {xs : Nat → Int32} (hX : LX E g b L xs) {K : Int} (hK : 30 ≤ K) (hK2 : K ≤ 80000000) {S : ST} {u : Nat → va_E} (hG : goodS K S) (hI : LI g ad S u) (hi : i + 2 < L) (kk : ∀ (S2 : ST) (u2 : Nat → va_E), goodS (K + 100) S2 → LI g ad S2 u2 → V E g 190 ad 190 3923 u2 584 (llo b ad i) []) : V E g 190 ad 190 3923 u 512 (llo b ad i) [] := by
  have hC := hX.1
  refine V_aload_n hC dL_law_512 rfl rfl ?_
  refine V_cvI (n := 0) hC (c_X4_carryOut g (eL E) (o := 0) (by omega) hI.1  hG.2.2.2.1 (hG.carry hK hK2).2) dL_law_513 gL_law_X4_carryOut rfl rfl rfl ⟨rfl, rfl⟩ (by decide +kernel) (by decide +kernel) (by omega) hI.1.1.1 rfl (Nat.le_of_ble_eq_true rfl) ⟨Nat.le_of_ble_eq_true rfl, Nat.le_of_ble_eq_true rfl⟩ (fun x1 u1 h1 => ?_)
  obtain ⟨h1, k1, k2⟩ := h1
  obtain ⟨a, kp, hs, hl, so, sv, pd, pn, sp, od, wb, nb, eu, hM⟩ := hI.away k2
  refine V_aload_n hC dL_law_516 rfl rfl ?_
  refine V_f eu ?_
  refine V_cvI (n := 0) hC (c_X5_carryOut g (eL E) (o := 183) (by omega) hM  (ordOK2.ok _ (hG.carry hK hK2).2)) dL_law_517 gL_law_X5_carryOut rfl rfl rfl ⟨rfl, rfl⟩ (by decide +kernel) (by decide +kernel) (by omega) zM_0 rfl (Nat.le_of_ble_eq_true rfl) ⟨Nat.le_of_ble_eq_true rfl, Nat.le_of_ble_eq_true rfl⟩ (fun x2 u2 h2 => ?_)
  obtain ⟨h2, k3⟩ := h2
  refine V_icmp_eq_t hC 584 dL_law_520 (by decide) (h1.trans h2.symm) ?_
  exact kk _ u2 ((hG.carry hK hK2).1.mono (by omega)) (LI.back k1 k3)
set_option maxHeartbeats 4000000 in
set_option maxRecDepth 100000 in
theorem lc_undo {E : EV} {g : GE} {ad : Nat → Nat} {b L i : Nat} {xs : Nat → Int32} (hX : LX E g b L xs) {K : Int} (hK : 30 ≤ K) (hK2 : K ≤ 80000000) {S : ST} {u : Nat → va_E} (hG : goodS K S) (hI : LI g ad S u) (hi : i + 2 < L) (kk : ∀ (S2 : ST) (u2 : Nat → va_E), goodS (K + 100) S2 → LI g ad S2 u2 → V E g 190 ad 190 3923 u2 584 (llo b ad i) []) : V E g 190 ad 190 3923 u 525 (llo b ad i) [] := by
  have hC := hX.1
  refine V_aload_n hC dL_law_525 rfl rfl ?_
  refine V_cvI (n := 0) hC (c_X4_undo g (eL E) (o := 0) (by omega) hI.1  ) dL_law_526 gL_law_X4_undo rfl rfl rfl ⟨rfl, rfl⟩ (by decide +kernel) (by decide +kernel) (by omega) hI.1.1.1 rfl (Nat.le_of_ble_eq_true rfl) ⟨Nat.le_of_ble_eq_true rfl, Nat.le_of_ble_eq_true rfl⟩ (fun x1 u1 h1 => ?_)
  obtain ⟨h1, k1, k2⟩ := h1
  obtain ⟨a, kp, hs, hl, so, sv, pd, pn, sp, od, wb, nb, eu, hM⟩ := hI.away k2
  refine V_aload_n hC dL_law_529 rfl rfl ?_
  refine V_f eu ?_
  refine V_cvI (n := 0) hC (c_X5_undo g (eL E) (o := 183) (by omega) hM  ) dL_law_530 gL_law_X5_undo rfl rfl rfl ⟨rfl, rfl⟩ (by decide +kernel) (by decide +kernel) (by omega) zM_0 rfl (Nat.le_of_ble_eq_true rfl) ⟨Nat.le_of_ble_eq_true rfl, Nat.le_of_ble_eq_true rfl⟩ (fun x2 u2 h2 => ?_)
  obtain ⟨h2, k3⟩ := h2
  refine V_icmp_eq_t hC 584 dL_law_533 (by decide) (h1.trans h2.symm) ?_
  exact kk _ u2 (hG.undo.mono (by omega)) (LI.back k1 k3)
set_option maxHeartbeats 4000000 in
set_option maxRecDepth 100000 in
theorem lc_save {E : EV} {g : GE} {ad : Nat → Nat} {b L i : Nat} {xs : Nat → Int32} (hX : LX E g b L xs) {K : Int} (hK : 30 ≤ K) (hK2 : K ≤ 80000000) {S : ST} {u : Nat → va_E} (hG : goodS K S) (hI : LI g ad S u) (hi : i + 2 < L) (kk : ∀ (S2 : ST) (u2 : Nat → va_E), goodS (K + 100) S2 → LI g ad S2 u2 → V E g 190 ad 190 3923 u2 584 (llo b ad i) []) : V E g 190 ad 190 3923 u 538 (llo b ad i) [] := by
  have hC := hX.1
  refine V_aload_n hC dL_law_538 rfl rfl ?_
  refine V_sarg hX 1 1 dL_law_539 dL_law_540 dL_law_541 (by decide) dL_law_542 dL_law_543 (nI_k1 i) (by omega) ?_
  refine V_cvI (n := 1) hC (c_X4_save g (eL E) (o := 0) (by omega) hI.1 (xs (i + 1)) ) dL_law_544 gL_law_X4_save rfl rfl rfl ⟨rfl, rfl⟩ (by decide +kernel) (by decide +kernel) (by omega) hI.1.1.1 rfl (Nat.le_of_ble_eq_true rfl) ⟨Nat.le_of_ble_eq_true rfl, Nat.le_of_ble_eq_true rfl⟩ (fun x1 u1 h1 => ?_)
  obtain ⟨h1, k1, k2⟩ := h1
  obtain ⟨a, kp, hs, hl, so, sv, pd, pn, sp, od, wb, nb, eu, hM⟩ := hI.away k2
  refine V_aload_n hC dL_law_547 rfl rfl ?_
  refine V_sarg hX 1 1 dL_law_548 dL_law_549 dL_law_550 (by decide) dL_law_551 dL_law_552 (nI_k1 i) (by omega) ?_
  refine V_f eu ?_
  refine V_cvI (n := 1) hC (c_X5_save g (eL E) (o := 183) (by omega) hM (xs (i + 1)) ) dL_law_553 gL_law_X5_save rfl rfl rfl ⟨rfl, rfl⟩ (by decide +kernel) (by decide +kernel) (by omega) zM_0 rfl (Nat.le_of_ble_eq_true rfl) ⟨Nat.le_of_ble_eq_true rfl, Nat.le_of_ble_eq_true rfl⟩ (fun x2 u2 h2 => ?_)
  obtain ⟨h2, k3⟩ := h2
  refine V_icmp_eq_t hC 584 dL_law_556 (by decide) (h1.trans h2.symm) ?_
  exact kk _ u2 ((hG.save _).mono (by omega)) (LI.back k1 k3)
set_option maxHeartbeats 4000000 in
set_option maxRecDepth 100000 in
theorem lc_restore {E : EV} {g : GE} {ad : Nat → Nat} {b L i : Nat} {xs : Nat → Int32} (hX : LX E g b L xs) {K : Int} (hK : 30 ≤ K) (hK2 : K ≤ 80000000) {S : ST} {u : Nat → va_E} (hG : goodS K S) (hI : LI g ad S u) (hi : i + 2 < L) (kk : ∀ (S2 : ST) (u2 : Nat → va_E), goodS (K + 100) S2 → LI g ad S2 u2 → V E g 190 ad 190 3923 u2 584 (llo b ad i) []) : V E g 190 ad 190 3923 u 561 (llo b ad i) [] := by
  have hC := hX.1
  refine V_aload_n hC dL_law_561 rfl rfl ?_
  refine V_sarg hX 1 1 dL_law_562 dL_law_563 dL_law_564 (by decide) dL_law_565 dL_law_566 (nI_k1 i) (by omega) ?_
  refine V_cvI (n := 1) hC (c_X4_restore g (eL E) (o := 0) (by omega) hI.1 (xs (i + 1)) ) dL_law_567 gL_law_X4_restore rfl rfl rfl ⟨rfl, rfl⟩ (by decide +kernel) (by decide +kernel) (by omega) hI.1.1.1 rfl (Nat.le_of_ble_eq_true rfl) ⟨Nat.le_of_ble_eq_true rfl, Nat.le_of_ble_eq_true rfl⟩ (fun x1 u1 h1 => ?_)
  obtain ⟨h1, k1, k2⟩ := h1
  obtain ⟨a, kp, hs, hl, so, sv, pd, pn, sp, od, wb, nb, eu, hM⟩ := hI.away k2
  refine V_aload_n hC dL_law_570 rfl rfl ?_
  refine V_sarg hX 1 1 dL_law_571 dL_law_572 dL_law_573 (by decide) dL_law_574 dL_law_575 (nI_k1 i) (by omega) ?_
  refine V_f eu ?_
  refine V_cvI (n := 1) hC (c_X5_restore g (eL E) (o := 183) (by omega) hM (xs (i + 1)) ) dL_law_576 gL_law_X5_restore rfl rfl rfl ⟨rfl, rfl⟩ (by decide +kernel) (by decide +kernel) (by omega) zM_0 rfl (Nat.le_of_ble_eq_true rfl) ⟨Nat.le_of_ble_eq_true rfl, Nat.le_of_ble_eq_true rfl⟩ (fun x2 u2 h2 => ?_)
  obtain ⟨h2, k3⟩ := h2
  refine V_icmp_eq_t hC 584 dL_law_579 (by decide) (h1.trans h2.symm) ?_
  exact kk _ u2 ((hG.restore _).mono (by omega)) (LI.back k1 k3)
set_option maxHeartbeats 4000000 in
set_option maxRecDepth 100000 in
/-- one call of the script -/
theorem law_step {E : EV} {g : GE} {ad : Nat → Nat} {b L i : Nat} {xs : Nat → Int32} (hX : LX E g b L xs) {K : Int} (hK : 30 ≤ K) (hK2 : K ≤ 80000000) {S : ST} {u : Nat → va_E} (hG : goodS K S) (hI : LI g ad S u) (hi : i + 2 < L) (kk : ∀ (S2 : ST) (u2 : Nat → va_E), goodS (K + 100) S2 → LI g ad S2 u2 → V E g 190 ad 190 3923 u2 584 (llo b ad i) []) : V E g 190 ad 190 3923 u 26 (llo b ad i) [] := by
  have hC := hX.1
  refine V_aload_n hC dL_law_26 rfl rfl ?_
  refine V_iload_n hC dL_law_27 rfl rfl ?_
  refine V_sld hX (k := i) rfl (by omega) dL_law_28 ?_
  refine V_bipush hC 31 dL_law_29 (by decide) ?_
  refine V_iand hC dL_law_31 ?_
  refine V_top (fun x _ => ?_)
  by_cases ho : x.toInt < 0 ∨ 17 < x.toInt
  · exact V_tableOut hC 584 dL_law_32 ho (by decide) (kk S u (hG.mono (by omega)) hI)
  · rcases (show x.toInt = 0 ∨ x.toInt = 1 ∨ x.toInt = 2 ∨ x.toInt = 3 ∨ x.toInt = 4 ∨ x.toInt = 5 ∨ x.toInt = 6 ∨ x.toInt = 7 ∨ x.toInt = 8 ∨ x.toInt = 9 ∨ x.toInt = 10 ∨ x.toInt = 11 ∨ x.toInt = 12 ∨ x.toInt = 13 ∨ x.toInt = 14 ∨ x.toInt = 15 ∨ x.toInt = 16 ∨ x.toInt = 17 by omega) with e | e | e | e | e | e | e | e | e | e | e | e | e | e | e | e | e | e
    · exact V_tableIn (off := 88) hC 120 dL_law_32 (by omega) (by omega) (by rw [e]; rfl) (by decide) (lc_set hX hK hK2 hG hI hi kk)
    · exact V_tableIn (off := 121) hC 153 dL_law_32 (by omega) (by omega) (by rw [e]; rfl) (by decide) (lc_arrive hX hK hK2 hG hI hi kk)
    · exact V_tableIn (off := 144) hC 176 dL_law_32 (by omega) (by omega) (by rw [e]; rfl) (by decide) (lc_turn hX hK hK2 hG hI hi kk)
    · exact V_tableIn (off := 177) hC 209 dL_law_32 (by omega) (by omega) (by rw [e]; rfl) (by decide) (lc_pass hX hK hK2 hG hI hi kk)
    · exact V_tableIn (off := 200) hC 232 dL_law_32 (by omega) (by omega) (by rw [e]; rfl) (by decide) (lc_box hX hK hK2 hG hI hi kk)
    · exact V_tableIn (off := 233) hC 265 dL_law_32 (by omega) (by omega) (by rw [e]; rfl) (by decide) (lc_plan hX hK hK2 hG hI hi kk)
    · exact V_tableIn (off := 256) hC 288 dL_law_32 (by omega) (by omega) (by rw [e]; rfl) (by decide) (lc_report hX hK hK2 hG hI hi kk)
    · exact V_tableIn (off := 289) hC 321 dL_law_32 (by omega) (by omega) (by rw [e]; rfl) (by decide) (lc_count hX hK hK2 hG hI hi kk)
    · exact V_tableIn (off := 312) hC 344 dL_law_32 (by omega) (by omega) (by rw [e]; rfl) (by decide) (lc_ifPass hX hK hK2 hG hI hi kk)
    · exact V_tableIn (off := 345) hC 377 dL_law_32 (by omega) (by omega) (by rw [e]; rfl) (by decide) (lc_bestGuess hX hK hK2 hG hI hi kk)
    · exact V_tableIn (off := 378) hC 410 dL_law_32 (by omega) (by omega) (by rw [e]; rfl) (by decide) (lc_neededSlack hX hK hK2 hG hI hi kk)
    · exact V_tableIn (off := 401) hC 433 dL_law_32 (by omega) (by omega) (by rw [e]; rfl) (by decide) (lc_put hX hK hK2 hG hI hi kk)
    · exact V_tableIn (off := 454) hC 486 dL_law_32 (by omega) (by omega) (by rw [e]; rfl) (by decide) (lc_wipe hX hK hK2 hG hI hi kk)
    · exact V_tableIn (off := 467) hC 499 dL_law_32 (by omega) (by omega) (by rw [e]; rfl) (by decide) (lc_fault hX hK hK2 hG hI hi kk)
    · exact V_tableIn (off := 480) hC 512 dL_law_32 (by omega) (by omega) (by rw [e]; rfl) (by decide) (lc_carryOut hX hK hK2 hG hI hi kk)
    · exact V_tableIn (off := 493) hC 525 dL_law_32 (by omega) (by omega) (by rw [e]; rfl) (by decide) (lc_undo hX hK hK2 hG hI hi kk)
    · exact V_tableIn (off := 506) hC 538 dL_law_32 (by omega) (by omega) (by rw [e]; rfl) (by decide) (lc_save hX hK hK2 hG hI hi kk)
    · exact V_tableIn (off := 529) hC 561 dL_law_32 (by omega) (by omega) (by rw [e]; rfl) (by decide) (lc_restore hX hK hK2 hG hI hi kk)
set_option maxHeartbeats 4000000 in
theorem law_head {E : EV} {g : GE} {ad : Nat → Nat} {b L i : Nat} {xs : Nat → Int32} (hX : LX E g b L xs) {u : Nat → va_E} (hi : i ≤ 100000) (kk : i + 2 < L → V E g 190 ad 190 3923 u 26 (llo b ad i) []) : V E g 190 ad 190 3923 u 18 (llo b ad i) [] := by
  have hC := hX.1
  have hL := hX.2.2.2.2.2.1
  refine V_iload_n hC dL_law_18 rfl rfl ?_
  refine V_aload_n hC dL_law_19 rfl rfl ?_
  refine V_slen hX dL_law_20 ?_
  refine V_iconst hC 3 dL_law_21 (by decide) ?_
  refine V_isub hC dL_law_22 ?_
  refine V_icmp_gt hC 590 dL_law_23 (by decide) (fun c => ?_) (fun c => ?_)
  · refine V_iconst hC 1 dL_law_590 (by decide) ?_
    exact V_lend hX
  · refine kk ?_
    have e3 : (3 : Int32).toInt = 3 := rfl
    have eL : (nI L).toInt = L := nI_toInt (by omega)
    have ei : (nI i).toInt = i := nI_toInt (by omega)
    rw [Int32.lt_iff_toInt_lt, i_sub (by omega) (by omega), eL, ei, e3] at c
    omega
/-- the law's loop -/
theorem law_loop {E : EV} {g : GE} {ad : Nat → Nat} {b L : Nat} {xs : Nat → Int32} (hX : LX E g b L xs) : ∀ (n i : Nat) (K : Int) (S : ST) (u : Nat → va_E), L ≤ i + n → i ≤ L + 3 → 30 ≤ K → K ≤ 100 * ((i : Int) + 1) → goodS K S → LI g ad S u → V E g 190 ad 190 3923 u 18 (llo b ad i) [] := by
  have hC := hX.1
  have hL := hX.2.2.2.2.2.1
  have h4 := hX.2.2.2.2.1
  intro n
  induction n with
  | zero =>
    intro i K S u h1 h2 h3 h5 hG hI
    exact law_head hX (by omega) fun h => absurd h (by omega)
  | succ n ih =>
    intro i K S u h1 h2 h3 h5 hG hI
    refine law_head hX (by omega) fun h => ?_
    refine law_step hX h3 (by omega) hG hI h fun S2 u2 hG2 hI2 => ?_
    refine V_iinc3 hC (nI (i + 3)) dL_law_584 (nI_k3 i) (by rw [h4]; decide) rfl ?_
    refine V_goto hC 18 dL_law_587 (by decide) ?_
    exact ih (i + 3) (K + 100) S2 u2 (by omega) (by omega) (by omega) (by omega) hG2 hI2
