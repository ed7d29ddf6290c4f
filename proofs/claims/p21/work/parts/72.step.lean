theorem CAt.keep {g : GE} {ad : Nat → Nat} {o : Nat} {S : ST} {u v : Nat → va_E} (h : CAt g ad o S u) (he : ∀ q, o ≤ q → q < o + 183 → v q = u q) : CAt g ad o S v := ⟨h.1.keep fun q hq => he q (by omega) (by omega), h.2.1.keep fun q a b => he q (by omega) (by omega), h.2.2.keep fun q a b => he q (by omega) (by omega)⟩
theorem ans_eq {S T : ST} (h : T.1 = S.1) (F : MT → Int32 × MT) : (sChange (F S.1) S).1 = (sChange (F T.1) T).1 := by
  show (F S.1).1 = (F T.1).1
  rw [h]
theorem left_s (a b c : Int32) : b - a + (c - b) = c - a := by
  rw [Int32.sub_eq_add_neg, Int32.sub_eq_add_neg, Int32.sub_eq_add_neg, Int32.add_comm c, ← Int32.add_assoc, Int32.add_assoc b, Int32.add_comm (-a), ← Int32.add_assoc, Int32.add_right_neg, Int32.zero_add, Int32.add_comm]
theorem inX0_L_isStep : ∀ w ∈ wsX00, w ∈ wsL_isStep := by decide +kernel
theorem inX1_L_isStep : ∀ w ∈ wsX10, w ∈ wsL_isStep := by decide +kernel
theorem inX2_L_isStep : ∀ w ∈ wsX20, w ∈ wsL_isStep := by decide +kernel
theorem inX4_L_isStep : ∀ w ∈ wsX40, w ∈ wsL_isStep := by decide +kernel
abbrev rmL_isStep : Room := { frames := 6, cells := 0, slots := 0, locals := 150 }
set_option maxHeartbeats 4000000 in
set_option maxRecDepth 100000 in
theorem c_L_isStep (g : GE) (lau : Launch) {N : Nat} {ad : Nat → Nat} {f : Nat → va_E} (hN : 366 ≤ N) {S T : ST} (hS : CAt g ad 0 S f) (hT : CAt g ad 183 T f) {K : Int} {i : Nat} (hW : LW K i S T) (hK : 30 ≤ K) (hK2 : K ≤ 1000) (hi : i ≤ 100) (x0 : Int32) : Ct g lau yL_isStep wsL_isStep rmL_isStep N ad [.ref (ad 0), .ref (ad 183), .int x0] f (pI N ad (fun x u => x = 1 ∧ ∃ S2 T2, LW (K + 1) (i + 1) S2 T2 ∧ CAt g ad 0 S2 u ∧ CAt g ad 183 T2 u)) 0 0 := by
  refine Ct.of (maxL := 8) rfl (by decide +kernel) [some (.ref (ad 0)), some (.ref (ad 183)), some (.int x0), none, none, none, none, none] (Nat.le_of_ble_eq_true rfl) (by simp [lvo, lv_args, Value.category]) (fun E hnl _ hC hR => ?_)
  have hM1 : goodM K S.1 := hW.1.1.1
  have hM2 : goodM K T.1 := hW.2.1.1.1
  have e31 : T.1 = S.1 := hW.2.2.1
  obtain ⟨f0, hf0⟩ : ∃ z, z = f := ⟨_, rfl⟩
  have tset : ∀ (y w4 k v : Int32) (w6 w7 : Option Value), V E g N ad 0 0 f 255 [some (.ref (ad 0)), some (.ref (ad 183)), some (.int x0), some (.int (y)), some (.int (w4)), some (.int (k)), w6, w7] [.int v] := by
    intro y w4 k v w6 w7
    refine V_istore6 hC dL_isStep_255 (by rw [hnl]; decide) rfl ?_
    refine V_aload_n hC dL_isStep_257 rfl rfl ?_
    refine V_iload hC dL_isStep_258 rfl ?_
    refine V_iload hC dL_isStep_260 rfl ?_
    refine V_cvI (n := 2) hC (c_X4_set g (eL E) (o := 0) (by omega) hS k v) dL_isStep_262 gL_isStep_X4_set rfl rfl rfl ⟨rfl, rfl⟩ (by decide +kernel) (by decide +kernel) (by omega) hS.1.1 rfl (Nat.le_of_ble_eq_true rfl) (by decide) (fun x262 u262 h262 => ?_)
    obtain ⟨rfl, hS1, k1⟩ := h262
    have hT1 : CAt g ad 183 T u262 := hT.keep fun q _ _ => k1 q (by omega)
    refine V_aload_n hC dL_isStep_265 rfl rfl ?_
    refine V_iload hC dL_isStep_266 rfl ?_
    refine V_iload hC dL_isStep_268 rfl ?_
    refine V_cvI (n := 2) hC (c_X4_set g (eL E) (o := 183) (by omega) hT1 k v) dL_isStep_270 gL_isStep_X4_set rfl rfl rfl ⟨rfl, rfl⟩ (by decide +kernel) (by decide +kernel) (by omega) hT1.1.1 rfl (Nat.le_of_ble_eq_true rfl) (by decide) (fun x270 u270 h270 => ?_)
    obtain ⟨rfl, hT2, k2⟩ := h270
    have hS2 := hS1.keep (v := u270) fun q _ _ => k2 q (by omega)
    refine V_icmp_ne_f (tgt := 280) hC dL_isStep_273 (by decide) (ans_eq e31 (mSet k v)) ?_
    refine V_iconst hC 1 dL_isStep_276 (by decide) ?_
    refine V_goto hC 281 dL_isStep_277 (by decide) ?_
    refine V_zret hC hR rfl dL_isStep_281 ⟨rfl, rfl, _, rfl, ?_⟩
    exact ⟨rfl, _, _, hW.set k v, hS2, hT2⟩
  have tpass : ∀ (y w4 : Int32) (n : Nat), 1 ≤ n → n ≤ 9 → ∀ (j k : Nat) (f : Nat → va_E) (T2 : ST), k + j = n → CAt g ad 0 S f → CAt g ad 183 T2 f → LPas K k S.1 T2 → V E g N ad 0 0 f 72 [some (.ref (ad 0)), some (.ref (ad 183)), some (.int x0), some (.int (y)), some (.int (w4)), some (.int (nI n)), some (.int (sLeft (mTicks k S.1).1 - sLeft S.1.1)), some (.int (nI k))] [] := by
    intro y w4 n hn1 hn2 j
    induction j with
    | zero =>
      intro k f T2 hk hS hT hL
      have hk : k = n := by omega
      subst hk
      obtain ⟨a1, a2⟩ := hW.pass hK2 hi hn1 hn2 hL
      refine V_iload hC dL_isStep_72 rfl ?_
      refine V_iload hC dL_isStep_74 rfl ?_
      refine V_icmp_ge_t hC 95 dL_isStep_76 (by decide) (Int32.le_refl _) ?_
      refine V_aload_n hC dL_isStep_95 rfl rfl ?_
      refine V_iload hC dL_isStep_96 rfl ?_
      refine V_cvI (n := 1) hC (c_X4_pass g (eL E) (o := 0) (by omega) hS (nI k) (fun n hn => hW.1.1.ok (by omega) n hn) hM1.2.2.2.1) dL_isStep_98 gL_isStep_X4_pass rfl rfl rfl ⟨rfl, rfl⟩ (by decide +kernel) (by decide +kernel) (by omega) hS.1.1 rfl (Nat.le_of_ble_eq_true rfl) (by decide) (fun x98 u98 h98 => ?_)
      obtain ⟨rfl, hS2, k1⟩ := h98
      have hT2 := hT.keep (v := u98) fun q _ _ => k1 q (by omega)
      refine V_iload hC dL_isStep_101 rfl ?_
      refine V_icmp_ne_f (tgt := 110) hC dL_isStep_103 (by decide) a1 ?_
      refine V_iconst hC 1 dL_isStep_106 (by decide) ?_
      refine V_goto hC 111 dL_isStep_107 (by decide) ?_
      refine V_zret hC hR rfl dL_isStep_111 ⟨rfl, rfl, _, rfl, ?_⟩
      exact ⟨rfl, _, _, a2, hS2, hT2⟩
    | succ j ih =>
      intro k f T2 hk hS hT hL
      obtain ⟨a1, a2⟩ := hL.go hK2 hM1 (by have := hW.2.2.2.1; omega)
      refine V_iload hC dL_isStep_72 rfl ?_
      refine V_iload hC dL_isStep_74 rfl ?_
      refine V_icmp_ge_f (tgt := 95) hC dL_isStep_76 (by decide) (nI_ge (by omega) (by omega)) ?_
      refine V_iload hC dL_isStep_79 rfl ?_
      refine V_aload_n hC dL_isStep_81 rfl rfl ?_
      refine V_iconst hC 1 dL_isStep_82 (by decide) ?_
      refine V_cvI (n := 1) hC (c_X4_pass g (eL E) (o := 183) (by omega) hT 1 (fun n hn => hL.1.1.ok (by omega) n hn) hL.1.1.1.2.2.2.1) dL_isStep_83 gL_isStep_X4_pass rfl rfl rfl ⟨rfl, rfl⟩ (by decide +kernel) (by decide +kernel) (by omega) hT.1.1 rfl (Nat.le_of_ble_eq_true rfl) (by decide) (fun x83 u83 h83 => ?_)
      obtain ⟨rfl, hT2, k1⟩ := h83
      have hS2 := hS.keep (v := u83) fun q _ _ => k1 q (by omega)
      refine V_iadd hC dL_isStep_86 ?_
      refine V_eqt (sLeft (mTicks (k + 1) S.1).1 - sLeft S.1.1) (by rw [a1]; exact left_s _ _ _) ?_
      refine V_istore6 hC dL_isStep_87 (by rw [hnl]; decide) rfl ?_
      refine V_iinc7 hC (nI (k + 1)) dL_isStep_89 (nI_1 k) (by rw [hnl]; decide) rfl ?_
      refine V_goto hC 72 dL_isStep_92 (by decide) ?_
      exact ih (k + 1) _ _ (by omega) hS2 hT2 a2
  have h14 := upN_lt x0 (d := 14) (by decide)
  refine V_iload_n hC dL_isStep_0 rfl rfl ?_
  refine V_iconst hC 4 dL_isStep_1 (by decide) ?_
  refine V_ishr hC dL_isStep_2 ?_
  generalize x0 >>> (4 &&& 31) = y
  refine V_istore_n3 hC dL_isStep_3 rfl (by rw [hnl]; decide) rfl ?_
  refine V_iload_n hC dL_isStep_4 rfl rfl ?_
  refine V_bipush hC 14 dL_isStep_5 (by decide) ?_
  refine V_csI (n := 2) hC (c_L_up g (eL E) (x0) (d := 14) (by decide) (by decide)) dL_isStep_7 gL_isStep_L_up rfl rfl rfl ⟨rfl, rfl⟩ (by decide +kernel) (by decide +kernel) (Nat.le_of_ble_eq_true rfl) (by decide) (fun x7 u7 h7 => ?_)
  obtain ⟨rfl, rfl⟩ := h7
  refine V_istore4 hC dL_isStep_10 (by rw [hnl]; decide) rfl ?_
  refine V_iload hC dL_isStep_12 rfl ?_
  refine V_iconst hC 5 dL_isStep_14 (by decide) ?_
  refine V_icmp_ge hC 49 dL_isStep_15 (by decide) (fun c15 => ?_) (fun c15 => ?_)
  · refine V_iload hC dL_isStep_49 rfl ?_
    refine V_bipush hC 11 dL_isStep_51 (by decide) ?_
    refine V_icmp_ge hC 112 dL_isStep_53 (by decide) (fun c53 => ?_) (fun c53 => ?_)
    · refine V_iload hC dL_isStep_112 rfl ?_
      refine V_bipush hC 11 dL_isStep_114 (by decide) ?_
      refine V_icmp_ne hC 166 dL_isStep_116 (by decide) (fun c116 => ?_) (fun c116 => ?_)
      · refine V_iload_n hC dL_isStep_166 rfl rfl ?_
        refine V_bipush hC 8 dL_isStep_167 (by decide) ?_
        refine V_csI (n := 2) hC (c_L_up g (eL E) (y) (d := 8) (by decide) (by decide)) dL_isStep_169 gL_isStep_L_up rfl rfl rfl ⟨rfl, rfl⟩ (by decide +kernel) (by decide +kernel) (Nat.le_of_ble_eq_true rfl) (by decide) (fun x169 u169 h169 => ?_)
        obtain ⟨rfl, rfl⟩ := h169
        refine V_istore5 hC dL_isStep_172 (by rw [hnl]; decide) rfl ?_
        refine V_iload hC dL_isStep_174 rfl ?_
        refine V_iconst hC 3 dL_isStep_176 (by decide) ?_
        refine V_icmp_ne hC 191 dL_isStep_177 (by decide) (fun c177 => ?_) (fun c177 => ?_)
        · refine V_iload hC dL_isStep_191 rfl ?_
          refine V_iconst hC 4 dL_isStep_193 (by decide) ?_
          refine V_icmp_ne hC 210 dL_isStep_194 (by decide) (fun c194 => ?_) (fun c194 => ?_)
          · refine V_iload hC dL_isStep_210 rfl ?_
            refine V_iconst hC 5 dL_isStep_212 (by decide) ?_
            refine V_icmp_ne hC 230 dL_isStep_213 (by decide) (fun c213 => ?_) (fun c213 => ?_)
            · refine V_iload_n hC dL_isStep_230 rfl rfl ?_
              refine V_iconst hC 3 dL_isStep_231 (by decide) ?_
              refine V_ishr hC dL_isStep_232 ?_
              refine V_iload hC dL_isStep_233 rfl ?_
              refine V_iconst hC 1 dL_isStep_235 (by decide) ?_
              refine V_icmp_eq hC 245 dL_isStep_236 (by decide) (fun c236 => ?_) (fun c236 => ?_)
              · refine V_bipush hC 6 dL_isStep_245 (by decide) ?_
                refine V_goto hC 252 dL_isStep_247 (by decide) ?_
                refine V_csI (n := 2) hC (c_L_up g (eL E) (y >>> (3 &&& 31)) (d := 6) (by decide) (by decide)) dL_isStep_252 gL_isStep_L_up rfl rfl rfl ⟨rfl, rfl⟩ (by decide +kernel) (by decide +kernel) (Nat.le_of_ble_eq_true rfl) (by decide) (fun x252 u252 h252 => ?_)
                obtain ⟨rfl, rfl⟩ := h252
                exact tset y _ _ _ none none
              · refine V_iload hC dL_isStep_239 rfl ?_
                refine V_iconst hC 2 dL_isStep_241 (by decide) ?_
                refine V_icmp_ne hC 250 dL_isStep_242 (by decide) (fun c242 => ?_) (fun c242 => ?_)
                · refine V_bipush hC 10 dL_isStep_250 (by decide) ?_
                  refine V_csI (n := 2) hC (c_L_up g (eL E) (y >>> (3 &&& 31)) (d := 10) (by decide) (by decide)) dL_isStep_252 gL_isStep_L_up rfl rfl rfl ⟨rfl, rfl⟩ (by decide +kernel) (by decide +kernel) (Nat.le_of_ble_eq_true rfl) (by decide) (fun x252 u252 h252 => ?_)
                  obtain ⟨rfl, rfl⟩ := h252
                  exact tset y _ _ _ none none
                · refine V_bipush hC 6 dL_isStep_245 (by decide) ?_
                  refine V_goto hC 252 dL_isStep_247 (by decide) ?_
                  refine V_csI (n := 2) hC (c_L_up g (eL E) (y >>> (3 &&& 31)) (d := 6) (by decide) (by decide)) dL_isStep_252 gL_isStep_L_up rfl rfl rfl ⟨rfl, rfl⟩ (by decide +kernel) (by decide +kernel) (Nat.le_of_ble_eq_true rfl) (by decide) (fun x252 u252 h252 => ?_)
                  obtain ⟨rfl, rfl⟩ := h252
                  exact tset y _ _ _ none none
            · refine V_bipush hC 20 dL_isStep_216 (by decide) ?_
              refine V_iload_n hC dL_isStep_218 rfl rfl ?_
              refine V_iconst hC 3 dL_isStep_219 (by decide) ?_
              refine V_ishr hC dL_isStep_220 ?_
              refine V_bipush hC 41 dL_isStep_221 (by decide) ?_
              refine V_csI (n := 2) hC (c_L_up g (eL E) (y >>> (3 &&& 31)) (d := 41) (by decide) (by decide)) dL_isStep_223 gL_isStep_L_up rfl rfl rfl ⟨rfl, rfl⟩ (by decide +kernel) (by decide +kernel) (Nat.le_of_ble_eq_true rfl) (by decide) (fun x223 u223 h223 => ?_)
              obtain ⟨rfl, rfl⟩ := h223
              refine V_iadd hC dL_isStep_226 ?_
              refine V_goto hC 255 dL_isStep_227 (by decide) ?_
              exact tset y _ _ _ none none
          · refine V_iconst hC 1 dL_isStep_197 (by decide) ?_
            refine V_iload_n hC dL_isStep_198 rfl rfl ?_
            refine V_iconst hC 3 dL_isStep_199 (by decide) ?_
            refine V_ishr hC dL_isStep_200 ?_
            refine V_bipush hC 12 dL_isStep_201 (by decide) ?_
            refine V_csI (n := 2) hC (c_L_up g (eL E) (y >>> (3 &&& 31)) (d := 12) (by decide) (by decide)) dL_isStep_203 gL_isStep_L_up rfl rfl rfl ⟨rfl, rfl⟩ (by decide +kernel) (by decide +kernel) (Nat.le_of_ble_eq_true rfl) (by decide) (fun x203 u203 h203 => ?_)
            obtain ⟨rfl, rfl⟩ := h203
            refine V_iadd hC dL_isStep_206 ?_
            refine V_goto hC 255 dL_isStep_207 (by decide) ?_
            exact tset y _ _ _ none none
        · refine V_iload_n hC dL_isStep_180 rfl rfl ?_
          refine V_iconst hC 3 dL_isStep_181 (by decide) ?_
          refine V_ishr hC dL_isStep_182 ?_
          refine V_bipush hC 21 dL_isStep_183 (by decide) ?_
          refine V_csI (n := 2) hC (c_L_up g (eL E) (y >>> (3 &&& 31)) (d := 21) (by decide) (by decide)) dL_isStep_185 gL_isStep_L_up rfl rfl rfl ⟨rfl, rfl⟩ (by decide +kernel) (by decide +kernel) (Nat.le_of_ble_eq_true rfl) (by decide) (fun x185 u185 h185 => ?_)
          obtain ⟨rfl, rfl⟩ := h185
          refine V_goto hC 255 dL_isStep_188 (by decide) ?_
          exact tset y _ _ _ none none
      · refine V_aload_n hC dL_isStep_119 rfl rfl ?_
        refine V_iload_n hC dL_isStep_120 rfl rfl ?_
        refine V_iconst hC 4 dL_isStep_121 (by decide) ?_
        refine V_csI (n := 2) hC (c_L_up g (eL E) (y) (d := 4) (by decide) (by decide)) dL_isStep_122 gL_isStep_L_up rfl rfl rfl ⟨rfl, rfl⟩ (by decide +kernel) (by decide +kernel) (Nat.le_of_ble_eq_true rfl) (by decide) (fun x122 u122 h122 => ?_)
        obtain ⟨rfl, rfl⟩ := h122
        refine V_iconst hC 4 dL_isStep_125 (by decide) ?_
        refine V_iload_n hC dL_isStep_126 rfl rfl ?_
        refine V_iconst hC 2 dL_isStep_127 (by decide) ?_
        refine V_ishr hC dL_isStep_128 ?_
        refine V_bipush hC 27 dL_isStep_129 (by decide) ?_
        refine V_csI (n := 2) hC (c_L_up g (eL E) (y >>> (2 &&& 31)) (d := 27) (by decide) (by decide)) dL_isStep_131 gL_isStep_L_up rfl rfl rfl ⟨rfl, rfl⟩ (by decide +kernel) (by decide +kernel) (Nat.le_of_ble_eq_true rfl) (by decide) (fun x131 u131 h131 => ?_)
        obtain ⟨rfl, rfl⟩ := h131
        refine V_iadd hC dL_isStep_134 ?_
        refine V_cvI (n := 2) hC (c_X4_turn g (eL E) (o := 0) (by omega) hS (nI (upN y 4)) ((4 : Int32) + nI (upN (y >>> (2 &&& 31)) 27)) hM1.len) dL_isStep_135 gL_isStep_X4_turn rfl rfl rfl ⟨rfl, rfl⟩ (by decide +kernel) (by decide +kernel) (by omega) hS.1.1 rfl (Nat.le_of_ble_eq_true rfl) (by decide) (fun x135 u135 h135 => ?_)
        obtain ⟨rfl, hS1, k1⟩ := h135
        have hT1 : CAt g ad 183 T u135 := hT.keep fun q _ _ => k1 q (by omega)
        refine V_aload_n hC dL_isStep_138 rfl rfl ?_
        refine V_iload_n hC dL_isStep_139 rfl rfl ?_
        refine V_iconst hC 4 dL_isStep_140 (by decide) ?_
        refine V_csI (n := 2) hC (c_L_up g (eL E) (y) (d := 4) (by decide) (by decide)) dL_isStep_141 gL_isStep_L_up rfl rfl rfl ⟨rfl, rfl⟩ (by decide +kernel) (by decide +kernel) (Nat.le_of_ble_eq_true rfl) (by decide) (fun x141 u141 h141 => ?_)
        obtain ⟨rfl, rfl⟩ := h141
        refine V_iconst hC 4 dL_isStep_144 (by decide) ?_
        refine V_iload_n hC dL_isStep_145 rfl rfl ?_
        refine V_iconst hC 2 dL_isStep_146 (by decide) ?_
        refine V_ishr hC dL_isStep_147 ?_
        refine V_bipush hC 27 dL_isStep_148 (by decide) ?_
        refine V_csI (n := 2) hC (c_L_up g (eL E) (y >>> (2 &&& 31)) (d := 27) (by decide) (by decide)) dL_isStep_150 gL_isStep_L_up rfl rfl rfl ⟨rfl, rfl⟩ (by decide +kernel) (by decide +kernel) (Nat.le_of_ble_eq_true rfl) (by decide) (fun x150 u150 h150 => ?_)
        obtain ⟨rfl, rfl⟩ := h150
        refine V_iadd hC dL_isStep_153 ?_
        refine V_cvI (n := 2) hC (c_X4_turn g (eL E) (o := 183) (by omega) hT1 (nI (upN y 4)) ((4 : Int32) + nI (upN (y >>> (2 &&& 31)) 27)) hM2.len) dL_isStep_154 gL_isStep_X4_turn rfl rfl rfl ⟨rfl, rfl⟩ (by decide +kernel) (by decide +kernel) (by omega) hT1.1.1 rfl (Nat.le_of_ble_eq_true rfl) (by decide) (fun x154 u154 h154 => ?_)
        obtain ⟨rfl, hT2, k2⟩ := h154
        have hS2 := hS1.keep (v := u154) fun q _ _ => k2 q (by omega)
        refine V_icmp_ne_f (tgt := 164) hC dL_isStep_157 (by decide) (ans_eq e31 (mTurn (nI (upN y 4)) ((4 : Int32) + nI (upN (y >>> (2 &&& 31)) 27)))) ?_
        refine V_iconst hC 1 dL_isStep_160 (by decide) ?_
        refine V_goto hC 165 dL_isStep_161 (by decide) ?_
        refine V_zret hC hR rfl dL_isStep_165 ⟨rfl, rfl, _, rfl, ?_⟩
        exact ⟨rfl, _, _, hW.turn hK2 _ _, hS2, hT2⟩
    · refine V_iconst hC 1 dL_isStep_56 (by decide) ?_
      refine V_iload_n hC dL_isStep_57 rfl rfl ?_
      refine V_bipush hC 9 dL_isStep_58 (by decide) ?_
      refine V_csI (n := 2) hC (c_L_up g (eL E) (y) (d := 9) (by decide) (by decide)) dL_isStep_60 gL_isStep_L_up rfl rfl rfl ⟨rfl, rfl⟩ (by decide +kernel) (by decide +kernel) (Nat.le_of_ble_eq_true rfl) (by decide) (fun x60 u60 h60 => ?_)
      obtain ⟨rfl, rfl⟩ := h60
      refine V_iadd hC dL_isStep_63 ?_
      refine V_eqt (nI (1 + upN y 9)) (nI_add 1 _) ?_
      refine V_istore5 hC dL_isStep_64 (by rw [hnl]; decide) rfl ?_
      refine V_iconst hC 0 dL_isStep_66 (by decide) ?_
      refine V_eqt (sLeft (mTicks 0 S.1).1 - sLeft S.1.1) (Int32.sub_self _).symm ?_
      refine V_istore6 hC dL_isStep_67 (by rw [hnl]; decide) rfl ?_
      refine V_iconst hC 0 dL_isStep_69 (by decide) ?_
      refine V_istore7 hC dL_isStep_70 (by rw [hnl]; decide) rfl ?_
      have h9 := upN_lt y (d := 9) (by decide)
      exact tpass y _ (1 + upN y 9) (by omega) (by omega) (1 + upN y 9) 0 _ T (by omega) hS hT ⟨hW.2.1, e31⟩
  · refine V_iconst hC 4 dL_isStep_18 (by decide) ?_
    refine V_iload_n hC dL_isStep_19 rfl rfl ?_
    refine V_bipush hC 14 dL_isStep_20 (by decide) ?_
    refine V_csI (n := 2) hC (c_L_up g (eL E) (y) (d := 14) (by decide) (by decide)) dL_isStep_22 gL_isStep_L_up rfl rfl rfl ⟨rfl, rfl⟩ (by decide +kernel) (by decide +kernel) (Nat.le_of_ble_eq_true rfl) (by decide) (fun x22 u22 h22 => ?_)
    obtain ⟨rfl, rfl⟩ := h22
    refine V_iadd hC dL_isStep_25 ?_
    refine V_istore5 hC dL_isStep_26 (by rw [hnl]; decide) rfl ?_
    refine V_aload_n hC dL_isStep_28 rfl rfl ?_
    refine V_iload hC dL_isStep_29 rfl ?_
    refine V_cvI (n := 1) hC (c_X4_arrive g (eL E) (o := 0) (by omega) hS (4 + nI (upN y 14))) dL_isStep_31 gL_isStep_X4_arrive rfl rfl rfl ⟨rfl, rfl⟩ (by decide +kernel) (by decide +kernel) (by omega) hS.1.1 rfl (Nat.le_of_ble_eq_true rfl) (by decide) (fun x31 u31 h31 => ?_)
    obtain ⟨rfl, hS1, k1⟩ := h31
    have hT1 : CAt g ad 183 T u31 := hT.keep fun q _ _ => k1 q (by omega)
    refine V_aload_n hC dL_isStep_34 rfl rfl ?_
    refine V_iload hC dL_isStep_35 rfl ?_
    refine V_cvI (n := 1) hC (c_X4_arrive g (eL E) (o := 183) (by omega) hT1 (4 + nI (upN y 14))) dL_isStep_37 gL_isStep_X4_arrive rfl rfl rfl ⟨rfl, rfl⟩ (by decide +kernel) (by decide +kernel) (by omega) hT1.1.1 rfl (Nat.le_of_ble_eq_true rfl) (by decide) (fun x37 u37 h37 => ?_)
    obtain ⟨rfl, hT2, k2⟩ := h37
    have hS2 := hS1.keep (v := u37) fun q _ _ => k2 q (by omega)
    refine V_icmp_ne_f (tgt := 47) hC dL_isStep_40 (by decide) (ans_eq e31 (mArrive (4 + nI (upN y 14)))) ?_
    refine V_iconst hC 1 dL_isStep_43 (by decide) ?_
    refine V_goto hC 48 dL_isStep_44 (by decide) ?_
    refine V_zret hC hR rfl dL_isStep_48 ⟨rfl, rfl, _, rfl, ?_⟩
    exact ⟨rfl, _, _, hW.arrive hK hK2 hi _, hS2, hT2⟩
