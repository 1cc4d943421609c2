section
variable {σ : Sg} {m : Mm}
theorem mu_mu {m : Mm} {a i x y : Int} : mu (mu m a i x) a i y = mu m a i y := by
  funext b j
  simp only [mu]
  split <;> rfl
theorem mu_id {m : Mm} {a i x : Int} (h : m a i = x) : mu m a i x = m := by
  funext b j
  simp only [mu]
  split
  next e => rw [e.1, e.2, h]
  next => rfl
theorem c_Mo_isLetter {c : Int} (h1 : -2147483648 ≤ c ∧ c ≤ 2147483647) : Call 1 m_Mo_isLetter [vi c] σ m (some (vi (b01 (c = 97 ∨ c = 98)))) σ m := by
  show Ev 1 m_Mo_isLetter 0 [some (vi c)] [] σ m _ σ m
  refine Ev.iload_n d_Mo_isLetter_0 rfl ?_
  refine Ev.bipush d_Mo_isLetter_1 rfl ?_
  refine Ev.icmp_eq (tgt := 12) d_Mo_isLetter_3 rfl (by first | omega | (simp [mu]; done) | (simp [mu]; omega)) (by first | omega | (simp [mu]; done) | (simp [mu]; omega)) (fun hb3 => ?_) (fun hb3 => ?_)
  · refine Ev.iconst d_Mo_isLetter_12 ?_
    refine Ev.goto (tgt := 17) d_Mo_isLetter_13 rfl ?_
    exact Ev.to (Ev.zreturn d_Mo_isLetter_17 rfl (by first | omega | exact b01_01)) (r1 (by omega)) rfl
  · refine Ev.iload_n d_Mo_isLetter_6 rfl ?_
    refine Ev.bipush d_Mo_isLetter_7 rfl ?_
    refine Ev.icmp_ne (tgt := 16) d_Mo_isLetter_9 rfl (by first | omega | (simp [mu]; done) | (simp [mu]; omega)) (by first | omega | (simp [mu]; done) | (simp [mu]; omega)) (fun hb9 => ?_) (fun hb9 => ?_)
    · refine Ev.iconst d_Mo_isLetter_16 ?_
      exact Ev.to (Ev.zreturn d_Mo_isLetter_17 rfl (by first | omega | exact b01_01)) (r0 (by omega)) rfl
    · refine Ev.iconst d_Mo_isLetter_12 ?_
      refine Ev.goto (tgt := 17) d_Mo_isLetter_13 rfl ?_
      exact Ev.to (Ev.zreturn d_Mo_isLetter_17 rfl (by first | omega | exact b01_01)) (r1 (by omega)) rfl
theorem c_Mo_isToken {c : Int} (h1 : -2147483648 ≤ c ∧ c ≤ 2147483647) : Call 2 m_Mo_isToken [vi c] σ m (some (vi (b01 (c = -4 ∨ (c = 97 ∨ c = 98) ∨ (49 ≤ c ∧ c ≤ 57))))) σ m := by
  show Ev 2 m_Mo_isToken 0 [some (vi c)] [] σ m _ σ m
  refine Ev.iload_n d_Mo_isToken_0 rfl ?_
  refine Ev.bipush d_Mo_isToken_1 rfl ?_
  refine Ev.icmp_eq (tgt := 27) d_Mo_isToken_3 rfl (by first | omega | (simp [mu]; done) | (simp [mu]; omega)) (by first | omega | (simp [mu]; done) | (simp [mu]; omega)) (fun hb3 => ?_) (fun hb3 => ?_)
  · refine Ev.iconst d_Mo_isToken_27 ?_
    refine Ev.goto (tgt := 32) d_Mo_isToken_28 rfl ?_
    exact Ev.to (Ev.zreturn d_Mo_isToken_32 rfl (by first | omega | exact b01_01)) (r1 (by omega)) rfl
  · refine Ev.iload_n d_Mo_isToken_6 rfl ?_
    refine Ev.callS d_Mo_isToken_7 mt_Mo_isLetter lk_Mo_236 st_Mo_isLetter rfl (Nat.le_of_ble_eq_true rfl) rfl (Nat.le_of_ble_eq_true rfl) (by decide) rfl (c_Mo_isLetter (by omega)) ?_
    refine Ev.if_ne (tgt := 27) d_Mo_isToken_10 rfl b01_b (fun hb10 => ?_) (fun hb10 => ?_)
    · rw [b01_ne] at hb10
      refine Ev.iconst d_Mo_isToken_27 ?_
      refine Ev.goto (tgt := 32) d_Mo_isToken_28 rfl ?_
      exact Ev.to (Ev.zreturn d_Mo_isToken_32 rfl (by first | omega | exact b01_01)) (r1 (by omega)) rfl
    · rw [b01_eq] at hb10
      refine Ev.iload_n d_Mo_isToken_13 rfl ?_
      refine Ev.i2l d_Mo_isToken_14 (by first | omega | (simp [mu]; done) | (simp [mu]; omega)) ?_
      refine Ev.ldc2 (x := 49) d_Mo_isToken_15 kl_Mo_239 ?_
      refine Ev.ldc2 (x := 57) d_Mo_isToken_18 kl_Mo_241 ?_
      refine Ev.callS d_Mo_isToken_21 mt_Mo_in lk_Mo_107 st_Mo_in rfl (Nat.le_of_ble_eq_true rfl) rfl (Nat.le_of_ble_eq_true rfl) (by decide) rfl (c_Mo_in (by omega) (by omega) (by omega)) ?_
      refine Ev.if_eq (tgt := 31) d_Mo_isToken_24 rfl b01_b (fun hb24 => ?_) (fun hb24 => ?_)
      · rw [b01_eq] at hb24
        refine Ev.iconst d_Mo_isToken_31 ?_
        exact Ev.to (Ev.zreturn d_Mo_isToken_32 rfl (by first | omega | exact b01_01)) (r0 (by omega)) rfl
      · rw [b01_ne] at hb24
        refine Ev.iconst d_Mo_isToken_27 ?_
        refine Ev.goto (tgt := 32) d_Mo_isToken_28 rfl ?_
        exact Ev.to (Ev.zreturn d_Mo_isToken_32 rfl (by first | omega | exact b01_01)) (r1 (by omega)) rfl
theorem lp_Mo_next (hM : MoS σ) {T : TPt} (hK : TK T) : ∀ (q : Nat) (p : Int) (m : Mm), MT m T → p + q = T.1 → 0 ≤ p → m 57 33 = p → ∃ p', (p ≤ p' ∧ p' ≤ T.1) ∧ (∀ j, p ≤ j → j < p' → T.2 j = 32) ∧ (p' < T.1 → ¬ T.2 p' = 32) ∧ Ev 1 m_Mo_next 0 [some (vr 57)] [] σ m (some (vi (if p' < T.1 then T.2 p' else -4))) σ (mu m 57 33 p')
  | 0, p, m, hT, hp, h0, ha => by
    have t1 := hT.1
    have k1 := hK.1
    refine ⟨p, by omega, fun j h1 h2 => by omega, fun h => by omega, ?_⟩
    refine Ev.aload_n d_Mo_next_0 rfl ?_
    refine Ev.gf 33 d_Mo_next_1 lf_Mo_233 rfl rfl (is_57 hM) (by decide) ?_
    refine Ev.aload_n d_Mo_next_4 rfl ?_
    refine Ev.gf 22 d_Mo_next_5 lf_Mo_230 rfl rfl (is_57 hM) (by decide) ?_
    refine Ev.icmp_ge (tgt := 38) d_Mo_next_8 rfl (by first | omega | (simp [mu]; done) | (simp [mu]; omega)) (by first | omega | (simp [mu]; done) | (simp [mu]; omega)) (fun hb8 => ?_) (fun hb8 => by exfalso; first | omega | simp at hb8 | contradiction)
    refine Ev.aload_n d_Mo_next_38 rfl ?_
    refine Ev.gf 33 d_Mo_next_39 lf_Mo_233 rfl rfl (is_57 hM) (by decide) ?_
    refine Ev.aload_n d_Mo_next_42 rfl ?_
    refine Ev.gf 22 d_Mo_next_43 lf_Mo_230 rfl rfl (is_57 hM) (by decide) ?_
    refine Ev.icmp_ge (tgt := 61) d_Mo_next_46 rfl (by first | omega | (simp [mu]; done) | (simp [mu]; omega)) (by first | omega | (simp [mu]; done) | (simp [mu]; omega)) (fun hb46 => ?_) (fun hb46 => by exfalso; first | omega | simp at hb46 | contradiction)
    refine Ev.bipush d_Mo_next_61 rfl ?_
    exact Ev.to (Ev.ireturn d_Mo_next_63 rfl) (ri (by rw [if_neg (by omega)])) (mu_id ha).symm
  | q + 1, p, m, hT, hp, h0, ha => by
    have t1 := hT.1
    have k1 := hK.1
    have t2 := hT.2 p h0 (by omega)
    have k2 := hK.2 p h0 (by omega)
    by_cases hb : T.2 p = 32
    · obtain ⟨p', g1, g2, g3, g4⟩ := lp_Mo_next hM hK q (p + 1) (mu m 57 33 (p + 1)) ⟨by rw [mu_n (by decide)]; exact t1, fun i h1 h2 => by rw [mu_a (by decide)]; exact hT.2 i h1 h2⟩ (by omega) (by omega) mu_s
      refine ⟨p', by omega, fun j h1 h2 => ?_, g3, ?_⟩
      · by_cases e : j = p
        · rw [e, hb]
        · exact g2 j (by omega) h2
      · rw [mu_mu] at g4
        refine Ev.aload_n d_Mo_next_0 rfl ?_
        refine Ev.gf 33 d_Mo_next_1 lf_Mo_233 rfl rfl (is_57 hM) (by decide) ?_
        refine Ev.aload_n d_Mo_next_4 rfl ?_
        refine Ev.gf 22 d_Mo_next_5 lf_Mo_230 rfl rfl (is_57 hM) (by decide) ?_
        refine Ev.icmp_ge (tgt := 38) d_Mo_next_8 rfl (by first | omega | (simp [mu]; done) | (simp [mu]; omega)) (by first | omega | (simp [mu]; done) | (simp [mu]; omega)) (fun hb8 => by exfalso; first | omega | simp at hb8 | contradiction) (fun hb8 => ?_)
        refine Ev.aload_n d_Mo_next_11 rfl ?_
        refine Ev.gr 21 d_Mo_next_12 lf_Mo_67 rfl rfl (is_57 hM) (by decide) (rf_57_21 hM) ?_
        refine Ev.aload_n d_Mo_next_15 rfl ?_
        refine Ev.gf 33 d_Mo_next_16 lf_Mo_233 rfl rfl (is_57 hM) (by decide) ?_
        refine Ev.iaload d_Mo_next_19 (is_76 hM) (by first | omega | (simp [mu]; done) | (simp [mu]; omega)) ?_
        rw [ha, t2]
        refine Ev.bipush d_Mo_next_20 rfl ?_
        refine Ev.icmp_ne (tgt := 38) d_Mo_next_22 rfl (by first | omega | (simp [mu]; done) | (simp [mu]; omega)) (by first | omega | (simp [mu]; done) | (simp [mu]; omega)) (fun hb22 => by exfalso; first | omega | simp at hb22 | contradiction) (fun hb22 => ?_)
        refine Ev.aload_n d_Mo_next_25 rfl ?_
        refine Ev.dup d_Mo_next_26 rfl ?_
        refine Ev.gf 33 d_Mo_next_27 lf_Mo_233 rfl rfl (is_57 hM) (by decide) ?_
        refine Ev.iconst d_Mo_next_30 ?_
        refine Ev.iadd d_Mo_next_31 ?_
        rw [ha]
        refine Ev.pf 33 d_Mo_next_32 lf_Mo_233 rfl rfl rfl rfl (is_57 hM) (by decide) ?_
        refine Ev.goto (tgt := 0) d_Mo_next_35 rfl ?_
        exact g4
    · refine ⟨p, by omega, fun j h1 h2 => by omega, fun _ => hb, ?_⟩
      refine Ev.aload_n d_Mo_next_0 rfl ?_
      refine Ev.gf 33 d_Mo_next_1 lf_Mo_233 rfl rfl (is_57 hM) (by decide) ?_
      refine Ev.aload_n d_Mo_next_4 rfl ?_
      refine Ev.gf 22 d_Mo_next_5 lf_Mo_230 rfl rfl (is_57 hM) (by decide) ?_
      refine Ev.icmp_ge (tgt := 38) d_Mo_next_8 rfl (by first | omega | (simp [mu]; done) | (simp [mu]; omega)) (by first | omega | (simp [mu]; done) | (simp [mu]; omega)) (fun hb8 => by exfalso; first | omega | simp at hb8 | contradiction) (fun hb8 => ?_)
      refine Ev.aload_n d_Mo_next_11 rfl ?_
      refine Ev.gr 21 d_Mo_next_12 lf_Mo_67 rfl rfl (is_57 hM) (by decide) (rf_57_21 hM) ?_
      refine Ev.aload_n d_Mo_next_15 rfl ?_
      refine Ev.gf 33 d_Mo_next_16 lf_Mo_233 rfl rfl (is_57 hM) (by decide) ?_
      refine Ev.iaload d_Mo_next_19 (is_76 hM) (by first | omega | (simp [mu]; done) | (simp [mu]; omega)) ?_
      rw [ha, t2]
      refine Ev.bipush d_Mo_next_20 rfl ?_
      refine Ev.icmp_ne (tgt := 38) d_Mo_next_22 rfl (by first | omega | (simp [mu]; done) | (simp [mu]; omega)) (by first | omega | (simp [mu]; done) | (simp [mu]; omega)) (fun hb22 => ?_) (fun hb22 => by exfalso; first | omega | simp at hb22 | contradiction)
      refine Ev.aload_n d_Mo_next_38 rfl ?_
      refine Ev.gf 33 d_Mo_next_39 lf_Mo_233 rfl rfl (is_57 hM) (by decide) ?_
      refine Ev.aload_n d_Mo_next_42 rfl ?_
      refine Ev.gf 22 d_Mo_next_43 lf_Mo_230 rfl rfl (is_57 hM) (by decide) ?_
      refine Ev.icmp_ge (tgt := 61) d_Mo_next_46 rfl (by first | omega | (simp [mu]; done) | (simp [mu]; omega)) (by first | omega | (simp [mu]; done) | (simp [mu]; omega)) (fun hb46 => by exfalso; first | omega | simp at hb46 | contradiction) (fun hb46 => ?_)
      refine Ev.aload_n d_Mo_next_49 rfl ?_
      refine Ev.gr 21 d_Mo_next_50 lf_Mo_67 rfl rfl (is_57 hM) (by decide) (rf_57_21 hM) ?_
      refine Ev.aload_n d_Mo_next_53 rfl ?_
      refine Ev.gf 33 d_Mo_next_54 lf_Mo_233 rfl rfl (is_57 hM) (by decide) ?_
      refine Ev.iaload d_Mo_next_57 (is_76 hM) (by first | omega | (simp [mu]; done) | (simp [mu]; omega)) ?_
      rw [ha, t2]
      refine Ev.goto (tgt := 63) d_Mo_next_58 rfl ?_
      exact Ev.to (Ev.ireturn d_Mo_next_63 rfl) (ri (by rw [if_pos (by omega)])) (mu_id ha).symm
/-! reading a text -/
abbrev PRt : Type := Int × Int × Int × (Int → Int)
def ps (T : TPt) : Nat → Int → Int → Int → (Int → Int) → PRt
  | 0, p, l, s, R => if s = 0 ∨ ¬ l = -4 then (2, p, s, R) else (0, p, s, R)
  | q + 1, p, l, s, R => if T.2 p = 32 then ps T q (p + 1) l s R else if ¬ ((T.2 p = 97 ∨ T.2 p = 98) ∨ (49 ≤ T.2 p ∧ T.2 p ≤ 57)) then (1, p, s, R) else if l = -4 then (if T.2 p = 97 ∨ T.2 p = 98 then ps T q (p + 1) (T.2 p) s R else (2, p, s, R)) else if T.2 p = 97 ∨ T.2 p = 98 then (2, p, s, R) else if 5 < s + T.2 p - 48 then (3, p, s, R) else ps T q (p + 1) (-4) (s + (T.2 p - 48)) (up R ((if l = 97 then 0 else 6) + T.2 p - 48) (R ((if l = 97 then 0 else 6) + T.2 p - 48) + 1))
theorem ps_skip {T : TPt} {l s : Int} {R : Int → Int} : ∀ (q q2 : Nat) (p p' : Int), p + q = p' + q2 → p ≤ p' → (∀ j, p ≤ j → j < p' → T.2 j = 32) → ps T q p l s R = ps T q2 p' l s R
  | 0, q2, p, p', h1, h2, h3 => by
    have e1 : p' = p := by omega
    have e2 : q2 = 0 := by omega
    rw [e1, e2]
  | q + 1, q2, p, p', h1, h2, h3 => by
    by_cases e : p = p'
    · subst e
      rw [show q2 = q + 1 by omega]
    · rw [ps, if_pos (h3 p (by omega) (by omega))]
      exact ps_skip q q2 (p + 1) p' (by omega) (by omega) (fun j g1 g2 => h3 j (by omega) g2)
def FrX (m m' : Mm) : Prop := ∀ a i : Int, ¬ (a = 57 ∧ (i = 22 ∨ i = 23 ∨ i = 24 ∨ i = 33)) → a ≠ 77 → a ≠ 78 → m' a i = m a i
theorem FrX.tr {m m1 m2 : Mm} (h : FrX m m1) (h2 : FrX m1 m2) : FrX m m2 := fun a i x y z => (h2 a i x y z).trans (h a i x y z)
/-- the end of text(): what it leaves -/
def txE (m : Mm) (code s : Int) (R : Int → Int) : Mm := if code = 0 then ms (mu (mu (mu m 57 22 0) 57 23 0) 57 24 1) 77 0 12 R else mu (mu m 57 22 0) 57 23 code
theorem lp3_Mo_text (hM : MoS σ) {R : Int → Int} {s : Int} {x2 x3 x4 x7 x8 : Option AV} {mF : Mm} : ∀ (q : Nat) (k : Int) (m : Mm), k + q = 12 → 0 ≤ k → (∀ j, 0 ≤ j → j < 12 → m 78 j = R j) → mF = ms m 77 k 12 R → Ev 3 m_Mo_text 276 [some (vr 57), some (vi s), x2, x3, x4, some (vi 0), some (vi k), x7, x8] [] σ m (some (vi s)) σ mF
  | 0, k, m, hk, h0, hR, hF => by
    rw [ms_e (by omega)] at hF
    subst hF
    refine Ev.iload d_Mo_text_276 rfl ?_
    refine Ev.bipush d_Mo_text_278 rfl ?_
    refine Ev.icmp_ge (tgt := 303) d_Mo_text_280 rfl (by first | omega | (simp [mu]; done) | (simp [mu]; omega)) (by first | omega | (simp [mu]; done) | (simp [mu]; omega)) (fun hb280 => ?_) (fun hb280 => by exfalso; first | omega | simp at hb280 | contradiction)
    refine Ev.iload_n d_Mo_text_303 rfl ?_
    exact Ev.to (Ev.ireturn d_Mo_text_304 rfl) rfl rfl
  | q + 1, k, m, hk, h0, hR, hF => by
    rw [← ms_s (by omega)] at hF
    refine Ev.iload d_Mo_text_276 rfl ?_
    refine Ev.bipush d_Mo_text_278 rfl ?_
    refine Ev.icmp_ge (tgt := 303) d_Mo_text_280 rfl (by first | omega | (simp [mu]; done) | (simp [mu]; omega)) (by first | omega | (simp [mu]; done) | (simp [mu]; omega)) (fun hb280 => by exfalso; first | omega | simp at hb280 | contradiction) (fun hb280 => ?_)
    refine Ev.aload_n d_Mo_text_283 rfl ?_
    refine Ev.gr 25 d_Mo_text_284 lf_Mo_70 rfl rfl (is_57 hM) (by decide) (rf_57_25 hM) ?_
    refine Ev.iload d_Mo_text_287 rfl ?_
    refine Ev.aload_n d_Mo_text_289 rfl ?_
    refine Ev.gr 26 d_Mo_text_290 lf_Mo_73 rfl rfl (is_57 hM) (by decide) (rf_57_26 hM) ?_
    refine Ev.iload d_Mo_text_293 rfl ?_
    refine Ev.iaload d_Mo_text_295 (is_78 hM) (by first | omega | (simp [mu]; done) | (simp [mu]; omega)) ?_
    rw [hR k (by omega) (by omega)]
    refine Ev.iastore d_Mo_text_296 (is_77 hM) (by decide) (by first | omega | (simp [mu]; done) | (simp [mu]; omega)) ?_
    refine Ev.iinc_6 d_Mo_text_297 rfl ?_
    refine Ev.goto (tgt := 276) d_Mo_text_300 rfl ?_
    exact lp3_Mo_text hM q (k + 1) _ (by omega) (by omega) (fun j h1 h2 => by rw [mu_a (by decide)]; exact hR j h1 h2) hF
theorem tl_Mo_text (hM : MoS σ) {R : Int → Int} {s code p : Int} {x4 x7 x8 : Option AV} {x6 : Int} (hc : 0 ≤ code ∧ code ≤ 3) (hR : ∀ j, 0 ≤ j → j < 12 → m 78 j = R j) : Ev 3 m_Mo_text 39 [some (vr 57), some (vi s), some (vi code), some (vi p), x4, some (vi 0), some (vi x6), x7, x8] [] σ m (some (vi (if code = 0 then s else -10 - p))) σ (txE m code s R) := by
  by_cases h : code = 0
  · subst h
    rw [if_pos rfl, txE, if_pos rfl]
    refine Ev.iload d_Mo_text_39 rfl ?_
    refine Ev.if_eq (tgt := 249) d_Mo_text_41 rfl (by first | omega | (simp [mu]; done) | (simp [mu]; omega)) (fun hb41 => ?_) (fun hb41 => by exfalso; first | omega | simp at hb41 | contradiction)
    refine Ev.aload_n d_Mo_text_249 rfl ?_
    refine Ev.iconst d_Mo_text_250 ?_
    refine Ev.pf 22 d_Mo_text_251 lf_Mo_230 rfl rfl rfl rfl (is_57 hM) (by decide) ?_
    refine Ev.aload_n d_Mo_text_254 rfl ?_
    refine Ev.iload_n d_Mo_text_255 rfl ?_
    refine Ev.pf 23 d_Mo_text_256 lf_Mo_249 rfl rfl rfl rfl (is_57 hM) (by decide) ?_
    refine Ev.iload_n d_Mo_text_259 rfl ?_
    refine Ev.if_le (tgt := 268) d_Mo_text_260 rfl (by first | omega | (simp [mu]; done) | (simp [mu]; omega)) (fun hb260 => ?_) (fun hb260 => by exfalso; first | omega | simp at hb260 | contradiction)
    refine Ev.aload_n d_Mo_text_268 rfl ?_
    refine Ev.iconst d_Mo_text_269 ?_
    refine Ev.pz 24 d_Mo_text_270 lf_Mo_252 rfl rfl rfl rfl (is_57 hM) (by decide) (by first | omega | (simp [mu]; done) | (simp [mu]; omega)) ?_
    refine Ev.iconst d_Mo_text_273 ?_
    refine Ev.istore_6 d_Mo_text_274 rfl ?_
    exact lp3_Mo_text hM 12 0 _ (by omega) (by omega) (fun j h1 h2 => by rw [mu_a (by decide), mu_a (by decide), mu_a (by decide)]; exact hR j h1 h2) rfl
  · rw [if_neg h, txE, if_neg h]
    refine Ev.iload d_Mo_text_39 rfl ?_
    refine Ev.if_eq (tgt := 249) d_Mo_text_41 rfl (by first | omega | (simp [mu]; done) | (simp [mu]; omega)) (fun hb41 => ?_) (fun hb41 => by exfalso; first | omega | simp at hb41 | contradiction)
    refine Ev.aload_n d_Mo_text_249 rfl ?_
    refine Ev.iconst d_Mo_text_250 ?_
    refine Ev.pf 22 d_Mo_text_251 lf_Mo_230 rfl rfl rfl rfl (is_57 hM) (by decide) ?_
    refine Ev.aload_n d_Mo_text_254 rfl ?_
    refine Ev.iload_n d_Mo_text_255 rfl ?_
    refine Ev.pf 23 d_Mo_text_256 lf_Mo_249 rfl rfl rfl rfl (is_57 hM) (by decide) ?_
    refine Ev.iload_n d_Mo_text_259 rfl ?_
    refine Ev.if_le (tgt := 268) d_Mo_text_260 rfl (by first | omega | (simp [mu]; done) | (simp [mu]; omega)) (fun hb260 => by exfalso; first | omega | simp at hb260 | contradiction) (fun hb260 => ?_)
    refine Ev.bipush d_Mo_text_263 rfl ?_
    refine Ev.iload_n d_Mo_text_265 rfl ?_
    refine Ev.isub d_Mo_text_266 ?_
    exact Ev.to (Ev.ireturn d_Mo_text_267 rfl) rfl rfl
theorem tx_post {m : Mm} {p s p2 : Int} {code : Int} {R : Int → Int} {X : PRt} (hX : X = (code, p2, s, R)) : txE (mu m 57 33 p) code s R 57 22 = 0 ∧ txE (mu m 57 33 p) code s R 57 23 = X.1 ∧ (X.1 = 0 → txE (mu m 57 33 p) code s R 57 24 = 1 ∧ ∀ j, 0 ≤ j → j < 12 → txE (mu m 57 33 p) code s R 77 j = X.2.2.2 j) ∧ (¬ X.1 = 0 → txE (mu m 57 33 p) code s R 57 24 = m 57 24 ∧ ∀ j, txE (mu m 57 33 p) code s R 77 j = m 77 j) ∧ FrX m (txE (mu m 57 33 p) code s R) := by
  subst hX
  by_cases h : code = 0
  · subst h
    simp only [txE, if_true]
    refine ⟨by simp [ms, mu], by simp [ms, mu], fun _ => ⟨by simp [ms, mu], fun j h1 h2 => ms_in ⟨h1, h2⟩⟩, fun z => absurd trivial z, fun a i h1 h2 h3 => ?_⟩
    rw [ms_a h2, mu_n (by omega), mu_n (by omega), mu_n (by omega), mu_n (by omega)]
  · simp only [txE, if_neg h]
    refine ⟨by simp [mu], by simp [mu], fun z => absurd z h, fun _ => ⟨by simp [mu], fun j => by simp [mu]⟩, fun a i h1 h2 h3 => ?_⟩
    rw [mu_n (by omega), mu_n (by omega), mu_n (by omega)]
theorem ps_unf (T : TPt) (q : Nat) (p l s : Int) (R : Int → Int) : ps T (q + 1) p l s R = if T.2 p = 32 then ps T q (p + 1) l s R else if ¬ ((T.2 p = 97 ∨ T.2 p = 98) ∨ (49 ≤ T.2 p ∧ T.2 p ≤ 57)) then (1, p, s, R) else if l = -4 then (if T.2 p = 97 ∨ T.2 p = 98 then ps T q (p + 1) (T.2 p) s R else (2, p, s, R)) else if T.2 p = 97 ∨ T.2 p = 98 then (2, p, s, R) else if 5 < s + T.2 p - 48 then (3, p, s, R) else ps T q (p + 1) (-4) (s + (T.2 p - 48)) (up R ((if l = 97 then 0 else 6) + T.2 p - 48) (R ((if l = 97 then 0 else 6) + T.2 p - 48) + 1)) := rfl
theorem lpE_Mo_text (hM : MoS σ) {T : TPt} (hK : TK T) {q : Nat} {p l s wr wa p' : Int} {R : Int → Int} {x6 x7 x8 : Option AV} (hT : MT m T) (hp : p + q = T.1) (h0 : 0 ≤ p) (ha : m 57 33 = p) (hl : l = -4 ∨ l = 97 ∨ l = 98) (hs : 0 ≤ s ∧ s ≤ 5) (hR : ∀ j, 0 ≤ j → j < 12 → m 78 j = R j) (g1 : p ≤ p' ∧ p' ≤ T.1) (g2 : ∀ j, p ≤ j → j < p' → T.2 j = 32) (g4 : Ev 1 m_Mo_next 0 [some (vr 57)] [] σ m (some (vi (if p' < T.1 then T.2 p' else -4))) σ (mu m 57 33 p')) (e1 : p' = T.1) : ∃ m', Ev 3 m_Mo_text 39 [some (vr 57), some (vi s), some (vi wr), some (vi wa), some (vi l), some (vi 1), x6, x7, x8] [] σ m (some (vi (if (ps T q p l s R).1 = 0 then (ps T q p l s R).2.2.1 else -10 - (ps T q p l s R).2.1))) σ m' ∧ m' 57 22 = 0 ∧ m' 57 23 = (ps T q p l s R).1 ∧ ((ps T q p l s R).1 = 0 → m' 57 24 = 1 ∧ ∀ j, 0 ≤ j → j < 12 → m' 77 j = (ps T q p l s R).2.2.2 j) ∧ (¬ (ps T q p l s R).1 = 0 → m' 57 24 = m 57 24 ∧ ∀ j, m' 77 j = m 77 j) ∧ FrX m m' := by
  rw [if_neg (by omega)] at g4
  have g5 : Call 1 m_Mo_next [vr 57] σ m (some (vi (-4))) σ (mu m 57 33 p') := g4
  have hR1 : ∀ j, 0 ≤ j → j < 12 → mu m 57 33 p' 78 j = R j := fun j h1 h2 => by rw [mu_a (by decide)]; exact hR j h1 h2
  have hK1 := hK.1
  rw [ps_skip q 0 p p' (by omega) g1.1 g2]
  have hX : ps T 0 p' l s R = if s = 0 ∨ ¬ l = -4 then (2, p', s, R) else (0, p', s, R) := rfl
  by_cases hl4 : l = -4
  · by_cases hs0 : s = 0
    · rw [if_pos (Or.inl hs0)] at hX
      refine ⟨txE (mu m 57 33 p') 2 s R, ?_, tx_post hX⟩
      refine Ev.iload d_Mo_text_39 rfl ?_
      refine Ev.if_eq (tgt := 249) d_Mo_text_41 rfl (by first | omega | (simp [mu]; done) | (simp [mu]; omega)) (fun hb41 => by exfalso; first | omega | simp at hb41 | contradiction) (fun hb41 => ?_)
      refine Ev.aload_n d_Mo_text_44 rfl ?_
      refine Ev.callV d_Mo_text_45 mt_Mo_next lk_Mo_243 in_Mo_next se_Mo_next rfl (Nat.le_of_ble_eq_true rfl) rfl (Nat.le_of_ble_eq_true rfl) (by decide) (is_57 hM) (by decide) rfl rfl g5 ?_
      refine Ev.istore_6 d_Mo_text_48 rfl ?_
      refine Ev.iload d_Mo_text_50 rfl ?_
      refine Ev.bipush d_Mo_text_52 rfl ?_
      refine Ev.icmp_ne (tgt := 72) d_Mo_text_54 rfl (by first | omega | (simp [mu]; done) | (simp [mu]; omega)) (by first | omega | (simp [mu]; done) | (simp [mu]; omega)) (fun hb54 => by exfalso; first | omega | simp at hb54 | contradiction) (fun hb54 => ?_)
      refine Ev.iload d_Mo_text_57 rfl ?_
      refine Ev.bipush d_Mo_text_59 rfl ?_
      refine Ev.icmp_ne (tgt := 72) d_Mo_text_61 rfl (by first | omega | (simp [mu]; done) | (simp [mu]; omega)) (by first | omega | (simp [mu]; done) | (simp [mu]; omega)) (fun hb61 => by exfalso; first | omega | simp at hb61 | contradiction) (fun hb61 => ?_)
      refine Ev.iload_n d_Mo_text_64 rfl ?_
      refine Ev.if_le (tgt := 72) d_Mo_text_65 rfl (by first | omega | (simp [mu]; done) | (simp [mu]; omega)) (fun hb65 => ?_) (fun hb65 => by exfalso; first | omega | simp at hb65 | contradiction)
      refine Ev.iconst d_Mo_text_72 ?_
      refine Ev.istore_7 d_Mo_text_73 rfl ?_
      refine Ev.iload d_Mo_text_75 rfl ?_
      refine Ev.callS d_Mo_text_77 mt_Mo_isToken lk_Mo_246 st_Mo_isToken rfl (Nat.le_of_ble_eq_true rfl) rfl (Nat.le_of_ble_eq_true rfl) (by decide) rfl (c_Mo_isToken (by omega)) ?_
      rw [b01_t (by omega)]
      refine Ev.if_ne (tgt := 87) d_Mo_text_80 rfl (by first | omega | (simp [mu]; done) | (simp [mu]; omega)) (fun hb80 => ?_) (fun hb80 => by exfalso; first | omega | simp at hb80 | contradiction)
      refine Ev.iload d_Mo_text_87 rfl ?_
      refine Ev.if_eq (tgt := 96) d_Mo_text_89 rfl (by first | omega | (simp [mu]; done) | (simp [mu]; omega)) (fun hb89 => ?_) (fun hb89 => by exfalso; first | omega | simp at hb89 | contradiction)
      refine Ev.iload d_Mo_text_96 rfl ?_
      refine Ev.bipush d_Mo_text_98 rfl ?_
      refine Ev.icmp_ne (tgt := 107) d_Mo_text_100 rfl (by first | omega | (simp [mu]; done) | (simp [mu]; omega)) (by first | omega | (simp [mu]; done) | (simp [mu]; omega)) (fun hb100 => by exfalso; first | omega | simp at hb100 | contradiction) (fun hb100 => ?_)
      refine Ev.iconst d_Mo_text_103 ?_
      refine Ev.goto (tgt := 108) d_Mo_text_104 rfl ?_
      refine Ev.iload d_Mo_text_108 rfl ?_
      refine Ev.callS d_Mo_text_110 mt_Mo_isLetter lk_Mo_236 st_Mo_isLetter rfl (Nat.le_of_ble_eq_true rfl) rfl (Nat.le_of_ble_eq_true rfl) (by decide) rfl (c_Mo_isLetter (by omega)) ?_
      rw [b01_f (by omega)]
      refine Ev.icmp_ne (tgt := 123) d_Mo_text_113 rfl (by first | omega | (simp [mu]; done) | (simp [mu]; omega)) (by omega) (fun hb113 => ?_) (fun hb113 => by exfalso; first | omega | simp at hb113 | contradiction)
      refine Ev.iconst d_Mo_text_123 ?_
      refine Ev.goto (tgt := 150) d_Mo_text_124 rfl ?_
      refine Ev.istore_8 d_Mo_text_150 rfl ?_
      refine Ev.iload d_Mo_text_152 rfl ?_
      refine Ev.if_ne (tgt := 166) d_Mo_text_154 rfl (by first | omega | (simp [mu]; done) | (simp [mu]; omega)) (fun hb154 => ?_) (fun hb154 => by exfalso; first | omega | simp at hb154 | contradiction)
      refine Ev.iconst d_Mo_text_166 ?_
      refine Ev.istore_5 d_Mo_text_167 rfl ?_
      refine Ev.iload d_Mo_text_169 rfl ?_
      refine Ev.istore_2 d_Mo_text_171 rfl ?_
      refine Ev.aload_n d_Mo_text_172 rfl ?_
      refine Ev.gf 33 d_Mo_text_173 lf_Mo_233 rfl rfl (is_57 hM) (by decide) ?_
      refine Ev.istore_3 d_Mo_text_176 rfl ?_
      refine Ev.iload d_Mo_text_177 rfl ?_
      refine Ev.if_eq (tgt := 246) d_Mo_text_179 rfl (by first | omega | (simp [mu]; done) | (simp [mu]; omega)) (fun hb179 => ?_) (fun hb179 => by exfalso; first | omega | simp at hb179 | contradiction)
      refine Ev.goto (tgt := 39) d_Mo_text_246 rfl ?_
      rw [show mu m 57 33 p' 57 33 = p' from mu_s]
      exact Ev.to (tl_Mo_text hM (code := 2) (by omega) hR1) (by rw [hX]) rfl
    · rw [if_neg (by omega)] at hX
      refine ⟨txE (mu m 57 33 p') 0 s R, ?_, tx_post hX⟩
      refine Ev.iload d_Mo_text_39 rfl ?_
      refine Ev.if_eq (tgt := 249) d_Mo_text_41 rfl (by first | omega | (simp [mu]; done) | (simp [mu]; omega)) (fun hb41 => by exfalso; first | omega | simp at hb41 | contradiction) (fun hb41 => ?_)
      refine Ev.aload_n d_Mo_text_44 rfl ?_
      refine Ev.callV d_Mo_text_45 mt_Mo_next lk_Mo_243 in_Mo_next se_Mo_next rfl (Nat.le_of_ble_eq_true rfl) rfl (Nat.le_of_ble_eq_true rfl) (by decide) (is_57 hM) (by decide) rfl rfl g5 ?_
      refine Ev.istore_6 d_Mo_text_48 rfl ?_
      refine Ev.iload d_Mo_text_50 rfl ?_
      refine Ev.bipush d_Mo_text_52 rfl ?_
      refine Ev.icmp_ne (tgt := 72) d_Mo_text_54 rfl (by first | omega | (simp [mu]; done) | (simp [mu]; omega)) (by first | omega | (simp [mu]; done) | (simp [mu]; omega)) (fun hb54 => by exfalso; first | omega | simp at hb54 | contradiction) (fun hb54 => ?_)
      refine Ev.iload d_Mo_text_57 rfl ?_
      refine Ev.bipush d_Mo_text_59 rfl ?_
      refine Ev.icmp_ne (tgt := 72) d_Mo_text_61 rfl (by first | omega | (simp [mu]; done) | (simp [mu]; omega)) (by first | omega | (simp [mu]; done) | (simp [mu]; omega)) (fun hb61 => by exfalso; first | omega | simp at hb61 | contradiction) (fun hb61 => ?_)
      refine Ev.iload_n d_Mo_text_64 rfl ?_
      refine Ev.if_le (tgt := 72) d_Mo_text_65 rfl (by first | omega | (simp [mu]; done) | (simp [mu]; omega)) (fun hb65 => by exfalso; first | omega | simp at hb65 | contradiction) (fun hb65 => ?_)
      refine Ev.iconst d_Mo_text_68 ?_
      refine Ev.goto (tgt := 73) d_Mo_text_69 rfl ?_
      refine Ev.istore_7 d_Mo_text_73 rfl ?_
      refine Ev.iload d_Mo_text_75 rfl ?_
      refine Ev.callS d_Mo_text_77 mt_Mo_isToken lk_Mo_246 st_Mo_isToken rfl (Nat.le_of_ble_eq_true rfl) rfl (Nat.le_of_ble_eq_true rfl) (by decide) rfl (c_Mo_isToken (by omega)) ?_
      rw [b01_t (by omega)]
      refine Ev.if_ne (tgt := 87) d_Mo_text_80 rfl (by first | omega | (simp [mu]; done) | (simp [mu]; omega)) (fun hb80 => ?_) (fun hb80 => by exfalso; first | omega | simp at hb80 | contradiction)
      refine Ev.iload d_Mo_text_87 rfl ?_
      refine Ev.if_eq (tgt := 96) d_Mo_text_89 rfl (by first | omega | (simp [mu]; done) | (simp [mu]; omega)) (fun hb89 => by exfalso; first | omega | simp at hb89 | contradiction) (fun hb89 => ?_)
      refine Ev.iconst d_Mo_text_92 ?_
      refine Ev.goto (tgt := 150) d_Mo_text_93 rfl ?_
      refine Ev.istore_8 d_Mo_text_150 rfl ?_
      refine Ev.iload d_Mo_text_152 rfl ?_
      refine Ev.if_ne (tgt := 166) d_Mo_text_154 rfl (by first | omega | (simp [mu]; done) | (simp [mu]; omega)) (fun hb154 => by exfalso; first | omega | simp at hb154 | contradiction) (fun hb154 => ?_)
      refine Ev.iload d_Mo_text_157 rfl ?_
      refine Ev.if_ne (tgt := 166) d_Mo_text_159 rfl (by first | omega | (simp [mu]; done) | (simp [mu]; omega)) (fun hb159 => ?_) (fun hb159 => by exfalso; first | omega | simp at hb159 | contradiction)
      refine Ev.iconst d_Mo_text_166 ?_
      refine Ev.istore_5 d_Mo_text_167 rfl ?_
      refine Ev.iload d_Mo_text_169 rfl ?_
      refine Ev.istore_2 d_Mo_text_171 rfl ?_
      refine Ev.aload_n d_Mo_text_172 rfl ?_
      refine Ev.gf 33 d_Mo_text_173 lf_Mo_233 rfl rfl (is_57 hM) (by decide) ?_
      refine Ev.istore_3 d_Mo_text_176 rfl ?_
      refine Ev.iload d_Mo_text_177 rfl ?_
      refine Ev.if_eq (tgt := 246) d_Mo_text_179 rfl (by first | omega | (simp [mu]; done) | (simp [mu]; omega)) (fun hb179 => ?_) (fun hb179 => by exfalso; first | omega | simp at hb179 | contradiction)
      refine Ev.goto (tgt := 39) d_Mo_text_246 rfl ?_
      rw [show mu m 57 33 p' 57 33 = p' from mu_s]
      exact Ev.to (tl_Mo_text hM (code := 0) (by omega) hR1) (by rw [hX]) rfl
  · rw [if_pos (Or.inr hl4)] at hX
    refine ⟨txE (mu m 57 33 p') 2 s R, ?_, tx_post hX⟩
    refine Ev.iload d_Mo_text_39 rfl ?_
    refine Ev.if_eq (tgt := 249) d_Mo_text_41 rfl (by first | omega | (simp [mu]; done) | (simp [mu]; omega)) (fun hb41 => by exfalso; first | omega | simp at hb41 | contradiction) (fun hb41 => ?_)
    refine Ev.aload_n d_Mo_text_44 rfl ?_
    refine Ev.callV d_Mo_text_45 mt_Mo_next lk_Mo_243 in_Mo_next se_Mo_next rfl (Nat.le_of_ble_eq_true rfl) rfl (Nat.le_of_ble_eq_true rfl) (by decide) (is_57 hM) (by decide) rfl rfl g5 ?_
    refine Ev.istore_6 d_Mo_text_48 rfl ?_
    refine Ev.iload d_Mo_text_50 rfl ?_
    refine Ev.bipush d_Mo_text_52 rfl ?_
    refine Ev.icmp_ne (tgt := 72) d_Mo_text_54 rfl (by first | omega | (simp [mu]; done) | (simp [mu]; omega)) (by first | omega | (simp [mu]; done) | (simp [mu]; omega)) (fun hb54 => by exfalso; first | omega | simp at hb54 | contradiction) (fun hb54 => ?_)
    refine Ev.iload d_Mo_text_57 rfl ?_
    refine Ev.bipush d_Mo_text_59 rfl ?_
    refine Ev.icmp_ne (tgt := 72) d_Mo_text_61 rfl (by first | omega | (simp [mu]; done) | (simp [mu]; omega)) (by first | omega | (simp [mu]; done) | (simp [mu]; omega)) (fun hb61 => ?_) (fun hb61 => by exfalso; first | omega | simp at hb61 | contradiction)
    refine Ev.iconst d_Mo_text_72 ?_
    refine Ev.istore_7 d_Mo_text_73 rfl ?_
    refine Ev.iload d_Mo_text_75 rfl ?_
    refine Ev.callS d_Mo_text_77 mt_Mo_isToken lk_Mo_246 st_Mo_isToken rfl (Nat.le_of_ble_eq_true rfl) rfl (Nat.le_of_ble_eq_true rfl) (by decide) rfl (c_Mo_isToken (by omega)) ?_
    rw [b01_t (by omega)]
    refine Ev.if_ne (tgt := 87) d_Mo_text_80 rfl (by first | omega | (simp [mu]; done) | (simp [mu]; omega)) (fun hb80 => ?_) (fun hb80 => by exfalso; first | omega | simp at hb80 | contradiction)
    refine Ev.iload d_Mo_text_87 rfl ?_
    refine Ev.if_eq (tgt := 96) d_Mo_text_89 rfl (by first | omega | (simp [mu]; done) | (simp [mu]; omega)) (fun hb89 => ?_) (fun hb89 => by exfalso; first | omega | simp at hb89 | contradiction)
    refine Ev.iload d_Mo_text_96 rfl ?_
    refine Ev.bipush d_Mo_text_98 rfl ?_
    refine Ev.icmp_ne (tgt := 107) d_Mo_text_100 rfl (by first | omega | (simp [mu]; done) | (simp [mu]; omega)) (by first | omega | (simp [mu]; done) | (simp [mu]; omega)) (fun hb100 => ?_) (fun hb100 => by exfalso; first | omega | simp at hb100 | contradiction)
    refine Ev.iconst d_Mo_text_107 ?_
    refine Ev.iload d_Mo_text_108 rfl ?_
    refine Ev.callS d_Mo_text_110 mt_Mo_isLetter lk_Mo_236 st_Mo_isLetter rfl (Nat.le_of_ble_eq_true rfl) rfl (Nat.le_of_ble_eq_true rfl) (by decide) rfl (c_Mo_isLetter (by omega)) ?_
    rw [b01_f (by omega)]
    refine Ev.icmp_ne (tgt := 123) d_Mo_text_113 rfl (by first | omega | (simp [mu]; done) | (simp [mu]; omega)) (by omega) (fun hb113 => by exfalso; first | omega | simp at hb113 | contradiction) (fun hb113 => ?_)
    refine Ev.iload d_Mo_text_116 rfl ?_
    refine Ev.bipush d_Mo_text_118 rfl ?_
    refine Ev.icmp_ne (tgt := 127) d_Mo_text_120 rfl (by first | omega | (simp [mu]; done) | (simp [mu]; omega)) (by first | omega | (simp [mu]; done) | (simp [mu]; omega)) (fun hb120 => by exfalso; first | omega | simp at hb120 | contradiction) (fun hb120 => ?_)
    refine Ev.iconst d_Mo_text_123 ?_
    refine Ev.goto (tgt := 150) d_Mo_text_124 rfl ?_
    refine Ev.istore_8 d_Mo_text_150 rfl ?_
    refine Ev.iload d_Mo_text_152 rfl ?_
    refine Ev.if_ne (tgt := 166) d_Mo_text_154 rfl (by first | omega | (simp [mu]; done) | (simp [mu]; omega)) (fun hb154 => ?_) (fun hb154 => by exfalso; first | omega | simp at hb154 | contradiction)
    refine Ev.iconst d_Mo_text_166 ?_
    refine Ev.istore_5 d_Mo_text_167 rfl ?_
    refine Ev.iload d_Mo_text_169 rfl ?_
    refine Ev.istore_2 d_Mo_text_171 rfl ?_
    refine Ev.aload_n d_Mo_text_172 rfl ?_
    refine Ev.gf 33 d_Mo_text_173 lf_Mo_233 rfl rfl (is_57 hM) (by decide) ?_
    refine Ev.istore_3 d_Mo_text_176 rfl ?_
    refine Ev.iload d_Mo_text_177 rfl ?_
    refine Ev.if_eq (tgt := 246) d_Mo_text_179 rfl (by first | omega | (simp [mu]; done) | (simp [mu]; omega)) (fun hb179 => ?_) (fun hb179 => by exfalso; first | omega | simp at hb179 | contradiction)
    refine Ev.goto (tgt := 39) d_Mo_text_246 rfl ?_
    rw [show mu m 57 33 p' 57 33 = p' from mu_s]
    exact Ev.to (tl_Mo_text hM (code := 2) (by omega) hR1) (by rw [hX]) rfl
theorem lp2_Mo_text (hM : MoS σ) {T : TPt} (hK : TK T) : ∀ (N q : Nat) (p l s wr wa : Int) (R : Int → Int) (m : Mm) (x6 x7 x8 : Option AV), q ≤ N → MT m T → p + q = T.1 → 0 ≤ p → m 57 33 = p → (l = -4 ∨ l = 97 ∨ l = 98) → (0 ≤ s ∧ s ≤ 5) → (∀ j, 0 ≤ j → j < 12 → m 78 j = R j) → ∃ m', Ev 3 m_Mo_text 39 [some (vr 57), some (vi s), some (vi wr), some (vi wa), some (vi l), some (vi 1), x6, x7, x8] [] σ m (some (vi (if (ps T q p l s R).1 = 0 then (ps T q p l s R).2.2.1 else -10 - (ps T q p l s R).2.1))) σ m' ∧ m' 57 22 = 0 ∧ m' 57 23 = (ps T q p l s R).1 ∧ ((ps T q p l s R).1 = 0 → m' 57 24 = 1 ∧ ∀ j, 0 ≤ j → j < 12 → m' 77 j = (ps T q p l s R).2.2.2 j) ∧ (¬ (ps T q p l s R).1 = 0 → m' 57 24 = m 57 24 ∧ ∀ j, m' 77 j = m 77 j) ∧ FrX m m' := by
  intro N
  induction N with
  | zero =>
    intro q p l s wr wa R m x6 x7 x8 hq hT hp h0 ha hl hs hR
    obtain ⟨p', g1, g2, g3, g4⟩ := lp_Mo_next hM hK q p m hT hp h0 ha
    have e1 : p' = T.1 := by omega
    exact lpE_Mo_text hM hK hT hp h0 ha hl hs hR g1 g2 g4 e1
  | succ N ih =>
    intro q p l s wr wa R m x6 x7 x8 hq hT hp h0 ha hl hs hR
    obtain ⟨p', g1, g2, g3, g4⟩ := lp_Mo_next hM hK q p m hT hp h0 ha
    by_cases e1 : p' = T.1
    · exact lpE_Mo_text hM hK hT hp h0 ha hl hs hR g1 g2 g4 e1
    · have hlt : p' < T.1 := by omega
      have h32 := g3 hlt
      have kb := hK.2 p' (by omega) hlt
      have hK1 := hK.1
      rw [if_pos hlt] at g4
      have g5 : Call 1 m_Mo_next [vr 57] σ m (some (vi (T.2 p'))) σ (mu m 57 33 p') := g4
      obtain ⟨q3, hq3⟩ : ∃ q3 : Nat, p' + (q3 + 1 : Nat) = T.1 := ⟨(T.1 - p').toNat - 1, by omega⟩
      have hR1 : ∀ j, 0 ≤ j → j < 12 → mu m 57 33 p' 78 j = R j := fun j h1 h2 => by rw [mu_a (by decide)]; exact hR j h1 h2
      rw [ps_skip q (q3 + 1) p p' (by omega) g1.1 g2]
      have hX := ps_unf T q3 p' l s R
      rw [if_neg h32] at hX
      by_cases htk : (T.2 p' = 97 ∨ T.2 p' = 98) ∨ (49 ≤ T.2 p' ∧ T.2 p' ≤ 57)
      · rw [if_neg (fun z => z htk)] at hX
        by_cases hlt2 : T.2 p' = 97 ∨ T.2 p' = 98
        · by_cases hl4 : l = -4
          · rw [if_pos hl4, if_pos hlt2] at hX
            obtain ⟨m', r1, r2, r3, r4, r5, r6⟩ := ih q3 (p' + 1) (T.2 p') s 0 p' R (mu (mu m 57 33 p') 57 33 (p' + 1)) (some (vi (T.2 p'))) (some (vi 0)) (some (vi 0)) (by omega) ⟨by rw [mu_n (by decide), mu_n (by decide)]; exact hT.1, fun i h1 h2 => by rw [mu_a (by decide), mu_a (by decide)]; exact hT.2 i h1 h2⟩ (by omega) (by omega) mu_s (by omega) hs (fun j h1 h2 => by rw [mu_a (by decide)]; exact hR1 j h1 h2)
            rw [hX]
            refine ⟨m', ?_, r2, r3, r4, fun z => ?_, fun a i h1 h2 h3 => ?_⟩
            · refine Ev.iload d_Mo_text_39 rfl ?_
              refine Ev.if_eq (tgt := 249) d_Mo_text_41 rfl (by first | omega | (simp [mu]; done) | (simp [mu]; omega)) (fun hb41 => by exfalso; first | omega | simp at hb41 | contradiction) (fun hb41 => ?_)
              refine Ev.aload_n d_Mo_text_44 rfl ?_
              refine Ev.callV d_Mo_text_45 mt_Mo_next lk_Mo_243 in_Mo_next se_Mo_next rfl (Nat.le_of_ble_eq_true rfl) rfl (Nat.le_of_ble_eq_true rfl) (by decide) (is_57 hM) (by decide) rfl rfl g5 ?_
              refine Ev.istore_6 d_Mo_text_48 rfl ?_
              refine Ev.iload d_Mo_text_50 rfl ?_
              refine Ev.bipush d_Mo_text_52 rfl ?_
              refine Ev.icmp_ne (tgt := 72) d_Mo_text_54 rfl (by first | omega | (simp [mu]; done) | (simp [mu]; omega)) (by first | omega | (simp [mu]; done) | (simp [mu]; omega)) (fun hb54 => ?_) (fun hb54 => by exfalso; first | omega | simp at hb54 | contradiction)
              refine Ev.iconst d_Mo_text_72 ?_
              refine Ev.istore_7 d_Mo_text_73 rfl ?_
              refine Ev.iload d_Mo_text_75 rfl ?_
              refine Ev.callS d_Mo_text_77 mt_Mo_isToken lk_Mo_246 st_Mo_isToken rfl (Nat.le_of_ble_eq_true rfl) rfl (Nat.le_of_ble_eq_true rfl) (by decide) rfl (c_Mo_isToken (by omega)) ?_
              rw [b01_t (by omega)]
              refine Ev.if_ne (tgt := 87) d_Mo_text_80 rfl (by first | omega | (simp [mu]; done) | (simp [mu]; omega)) (fun hb80 => ?_) (fun hb80 => by exfalso; first | omega | simp at hb80 | contradiction)
              refine Ev.iload d_Mo_text_87 rfl ?_
              refine Ev.if_eq (tgt := 96) d_Mo_text_89 rfl (by first | omega | (simp [mu]; done) | (simp [mu]; omega)) (fun hb89 => ?_) (fun hb89 => by exfalso; first | omega | simp at hb89 | contradiction)
              refine Ev.iload d_Mo_text_96 rfl ?_
              refine Ev.bipush d_Mo_text_98 rfl ?_
              refine Ev.icmp_ne (tgt := 107) d_Mo_text_100 rfl (by first | omega | (simp [mu]; done) | (simp [mu]; omega)) (by first | omega | (simp [mu]; done) | (simp [mu]; omega)) (fun hb100 => by exfalso; first | omega | simp at hb100 | contradiction) (fun hb100 => ?_)
              refine Ev.iconst d_Mo_text_103 ?_
              refine Ev.goto (tgt := 108) d_Mo_text_104 rfl ?_
              refine Ev.iload d_Mo_text_108 rfl ?_
              refine Ev.callS d_Mo_text_110 mt_Mo_isLetter lk_Mo_236 st_Mo_isLetter rfl (Nat.le_of_ble_eq_true rfl) rfl (Nat.le_of_ble_eq_true rfl) (by decide) rfl (c_Mo_isLetter (by omega)) ?_
              rw [b01_t (by omega)]
              refine Ev.icmp_ne (tgt := 123) d_Mo_text_113 rfl (by first | omega | (simp [mu]; done) | (simp [mu]; omega)) (by omega) (fun hb113 => by exfalso; first | omega | simp at hb113 | contradiction) (fun hb113 => ?_)
              refine Ev.iload d_Mo_text_116 rfl ?_
              refine Ev.bipush d_Mo_text_118 rfl ?_
              refine Ev.icmp_ne (tgt := 127) d_Mo_text_120 rfl (by first | omega | (simp [mu]; done) | (simp [mu]; omega)) (by first | omega | (simp [mu]; done) | (simp [mu]; omega)) (fun hb120 => ?_) (fun hb120 => by exfalso; first | omega | simp at hb120 | contradiction)
              refine Ev.iload d_Mo_text_127 rfl ?_
              refine Ev.bipush d_Mo_text_129 rfl ?_
              refine Ev.icmp_eq (tgt := 149) d_Mo_text_131 rfl (by first | omega | (simp [mu]; done) | (simp [mu]; omega)) (by first | omega | (simp [mu]; done) | (simp [mu]; omega)) (fun hb131 => ?_) (fun hb131 => by exfalso; first | omega | simp at hb131 | contradiction)
              refine Ev.iconst d_Mo_text_149 ?_
              refine Ev.istore_8 d_Mo_text_150 rfl ?_
              refine Ev.iload d_Mo_text_152 rfl ?_
              refine Ev.if_ne (tgt := 166) d_Mo_text_154 rfl (by first | omega | (simp [mu]; done) | (simp [mu]; omega)) (fun hb154 => by exfalso; first | omega | simp at hb154 | contradiction) (fun hb154 => ?_)
              refine Ev.iload d_Mo_text_157 rfl ?_
              refine Ev.if_ne (tgt := 166) d_Mo_text_159 rfl (by first | omega | (simp [mu]; done) | (simp [mu]; omega)) (fun hb159 => by exfalso; first | omega | simp at hb159 | contradiction) (fun hb159 => ?_)
              refine Ev.iconst d_Mo_text_162 ?_
              refine Ev.goto (tgt := 167) d_Mo_text_163 rfl ?_
              refine Ev.istore_5 d_Mo_text_167 rfl ?_
              refine Ev.iload d_Mo_text_169 rfl ?_
              refine Ev.istore_2 d_Mo_text_171 rfl ?_
              refine Ev.aload_n d_Mo_text_172 rfl ?_
              refine Ev.gf 33 d_Mo_text_173 lf_Mo_233 rfl rfl (is_57 hM) (by decide) ?_
              refine Ev.istore_3 d_Mo_text_176 rfl ?_
              refine Ev.iload d_Mo_text_177 rfl ?_
              refine Ev.if_eq (tgt := 246) d_Mo_text_179 rfl (by first | omega | (simp [mu]; done) | (simp [mu]; omega)) (fun hb179 => by exfalso; first | omega | simp at hb179 | contradiction) (fun hb179 => ?_)
              refine Ev.iload d_Mo_text_182 rfl ?_
              refine Ev.bipush d_Mo_text_184 rfl ?_
              refine Ev.icmp_ne (tgt := 196) d_Mo_text_186 rfl (by first | omega | (simp [mu]; done) | (simp [mu]; omega)) (by first | omega | (simp [mu]; done) | (simp [mu]; omega)) (fun hb186 => by exfalso; first | omega | simp at hb186 | contradiction) (fun hb186 => ?_)
              refine Ev.iload d_Mo_text_189 rfl ?_
              refine Ev.istore_4 d_Mo_text_191 rfl ?_
              refine Ev.goto (tgt := 236) d_Mo_text_193 rfl ?_
              refine Ev.aload_n d_Mo_text_236 rfl ?_
              refine Ev.dup d_Mo_text_237 rfl ?_
              refine Ev.gf 33 d_Mo_text_238 lf_Mo_233 rfl rfl (is_57 hM) (by decide) ?_
              refine Ev.iconst d_Mo_text_241 ?_
              refine Ev.iadd d_Mo_text_242 ?_
              refine Ev.pf 33 d_Mo_text_243 lf_Mo_233 rfl rfl rfl rfl (is_57 hM) (by decide) ?_
              refine Ev.goto (tgt := 39) d_Mo_text_246 rfl ?_
              rw [show mu m 57 33 p' 57 33 = p' from mu_s]
              exact r1
            · obtain ⟨u1, u2⟩ := r5 z
              exact ⟨by rw [u1, mu_n (by decide), mu_n (by decide)], fun j => by rw [u2 j, mu_a (by decide), mu_a (by decide)]⟩
            · rw [r6 a i h1 h2 h3, mu_n (by omega), mu_n (by omega)]
          · rw [if_neg hl4, if_pos hlt2] at hX
            refine ⟨txE (mu m 57 33 p') 2 s R, ?_, tx_post hX⟩
            refine Ev.iload d_Mo_text_39 rfl ?_
            refine Ev.if_eq (tgt := 249) d_Mo_text_41 rfl (by first | omega | (simp [mu]; done) | (simp [mu]; omega)) (fun hb41 => by exfalso; first | omega | simp at hb41 | contradiction) (fun hb41 => ?_)
            refine Ev.aload_n d_Mo_text_44 rfl ?_
            refine Ev.callV d_Mo_text_45 mt_Mo_next lk_Mo_243 in_Mo_next se_Mo_next rfl (Nat.le_of_ble_eq_true rfl) rfl (Nat.le_of_ble_eq_true rfl) (by decide) (is_57 hM) (by decide) rfl rfl g5 ?_
            refine Ev.istore_6 d_Mo_text_48 rfl ?_
            refine Ev.iload d_Mo_text_50 rfl ?_
            refine Ev.bipush d_Mo_text_52 rfl ?_
            refine Ev.icmp_ne (tgt := 72) d_Mo_text_54 rfl (by first | omega | (simp [mu]; done) | (simp [mu]; omega)) (by first | omega | (simp [mu]; done) | (simp [mu]; omega)) (fun hb54 => ?_) (fun hb54 => by exfalso; first | omega | simp at hb54 | contradiction)
            refine Ev.iconst d_Mo_text_72 ?_
            refine Ev.istore_7 d_Mo_text_73 rfl ?_
            refine Ev.iload d_Mo_text_75 rfl ?_
            refine Ev.callS d_Mo_text_77 mt_Mo_isToken lk_Mo_246 st_Mo_isToken rfl (Nat.le_of_ble_eq_true rfl) rfl (Nat.le_of_ble_eq_true rfl) (by decide) rfl (c_Mo_isToken (by omega)) ?_
            rw [b01_t (by omega)]
            refine Ev.if_ne (tgt := 87) d_Mo_text_80 rfl (by first | omega | (simp [mu]; done) | (simp [mu]; omega)) (fun hb80 => ?_) (fun hb80 => by exfalso; first | omega | simp at hb80 | contradiction)
            refine Ev.iload d_Mo_text_87 rfl ?_
            refine Ev.if_eq (tgt := 96) d_Mo_text_89 rfl (by first | omega | (simp [mu]; done) | (simp [mu]; omega)) (fun hb89 => ?_) (fun hb89 => by exfalso; first | omega | simp at hb89 | contradiction)
            refine Ev.iload d_Mo_text_96 rfl ?_
            refine Ev.bipush d_Mo_text_98 rfl ?_
            refine Ev.icmp_ne (tgt := 107) d_Mo_text_100 rfl (by first | omega | (simp [mu]; done) | (simp [mu]; omega)) (by first | omega | (simp [mu]; done) | (simp [mu]; omega)) (fun hb100 => ?_) (fun hb100 => by exfalso; first | omega | simp at hb100 | contradiction)
            refine Ev.iconst d_Mo_text_107 ?_
            refine Ev.iload d_Mo_text_108 rfl ?_
            refine Ev.callS d_Mo_text_110 mt_Mo_isLetter lk_Mo_236 st_Mo_isLetter rfl (Nat.le_of_ble_eq_true rfl) rfl (Nat.le_of_ble_eq_true rfl) (by decide) rfl (c_Mo_isLetter (by omega)) ?_
            rw [b01_t (by omega)]
            refine Ev.icmp_ne (tgt := 123) d_Mo_text_113 rfl (by first | omega | (simp [mu]; done) | (simp [mu]; omega)) (by omega) (fun hb113 => ?_) (fun hb113 => by exfalso; first | omega | simp at hb113 | contradiction)
            refine Ev.iconst d_Mo_text_123 ?_
            refine Ev.goto (tgt := 150) d_Mo_text_124 rfl ?_
            refine Ev.istore_8 d_Mo_text_150 rfl ?_
            refine Ev.iload d_Mo_text_152 rfl ?_
            refine Ev.if_ne (tgt := 166) d_Mo_text_154 rfl (by first | omega | (simp [mu]; done) | (simp [mu]; omega)) (fun hb154 => ?_) (fun hb154 => by exfalso; first | omega | simp at hb154 | contradiction)
            refine Ev.iconst d_Mo_text_166 ?_
            refine Ev.istore_5 d_Mo_text_167 rfl ?_
            refine Ev.iload d_Mo_text_169 rfl ?_
            refine Ev.istore_2 d_Mo_text_171 rfl ?_
            refine Ev.aload_n d_Mo_text_172 rfl ?_
            refine Ev.gf 33 d_Mo_text_173 lf_Mo_233 rfl rfl (is_57 hM) (by decide) ?_
            refine Ev.istore_3 d_Mo_text_176 rfl ?_
            refine Ev.iload d_Mo_text_177 rfl ?_
            refine Ev.if_eq (tgt := 246) d_Mo_text_179 rfl (by first | omega | (simp [mu]; done) | (simp [mu]; omega)) (fun hb179 => ?_) (fun hb179 => by exfalso; first | omega | simp at hb179 | contradiction)
            refine Ev.goto (tgt := 39) d_Mo_text_246 rfl ?_
            rw [show mu m 57 33 p' 57 33 = p' from mu_s]
            exact Ev.to (tl_Mo_text hM (code := 2) (by omega) hR1) (by rw [hX]) rfl
        · by_cases hl4 : l = -4
          · rw [if_pos hl4, if_neg hlt2] at hX
            refine ⟨txE (mu m 57 33 p') 2 s R, ?_, tx_post hX⟩
            refine Ev.iload d_Mo_text_39 rfl ?_
            refine Ev.if_eq (tgt := 249) d_Mo_text_41 rfl (by first | omega | (simp [mu]; done) | (simp [mu]; omega)) (fun hb41 => by exfalso; first | omega | simp at hb41 | contradiction) (fun hb41 => ?_)
            refine Ev.aload_n d_Mo_text_44 rfl ?_
            refine Ev.callV d_Mo_text_45 mt_Mo_next lk_Mo_243 in_Mo_next se_Mo_next rfl (Nat.le_of_ble_eq_true rfl) rfl (Nat.le_of_ble_eq_true rfl) (by decide) (is_57 hM) (by decide) rfl rfl g5 ?_
            refine Ev.istore_6 d_Mo_text_48 rfl ?_
            refine Ev.iload d_Mo_text_50 rfl ?_
            refine Ev.bipush d_Mo_text_52 rfl ?_
            refine Ev.icmp_ne (tgt := 72) d_Mo_text_54 rfl (by first | omega | (simp [mu]; done) | (simp [mu]; omega)) (by first | omega | (simp [mu]; done) | (simp [mu]; omega)) (fun hb54 => ?_) (fun hb54 => by exfalso; first | omega | simp at hb54 | contradiction)
            refine Ev.iconst d_Mo_text_72 ?_
            refine Ev.istore_7 d_Mo_text_73 rfl ?_
            refine Ev.iload d_Mo_text_75 rfl ?_
            refine Ev.callS d_Mo_text_77 mt_Mo_isToken lk_Mo_246 st_Mo_isToken rfl (Nat.le_of_ble_eq_true rfl) rfl (Nat.le_of_ble_eq_true rfl) (by decide) rfl (c_Mo_isToken (by omega)) ?_
            rw [b01_t (by omega)]
            refine Ev.if_ne (tgt := 87) d_Mo_text_80 rfl (by first | omega | (simp [mu]; done) | (simp [mu]; omega)) (fun hb80 => ?_) (fun hb80 => by exfalso; first | omega | simp at hb80 | contradiction)
            refine Ev.iload d_Mo_text_87 rfl ?_
            refine Ev.if_eq (tgt := 96) d_Mo_text_89 rfl (by first | omega | (simp [mu]; done) | (simp [mu]; omega)) (fun hb89 => ?_) (fun hb89 => by exfalso; first | omega | simp at hb89 | contradiction)
            refine Ev.iload d_Mo_text_96 rfl ?_
            refine Ev.bipush d_Mo_text_98 rfl ?_
            refine Ev.icmp_ne (tgt := 107) d_Mo_text_100 rfl (by first | omega | (simp [mu]; done) | (simp [mu]; omega)) (by first | omega | (simp [mu]; done) | (simp [mu]; omega)) (fun hb100 => by exfalso; first | omega | simp at hb100 | contradiction) (fun hb100 => ?_)
            refine Ev.iconst d_Mo_text_103 ?_
            refine Ev.goto (tgt := 108) d_Mo_text_104 rfl ?_
            refine Ev.iload d_Mo_text_108 rfl ?_
            refine Ev.callS d_Mo_text_110 mt_Mo_isLetter lk_Mo_236 st_Mo_isLetter rfl (Nat.le_of_ble_eq_true rfl) rfl (Nat.le_of_ble_eq_true rfl) (by decide) rfl (c_Mo_isLetter (by omega)) ?_
            rw [b01_f (by omega)]
            refine Ev.icmp_ne (tgt := 123) d_Mo_text_113 rfl (by first | omega | (simp [mu]; done) | (simp [mu]; omega)) (by omega) (fun hb113 => ?_) (fun hb113 => by exfalso; first | omega | simp at hb113 | contradiction)
            refine Ev.iconst d_Mo_text_123 ?_
            refine Ev.goto (tgt := 150) d_Mo_text_124 rfl ?_
            refine Ev.istore_8 d_Mo_text_150 rfl ?_
            refine Ev.iload d_Mo_text_152 rfl ?_
            refine Ev.if_ne (tgt := 166) d_Mo_text_154 rfl (by first | omega | (simp [mu]; done) | (simp [mu]; omega)) (fun hb154 => ?_) (fun hb154 => by exfalso; first | omega | simp at hb154 | contradiction)
            refine Ev.iconst d_Mo_text_166 ?_
            refine Ev.istore_5 d_Mo_text_167 rfl ?_
            refine Ev.iload d_Mo_text_169 rfl ?_
            refine Ev.istore_2 d_Mo_text_171 rfl ?_
            refine Ev.aload_n d_Mo_text_172 rfl ?_
            refine Ev.gf 33 d_Mo_text_173 lf_Mo_233 rfl rfl (is_57 hM) (by decide) ?_
            refine Ev.istore_3 d_Mo_text_176 rfl ?_
            refine Ev.iload d_Mo_text_177 rfl ?_
            refine Ev.if_eq (tgt := 246) d_Mo_text_179 rfl (by first | omega | (simp [mu]; done) | (simp [mu]; omega)) (fun hb179 => ?_) (fun hb179 => by exfalso; first | omega | simp at hb179 | contradiction)
            refine Ev.goto (tgt := 39) d_Mo_text_246 rfl ?_
            rw [show mu m 57 33 p' 57 33 = p' from mu_s]
            exact Ev.to (tl_Mo_text hM (code := 2) (by omega) hR1) (by rw [hX]) rfl
          · rw [if_neg hl4, if_neg hlt2] at hX
            by_cases h5 : 5 < s + T.2 p' - 48
            · rw [if_pos h5] at hX
              refine ⟨txE (mu m 57 33 p') 3 s R, ?_, tx_post hX⟩
              refine Ev.iload d_Mo_text_39 rfl ?_
              refine Ev.if_eq (tgt := 249) d_Mo_text_41 rfl (by first | omega | (simp [mu]; done) | (simp [mu]; omega)) (fun hb41 => by exfalso; first | omega | simp at hb41 | contradiction) (fun hb41 => ?_)
              refine Ev.aload_n d_Mo_text_44 rfl ?_
              refine Ev.callV d_Mo_text_45 mt_Mo_next lk_Mo_243 in_Mo_next se_Mo_next rfl (Nat.le_of_ble_eq_true rfl) rfl (Nat.le_of_ble_eq_true rfl) (by decide) (is_57 hM) (by decide) rfl rfl g5 ?_
              refine Ev.istore_6 d_Mo_text_48 rfl ?_
              refine Ev.iload d_Mo_text_50 rfl ?_
              refine Ev.bipush d_Mo_text_52 rfl ?_
              refine Ev.icmp_ne (tgt := 72) d_Mo_text_54 rfl (by first | omega | (simp [mu]; done) | (simp [mu]; omega)) (by first | omega | (simp [mu]; done) | (simp [mu]; omega)) (fun hb54 => ?_) (fun hb54 => by exfalso; first | omega | simp at hb54 | contradiction)
              refine Ev.iconst d_Mo_text_72 ?_
              refine Ev.istore_7 d_Mo_text_73 rfl ?_
              refine Ev.iload d_Mo_text_75 rfl ?_
              refine Ev.callS d_Mo_text_77 mt_Mo_isToken lk_Mo_246 st_Mo_isToken rfl (Nat.le_of_ble_eq_true rfl) rfl (Nat.le_of_ble_eq_true rfl) (by decide) rfl (c_Mo_isToken (by omega)) ?_
              rw [b01_t (by omega)]
              refine Ev.if_ne (tgt := 87) d_Mo_text_80 rfl (by first | omega | (simp [mu]; done) | (simp [mu]; omega)) (fun hb80 => ?_) (fun hb80 => by exfalso; first | omega | simp at hb80 | contradiction)
              refine Ev.iload d_Mo_text_87 rfl ?_
              refine Ev.if_eq (tgt := 96) d_Mo_text_89 rfl (by first | omega | (simp [mu]; done) | (simp [mu]; omega)) (fun hb89 => ?_) (fun hb89 => by exfalso; first | omega | simp at hb89 | contradiction)
              refine Ev.iload d_Mo_text_96 rfl ?_
              refine Ev.bipush d_Mo_text_98 rfl ?_
              refine Ev.icmp_ne (tgt := 107) d_Mo_text_100 rfl (by first | omega | (simp [mu]; done) | (simp [mu]; omega)) (by first | omega | (simp [mu]; done) | (simp [mu]; omega)) (fun hb100 => ?_) (fun hb100 => by exfalso; first | omega | simp at hb100 | contradiction)
              refine Ev.iconst d_Mo_text_107 ?_
              refine Ev.iload d_Mo_text_108 rfl ?_
              refine Ev.callS d_Mo_text_110 mt_Mo_isLetter lk_Mo_236 st_Mo_isLetter rfl (Nat.le_of_ble_eq_true rfl) rfl (Nat.le_of_ble_eq_true rfl) (by decide) rfl (c_Mo_isLetter (by omega)) ?_
              rw [b01_f (by omega)]
              refine Ev.icmp_ne (tgt := 123) d_Mo_text_113 rfl (by first | omega | (simp [mu]; done) | (simp [mu]; omega)) (by omega) (fun hb113 => by exfalso; first | omega | simp at hb113 | contradiction) (fun hb113 => ?_)
              refine Ev.iload d_Mo_text_116 rfl ?_
              refine Ev.bipush d_Mo_text_118 rfl ?_
              refine Ev.icmp_ne (tgt := 127) d_Mo_text_120 rfl (by first | omega | (simp [mu]; done) | (simp [mu]; omega)) (by first | omega | (simp [mu]; done) | (simp [mu]; omega)) (fun hb120 => ?_) (fun hb120 => by exfalso; first | omega | simp at hb120 | contradiction)
              refine Ev.iload d_Mo_text_127 rfl ?_
              refine Ev.bipush d_Mo_text_129 rfl ?_
              refine Ev.icmp_eq (tgt := 149) d_Mo_text_131 rfl (by first | omega | (simp [mu]; done) | (simp [mu]; omega)) (by first | omega | (simp [mu]; done) | (simp [mu]; omega)) (fun hb131 => by exfalso; first | omega | simp at hb131 | contradiction) (fun hb131 => ?_)
              refine Ev.iload_n d_Mo_text_134 rfl ?_
              refine Ev.iload d_Mo_text_135 rfl ?_
              refine Ev.iadd d_Mo_text_137 ?_
              refine Ev.bipush d_Mo_text_138 rfl ?_
              refine Ev.isub d_Mo_text_140 ?_
              refine Ev.iconst d_Mo_text_141 ?_
              refine Ev.icmp_le (tgt := 149) d_Mo_text_142 rfl (by first | omega | (simp [mu]; done) | (simp [mu]; omega)) (by first | omega | (simp [mu]; done) | (simp [mu]; omega)) (fun hb142 => by exfalso; first | omega | simp at hb142 | contradiction) (fun hb142 => ?_)
              refine Ev.iconst d_Mo_text_145 ?_
              refine Ev.goto (tgt := 150) d_Mo_text_146 rfl ?_
              refine Ev.istore_8 d_Mo_text_150 rfl ?_
              refine Ev.iload d_Mo_text_152 rfl ?_
              refine Ev.if_ne (tgt := 166) d_Mo_text_154 rfl (by first | omega | (simp [mu]; done) | (simp [mu]; omega)) (fun hb154 => ?_) (fun hb154 => by exfalso; first | omega | simp at hb154 | contradiction)
              refine Ev.iconst d_Mo_text_166 ?_
              refine Ev.istore_5 d_Mo_text_167 rfl ?_
              refine Ev.iload d_Mo_text_169 rfl ?_
              refine Ev.istore_2 d_Mo_text_171 rfl ?_
              refine Ev.aload_n d_Mo_text_172 rfl ?_
              refine Ev.gf 33 d_Mo_text_173 lf_Mo_233 rfl rfl (is_57 hM) (by decide) ?_
              refine Ev.istore_3 d_Mo_text_176 rfl ?_
              refine Ev.iload d_Mo_text_177 rfl ?_
              refine Ev.if_eq (tgt := 246) d_Mo_text_179 rfl (by first | omega | (simp [mu]; done) | (simp [mu]; omega)) (fun hb179 => ?_) (fun hb179 => by exfalso; first | omega | simp at hb179 | contradiction)
              refine Ev.goto (tgt := 39) d_Mo_text_246 rfl ?_
              rw [show mu m 57 33 p' 57 33 = p' from mu_s]
              exact Ev.to (tl_Mo_text hM (code := 3) (by omega) hR1) (by rw [hX]) rfl
            · rw [if_neg h5] at hX
              have hi : ∀ z : Int, (z = (if l = 97 then 0 else 6) + T.2 p' - 48) → 1 ≤ z ∧ z < 12 := fun z hz => by split at hz <;> omega
              generalize hz : (if l = 97 then 0 else 6) + T.2 p' - 48 = z at hX
              have hz2 := hi z hz.symm
              obtain ⟨m', r1, r2, r3, r4, r5, r6⟩ := ih q3 (p' + 1) (-4) (s + (T.2 p' - 48)) 0 p' (up R z (R z + 1)) (mu (mu (mu m 57 33 p') 78 z (R z + 1)) 57 33 (p' + 1)) (some (vi (T.2 p'))) (some (vi 0)) (some (vi 0)) (by omega) ⟨by rw [mu_n (by decide), mu_a (by decide), mu_n (by decide)]; exact hT.1, fun i h1 h2 => by rw [mu_a (by decide), mu_a (by decide), mu_a (by decide)]; exact hT.2 i h1 h2⟩ (by omega) (by omega) mu_s (by omega) (by omega) (fun j h1 h2 => by
                rw [mu_a (by decide)]
                simp only [up]
                by_cases e : j = z
                · rw [if_pos e, e, mu_s]
                · rw [if_neg e, mu_n (Or.inr e)]; exact hR1 j h1 h2)
              rw [hX]
              refine ⟨m', ?_, r2, r3, r4, fun z => ?_, fun a i h1 h2 h3 => ?_⟩
              · refine Ev.iload d_Mo_text_39 rfl ?_
                refine Ev.if_eq (tgt := 249) d_Mo_text_41 rfl (by first | omega | (simp [mu]; done) | (simp [mu]; omega)) (fun hb41 => by exfalso; first | omega | simp at hb41 | contradiction) (fun hb41 => ?_)
                refine Ev.aload_n d_Mo_text_44 rfl ?_
                refine Ev.callV d_Mo_text_45 mt_Mo_next lk_Mo_243 in_Mo_next se_Mo_next rfl (Nat.le_of_ble_eq_true rfl) rfl (Nat.le_of_ble_eq_true rfl) (by decide) (is_57 hM) (by decide) rfl rfl g5 ?_
                refine Ev.istore_6 d_Mo_text_48 rfl ?_
                refine Ev.iload d_Mo_text_50 rfl ?_
                refine Ev.bipush d_Mo_text_52 rfl ?_
                refine Ev.icmp_ne (tgt := 72) d_Mo_text_54 rfl (by first | omega | (simp [mu]; done) | (simp [mu]; omega)) (by first | omega | (simp [mu]; done) | (simp [mu]; omega)) (fun hb54 => ?_) (fun hb54 => by exfalso; first | omega | simp at hb54 | contradiction)
                refine Ev.iconst d_Mo_text_72 ?_
                refine Ev.istore_7 d_Mo_text_73 rfl ?_
                refine Ev.iload d_Mo_text_75 rfl ?_
                refine Ev.callS d_Mo_text_77 mt_Mo_isToken lk_Mo_246 st_Mo_isToken rfl (Nat.le_of_ble_eq_true rfl) rfl (Nat.le_of_ble_eq_true rfl) (by decide) rfl (c_Mo_isToken (by omega)) ?_
                rw [b01_t (by omega)]
                refine Ev.if_ne (tgt := 87) d_Mo_text_80 rfl (by first | omega | (simp [mu]; done) | (simp [mu]; omega)) (fun hb80 => ?_) (fun hb80 => by exfalso; first | omega | simp at hb80 | contradiction)
                refine Ev.iload d_Mo_text_87 rfl ?_
                refine Ev.if_eq (tgt := 96) d_Mo_text_89 rfl (by first | omega | (simp [mu]; done) | (simp [mu]; omega)) (fun hb89 => ?_) (fun hb89 => by exfalso; first | omega | simp at hb89 | contradiction)
                refine Ev.iload d_Mo_text_96 rfl ?_
                refine Ev.bipush d_Mo_text_98 rfl ?_
                refine Ev.icmp_ne (tgt := 107) d_Mo_text_100 rfl (by first | omega | (simp [mu]; done) | (simp [mu]; omega)) (by first | omega | (simp [mu]; done) | (simp [mu]; omega)) (fun hb100 => ?_) (fun hb100 => by exfalso; first | omega | simp at hb100 | contradiction)
                refine Ev.iconst d_Mo_text_107 ?_
                refine Ev.iload d_Mo_text_108 rfl ?_
                refine Ev.callS d_Mo_text_110 mt_Mo_isLetter lk_Mo_236 st_Mo_isLetter rfl (Nat.le_of_ble_eq_true rfl) rfl (Nat.le_of_ble_eq_true rfl) (by decide) rfl (c_Mo_isLetter (by omega)) ?_
                rw [b01_f (by omega)]
                refine Ev.icmp_ne (tgt := 123) d_Mo_text_113 rfl (by first | omega | (simp [mu]; done) | (simp [mu]; omega)) (by omega) (fun hb113 => by exfalso; first | omega | simp at hb113 | contradiction) (fun hb113 => ?_)
                refine Ev.iload d_Mo_text_116 rfl ?_
                refine Ev.bipush d_Mo_text_118 rfl ?_
                refine Ev.icmp_ne (tgt := 127) d_Mo_text_120 rfl (by first | omega | (simp [mu]; done) | (simp [mu]; omega)) (by first | omega | (simp [mu]; done) | (simp [mu]; omega)) (fun hb120 => ?_) (fun hb120 => by exfalso; first | omega | simp at hb120 | contradiction)
                refine Ev.iload d_Mo_text_127 rfl ?_
                refine Ev.bipush d_Mo_text_129 rfl ?_
                refine Ev.icmp_eq (tgt := 149) d_Mo_text_131 rfl (by first | omega | (simp [mu]; done) | (simp [mu]; omega)) (by first | omega | (simp [mu]; done) | (simp [mu]; omega)) (fun hb131 => by exfalso; first | omega | simp at hb131 | contradiction) (fun hb131 => ?_)
                refine Ev.iload_n d_Mo_text_134 rfl ?_
                refine Ev.iload d_Mo_text_135 rfl ?_
                refine Ev.iadd d_Mo_text_137 ?_
                refine Ev.bipush d_Mo_text_138 rfl ?_
                refine Ev.isub d_Mo_text_140 ?_
                refine Ev.iconst d_Mo_text_141 ?_
                refine Ev.icmp_le (tgt := 149) d_Mo_text_142 rfl (by first | omega | (simp [mu]; done) | (simp [mu]; omega)) (by first | omega | (simp [mu]; done) | (simp [mu]; omega)) (fun hb142 => ?_) (fun hb142 => by exfalso; first | omega | simp at hb142 | contradiction)
                refine Ev.iconst d_Mo_text_149 ?_
                refine Ev.istore_8 d_Mo_text_150 rfl ?_
                refine Ev.iload d_Mo_text_152 rfl ?_
                refine Ev.if_ne (tgt := 166) d_Mo_text_154 rfl (by first | omega | (simp [mu]; done) | (simp [mu]; omega)) (fun hb154 => by exfalso; first | omega | simp at hb154 | contradiction) (fun hb154 => ?_)
                refine Ev.iload d_Mo_text_157 rfl ?_
                refine Ev.if_ne (tgt := 166) d_Mo_text_159 rfl (by first | omega | (simp [mu]; done) | (simp [mu]; omega)) (fun hb159 => by exfalso; first | omega | simp at hb159 | contradiction) (fun hb159 => ?_)
                refine Ev.iconst d_Mo_text_162 ?_
                refine Ev.goto (tgt := 167) d_Mo_text_163 rfl ?_
                refine Ev.istore_5 d_Mo_text_167 rfl ?_
                refine Ev.iload d_Mo_text_169 rfl ?_
                refine Ev.istore_2 d_Mo_text_171 rfl ?_
                refine Ev.aload_n d_Mo_text_172 rfl ?_
                refine Ev.gf 33 d_Mo_text_173 lf_Mo_233 rfl rfl (is_57 hM) (by decide) ?_
                refine Ev.istore_3 d_Mo_text_176 rfl ?_
                refine Ev.iload d_Mo_text_177 rfl ?_
                refine Ev.if_eq (tgt := 246) d_Mo_text_179 rfl (by first | omega | (simp [mu]; done) | (simp [mu]; omega)) (fun hb179 => by exfalso; first | omega | simp at hb179 | contradiction) (fun hb179 => ?_)
                refine Ev.iload d_Mo_text_182 rfl ?_
                refine Ev.bipush d_Mo_text_184 rfl ?_
                refine Ev.icmp_ne (tgt := 196) d_Mo_text_186 rfl (by first | omega | (simp [mu]; done) | (simp [mu]; omega)) (by first | omega | (simp [mu]; done) | (simp [mu]; omega)) (fun hb186 => ?_) (fun hb186 => by exfalso; first | omega | simp at hb186 | contradiction)
                refine Ev.aload_n d_Mo_text_196 rfl ?_
                refine Ev.gr 26 d_Mo_text_197 lf_Mo_73 rfl rfl (is_57 hM) (by decide) (rf_57_26 hM) ?_
                refine Ev.iload d_Mo_text_200 rfl ?_
                refine Ev.bipush d_Mo_text_202 rfl ?_
                refine Ev.icmp_ne (tgt := 211) d_Mo_text_204 rfl (by first | omega | (simp [mu]; done) | (simp [mu]; omega)) (by first | omega | (simp [mu]; done) | (simp [mu]; omega)) (fun hb204 => ?_) (fun hb204 => ?_)
                · rw [if_neg (by omega)] at hz
                  refine Ev.bipush d_Mo_text_211 rfl ?_
                  refine Ev.iload d_Mo_text_213 rfl ?_
                  refine Ev.iadd d_Mo_text_215 ?_
                  refine Ev.bipush d_Mo_text_216 rfl ?_
                  refine Ev.isub d_Mo_text_218 ?_
                  rw [hz]
                  refine Ev.dup2 d_Mo_text_219 rfl rfl ?_
                  refine Ev.iaload d_Mo_text_220 (is_78 hM) (by omega) ?_
                  refine Ev.iconst d_Mo_text_221 ?_
                  refine Ev.iadd d_Mo_text_222 ?_
                  rw [hR1 z (by omega) (by omega)]
                  refine Ev.iastore d_Mo_text_223 (is_78 hM) (by decide) (by omega) ?_
                  refine Ev.iload_n d_Mo_text_224 rfl ?_
                  refine Ev.iload d_Mo_text_225 rfl ?_
                  refine Ev.bipush d_Mo_text_227 rfl ?_
                  refine Ev.isub d_Mo_text_229 ?_
                  refine Ev.iadd d_Mo_text_230 ?_
                  refine Ev.istore_1 d_Mo_text_231 rfl ?_
                  refine Ev.bipush d_Mo_text_232 rfl ?_
                  refine Ev.istore_4 d_Mo_text_234 rfl ?_
                  refine Ev.aload_n d_Mo_text_236 rfl ?_
                  refine Ev.dup d_Mo_text_237 rfl ?_
                  refine Ev.gf 33 d_Mo_text_238 lf_Mo_233 rfl rfl (is_57 hM) (by decide) ?_
                  refine Ev.iconst d_Mo_text_241 ?_
                  refine Ev.iadd d_Mo_text_242 ?_
                  refine Ev.pf 33 d_Mo_text_243 lf_Mo_233 rfl rfl rfl rfl (is_57 hM) (by decide) ?_
                  refine Ev.goto (tgt := 39) d_Mo_text_246 rfl ?_
                  rw [show mu (mu m 57 33 p') 78 z (R z + 1) 57 33 = p' by rw [mu_a (by decide)]; exact mu_s]
                  rw [show mu m 57 33 p' 57 33 = p' from mu_s]
                  exact r1
                · rw [if_pos (by omega)] at hz
                  refine Ev.iconst d_Mo_text_207 ?_
                  refine Ev.goto (tgt := 213) d_Mo_text_208 rfl ?_
                  refine Ev.iload d_Mo_text_213 rfl ?_
                  refine Ev.iadd d_Mo_text_215 ?_
                  refine Ev.bipush d_Mo_text_216 rfl ?_
                  refine Ev.isub d_Mo_text_218 ?_
                  rw [hz]
                  refine Ev.dup2 d_Mo_text_219 rfl rfl ?_
                  refine Ev.iaload d_Mo_text_220 (is_78 hM) (by omega) ?_
                  refine Ev.iconst d_Mo_text_221 ?_
                  refine Ev.iadd d_Mo_text_222 ?_
                  rw [hR1 z (by omega) (by omega)]
                  refine Ev.iastore d_Mo_text_223 (is_78 hM) (by decide) (by omega) ?_
                  refine Ev.iload_n d_Mo_text_224 rfl ?_
                  refine Ev.iload d_Mo_text_225 rfl ?_
                  refine Ev.bipush d_Mo_text_227 rfl ?_
                  refine Ev.isub d_Mo_text_229 ?_
                  refine Ev.iadd d_Mo_text_230 ?_
                  refine Ev.istore_1 d_Mo_text_231 rfl ?_
                  refine Ev.bipush d_Mo_text_232 rfl ?_
                  refine Ev.istore_4 d_Mo_text_234 rfl ?_
                  refine Ev.aload_n d_Mo_text_236 rfl ?_
                  refine Ev.dup d_Mo_text_237 rfl ?_
                  refine Ev.gf 33 d_Mo_text_238 lf_Mo_233 rfl rfl (is_57 hM) (by decide) ?_
                  refine Ev.iconst d_Mo_text_241 ?_
                  refine Ev.iadd d_Mo_text_242 ?_
                  refine Ev.pf 33 d_Mo_text_243 lf_Mo_233 rfl rfl rfl rfl (is_57 hM) (by decide) ?_
                  refine Ev.goto (tgt := 39) d_Mo_text_246 rfl ?_
                  rw [show mu (mu m 57 33 p') 78 z (R z + 1) 57 33 = p' by rw [mu_a (by decide)]; exact mu_s]
                  rw [show mu m 57 33 p' 57 33 = p' from mu_s]
                  exact r1
              · obtain ⟨u1, u2⟩ := r5 z
                exact ⟨by rw [u1, mu_n (by decide), mu_a (by decide), mu_n (by decide)], fun j => by rw [u2 j, mu_a (by decide), mu_a (by decide), mu_a (by decide)]⟩
              · rw [r6 a i h1 h2 h3, mu_n (by omega), mu_a h3, mu_n (by omega)]
      · rw [if_pos (fun z => htk z)] at hX
        refine ⟨txE (mu m 57 33 p') 1 s R, ?_, tx_post hX⟩
        refine Ev.iload d_Mo_text_39 rfl ?_
        refine Ev.if_eq (tgt := 249) d_Mo_text_41 rfl (by first | omega | (simp [mu]; done) | (simp [mu]; omega)) (fun hb41 => by exfalso; first | omega | simp at hb41 | contradiction) (fun hb41 => ?_)
        refine Ev.aload_n d_Mo_text_44 rfl ?_
        refine Ev.callV d_Mo_text_45 mt_Mo_next lk_Mo_243 in_Mo_next se_Mo_next rfl (Nat.le_of_ble_eq_true rfl) rfl (Nat.le_of_ble_eq_true rfl) (by decide) (is_57 hM) (by decide) rfl rfl g5 ?_
        refine Ev.istore_6 d_Mo_text_48 rfl ?_
        refine Ev.iload d_Mo_text_50 rfl ?_
        refine Ev.bipush d_Mo_text_52 rfl ?_
        refine Ev.icmp_ne (tgt := 72) d_Mo_text_54 rfl (by first | omega | (simp [mu]; done) | (simp [mu]; omega)) (by first | omega | (simp [mu]; done) | (simp [mu]; omega)) (fun hb54 => ?_) (fun hb54 => by exfalso; first | omega | simp at hb54 | contradiction)
        refine Ev.iconst d_Mo_text_72 ?_
        refine Ev.istore_7 d_Mo_text_73 rfl ?_
        refine Ev.iload d_Mo_text_75 rfl ?_
        refine Ev.callS d_Mo_text_77 mt_Mo_isToken lk_Mo_246 st_Mo_isToken rfl (Nat.le_of_ble_eq_true rfl) rfl (Nat.le_of_ble_eq_true rfl) (by decide) rfl (c_Mo_isToken (by omega)) ?_
        rw [b01_f (by omega)]
        refine Ev.if_ne (tgt := 87) d_Mo_text_80 rfl (by first | omega | (simp [mu]; done) | (simp [mu]; omega)) (fun hb80 => by exfalso; first | omega | simp at hb80 | contradiction) (fun hb80 => ?_)
        refine Ev.iconst d_Mo_text_83 ?_
        refine Ev.goto (tgt := 150) d_Mo_text_84 rfl ?_
        refine Ev.istore_8 d_Mo_text_150 rfl ?_
        refine Ev.iload d_Mo_text_152 rfl ?_
        refine Ev.if_ne (tgt := 166) d_Mo_text_154 rfl (by first | omega | (simp [mu]; done) | (simp [mu]; omega)) (fun hb154 => ?_) (fun hb154 => by exfalso; first | omega | simp at hb154 | contradiction)
        refine Ev.iconst d_Mo_text_166 ?_
        refine Ev.istore_5 d_Mo_text_167 rfl ?_
        refine Ev.iload d_Mo_text_169 rfl ?_
        refine Ev.istore_2 d_Mo_text_171 rfl ?_
        refine Ev.aload_n d_Mo_text_172 rfl ?_
        refine Ev.gf 33 d_Mo_text_173 lf_Mo_233 rfl rfl (is_57 hM) (by decide) ?_
        refine Ev.istore_3 d_Mo_text_176 rfl ?_
        refine Ev.iload d_Mo_text_177 rfl ?_
        refine Ev.if_eq (tgt := 246) d_Mo_text_179 rfl (by first | omega | (simp [mu]; done) | (simp [mu]; omega)) (fun hb179 => ?_) (fun hb179 => by exfalso; first | omega | simp at hb179 | contradiction)
        refine Ev.goto (tgt := 39) d_Mo_text_246 rfl ?_
        rw [show mu m 57 33 p' 57 33 = p' from mu_s]
        exact Ev.to (tl_Mo_text hM (code := 1) (by omega) hR1) (by rw [hX]) rfl

theorem lp1_Mo_text (hM : MoS σ) {r : Option AV} {mF : Mm} : ∀ (q : Nat) (k : Int) (m : Mm), k + q = 12 → 0 ≤ k → Ev 3 m_Mo_text 21 [some (vr 57), some (vi 12), none, none, none, none, none, none, none] [] σ (ms m 78 k 12 (fun _ => 0)) r σ mF → Ev 3 m_Mo_text 2 [some (vr 57), some (vi k), none, none, none, none, none, none, none] [] σ m r σ mF
  | 0, k, m, hk, h0, c => by
    have e : k = 12 := by omega
    rw [ms_e (by omega)] at c
    refine Ev.iload_n d_Mo_text_2 rfl ?_
    refine Ev.bipush d_Mo_text_3 rfl ?_
    refine Ev.icmp_ge (tgt := 21) d_Mo_text_5 rfl (by first | omega | (simp [mu]; done) | (simp [mu]; omega)) (by first | omega | (simp [mu]; done) | (simp [mu]; omega)) (fun hb5 => ?_) (fun hb5 => by exfalso; first | omega | simp at hb5 | contradiction)
    rw [e]
    exact c
  | q + 1, k, m, hk, h0, c => by
    rw [← ms_s (by omega)] at c
    refine Ev.iload_n d_Mo_text_2 rfl ?_
    refine Ev.bipush d_Mo_text_3 rfl ?_
    refine Ev.icmp_ge (tgt := 21) d_Mo_text_5 rfl (by first | omega | (simp [mu]; done) | (simp [mu]; omega)) (by first | omega | (simp [mu]; done) | (simp [mu]; omega)) (fun hb5 => by exfalso; first | omega | simp at hb5 | contradiction) (fun hb5 => ?_)
    refine Ev.aload_n d_Mo_text_8 rfl ?_
    refine Ev.gr 26 d_Mo_text_9 lf_Mo_73 rfl rfl (is_57 hM) (by decide) (rf_57_26 hM) ?_
    refine Ev.iload_n d_Mo_text_12 rfl ?_
    refine Ev.iconst d_Mo_text_13 ?_
    refine Ev.iastore d_Mo_text_14 (is_78 hM) (by decide) (by first | omega | (simp [mu]; done) | (simp [mu]; omega)) ?_
    refine Ev.iinc_1 d_Mo_text_15 rfl ?_
    refine Ev.goto (tgt := 2) d_Mo_text_18 rfl ?_
    exact lp1_Mo_text hM q (k + 1) _ (by omega) (by omega) c
def txt (T : TPt) : PRt := ps T T.1.toNat 0 (-4) 0 (fun _ => 0)
def sp_text (T : TPt) : Int := if (txt T).1 = 0 then (txt T).2.2.1 else -10 - (txt T).2.1
def st_textD (T : TPt) (D : TDt) : TDt := if (txt T).1 = 0 then (1, (txt T).2.2.2) else D
theorem c_Mo_text (hM : MoS σ) {T : TPt} (hT : MT m T) (hK : TK T) {D : TDt} (hD : MTD m D) : ∃ m', Call 3 m_Mo_text [vr 57] σ m (some (vi (sp_text T))) σ m' ∧ MT m' (0, T.2) ∧ m' 57 23 = (txt T).1 ∧ MTD m' (st_textD T D) ∧ FrX m m' := by
  have k1 := hK.1
  obtain ⟨m', g1, g2, g3, g4, g5, g6⟩ := lp2_Mo_text hM hK T.1.toNat T.1.toNat 0 (-4) 0 0 0 (fun _ => 0) (mu (ms m 78 0 12 (fun _ => 0)) 57 33 0) none none none (Nat.le_refl _) ⟨by rw [mu_n (by decide), ms_a (by decide)]; exact hT.1, fun i h1 h2 => by rw [mu_a (by decide), ms_a (by decide)]; exact hT.2 i h1 h2⟩ (by omega) (by omega) mu_s (by omega) (by omega) (fun j h1 h2 => by rw [mu_a (by decide)]; exact ms_in ⟨h1, h2⟩)
  refine ⟨m', ?_, ⟨g2, fun i h1 h2 => by simp only at h2; omega⟩, g3, ?_, fun a i h1 h2 h3 => ?_⟩
  · show Ev 3 m_Mo_text 0 [some (vr 57), none, none, none, none, none, none, none, none] [] σ m _ σ _
    refine Ev.iconst d_Mo_text_0 ?_
    refine Ev.istore_1 d_Mo_text_1 rfl ?_
    refine lp1_Mo_text hM 12 0 m (by omega) (by omega) ?_
    refine Ev.aload_n d_Mo_text_21 rfl ?_
    refine Ev.iconst d_Mo_text_22 ?_
    refine Ev.pf 33 d_Mo_text_23 lf_Mo_233 rfl rfl rfl rfl (is_57 hM) (by decide) ?_
    refine Ev.iconst d_Mo_text_26 ?_
    refine Ev.istore_1 d_Mo_text_27 rfl ?_
    refine Ev.iconst d_Mo_text_28 ?_
    refine Ev.istore_2 d_Mo_text_29 rfl ?_
    refine Ev.iconst d_Mo_text_30 ?_
    refine Ev.istore_3 d_Mo_text_31 rfl ?_
    refine Ev.bipush d_Mo_text_32 rfl ?_
    refine Ev.istore_4 d_Mo_text_34 rfl ?_
    refine Ev.iconst d_Mo_text_36 ?_
    refine Ev.istore_5 d_Mo_text_37 rfl ?_
    exact g1
  · unfold st_textD
    by_cases h : (txt T).1 = 0
    · rw [if_pos h]
      exact g4 h
    · rw [if_neg h]
      obtain ⟨u1, u2⟩ := g5 h
      exact ⟨by rw [u1, mu_n (by decide), ms_a (by decide)]; exact hD.1, fun i h1 h2 => by rw [u2 i, mu_a (by decide), ms_a (by decide)]; exact hD.2 i h1 h2⟩
  · rw [g6 a i h1 h2 h3, mu_n (by omega), ms_a h3]
end
