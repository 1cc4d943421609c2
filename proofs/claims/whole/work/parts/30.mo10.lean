section
variable {σ : Sg} {m : Mm}
/-! the tape -/
abbrev TPt : Type := Int × (Int → Int)
def TK (T : TPt) : Prop := (0 ≤ T.1 ∧ T.1 ≤ 80) ∧ ∀ i, 0 ≤ i → i < T.1 → 0 ≤ T.2 i ∧ T.2 i ≤ 255
def MT (m : Mm) (T : TPt) : Prop := m 57 22 = T.1 ∧ ∀ i, 0 ≤ i → i < T.1 → m 76 i = T.2 i
def FrT (m m' : Mm) : Prop := ∀ a i : Int, ¬ (a = 57 ∧ i = 22) → a ≠ 76 → m' a i = m a i
theorem FrT.rf {m : Mm} : FrT m m := fun _ _ _ _ => rfl
def bt (v e : Int) : Int := v / 2 ^ (8 * e).toNat % 256
def sp_feed (T : TPt) : Int := if T.1 + 8 ≤ 80 then T.1 + 8 else -3
def st_feed (T : TPt) (v : Int) : TPt := if T.1 + 8 ≤ 80 then (T.1 + 8, fun i => if T.1 ≤ i then bt v (7 - (i - T.1)) else T.2 i) else T
theorem lp_Mo_feed (hM : MoS σ) {v : Int} (hv : -9223372036854775808 ≤ v ∧ v ≤ 9223372036854775807) : ∀ (q : Nat) (k t : Int) (m : Mm), k = 8 * (q : Int) - 8 → q ≤ 8 → m 57 22 = t → 0 ≤ t → t + q ≤ 80 → ∃ m', Ev 1 m_Mo_feed 18 [some (vr 57), some (vl v), none, some (vi k)] [] σ m (some (vi (t + q))) σ m' ∧ m' 57 22 = t + q ∧ (∀ j : Int, t ≤ j → j < t + q → m' 76 j = bt v (q - 1 - (j - t))) ∧ (∀ j : Int, j < t → m' 76 j = m 76 j) ∧ FrT m m'
  | 0, k, t, m, hk, h8, ht, h0, h80 => by
    refine ⟨m, ?_, by rw [ht]; simp, fun j h1 h2 => by omega, fun _ _ => rfl, FrT.rf⟩
    refine Ev.iload_n d_Mo_feed_18 rfl ?_
    refine Ev.if_lt (tgt := 55) d_Mo_feed_19 rfl (by first | omega | (simp [mu]; done) | (simp [mu]; omega)) (fun hb19 => ?_) (fun hb19 => by exfalso; first | omega | simp at hb19 | contradiction)
    refine Ev.aload_n d_Mo_feed_55 rfl ?_
    refine Ev.gf 22 d_Mo_feed_56 lf_Mo_230 rfl rfl (is_57 hM) (by decide) ?_
    exact Ev.to (Ev.ireturn d_Mo_feed_59 rfl) (ri (by rw [ht]; simp)) rfl
  | q + 1, k, t, m, hk, h8, ht, h0, h80 => by
    have eb : v / 2 ^ k.toNat % 2 ^ 8 = bt v q := by
      unfold bt
      rw [show k.toNat = (8 * (q : Int)).toNat by omega]
      rfl
    obtain ⟨m', g1, g2, g3, g4, g5⟩ := lp_Mo_feed hM hv q (k - 8) (t + 1) (mu (mu m 76 t (bt v q)) 57 22 (t + 1)) (by omega) (by omega) mu_s (by omega) (by omega)
    refine ⟨m', ?_, by rw [g2]; omega, fun j h1 h2 => ?_, fun j hj => ?_, fun a i h1 h2 => ?_⟩
    · refine Ev.iload_n d_Mo_feed_18 rfl ?_
      refine Ev.if_lt (tgt := 55) d_Mo_feed_19 rfl (by first | omega | (simp [mu]; done) | (simp [mu]; omega)) (fun hb19 => by exfalso; first | omega | simp at hb19 | contradiction) (fun hb19 => ?_)
      refine Ev.aload_n d_Mo_feed_22 rfl ?_
      refine Ev.gr 21 d_Mo_feed_23 lf_Mo_67 rfl rfl (is_57 hM) (by decide) (rf_57_21 hM) ?_
      refine Ev.aload_n d_Mo_feed_26 rfl ?_
      refine Ev.gf 22 d_Mo_feed_27 lf_Mo_230 rfl rfl (is_57 hM) (by decide) ?_
      refine Ev.lload_n d_Mo_feed_30 rfl ?_
      refine Ev.iload_n d_Mo_feed_31 rfl ?_
      refine Ev.lshr d_Mo_feed_32 (by first | omega | (simp [mu]; done) | (simp [mu]; omega)) (by first | omega | (simp [mu]; done) | (simp [mu]; omega)) ?_
      refine Ev.l2i d_Mo_feed_33 ?_
      refine Ev.sipush d_Mo_feed_34 rfl ?_
      refine Ev.iandm 8 d_Mo_feed_37 (by decide) rfl ?_
      rw [eb, ht]
      refine Ev.iastore d_Mo_feed_38 (is_76 hM) (by decide) (by first | omega | (simp [mu]; done) | (simp [mu]; omega)) ?_
      refine Ev.aload_n d_Mo_feed_39 rfl ?_
      refine Ev.dup d_Mo_feed_40 rfl ?_
      refine Ev.gf 22 d_Mo_feed_41 lf_Mo_230 rfl rfl (is_57 hM) (by decide) ?_
      refine Ev.iconst d_Mo_feed_44 ?_
      refine Ev.iadd d_Mo_feed_45 ?_
      refine Ev.pf 22 d_Mo_feed_46 lf_Mo_230 rfl rfl rfl rfl (is_57 hM) (by decide) ?_
      refine Ev.iinc_3 d_Mo_feed_49 rfl ?_
      refine Ev.goto (tgt := 18) d_Mo_feed_52 rfl ?_
      rw [show mu m 76 t (bt v q) 57 22 = t by rw [mu_a (by decide)]; exact ht, show k + -8 = k - 8 by omega, show t + ((q + 1 : Nat) : Int) = t + 1 + q by omega]
      exact g1
    · by_cases e : j = t
      · rw [g4 j (by omega), mu_a (by decide), e, mu_s]
        congr 1
        omega
      · rw [g3 j (by omega) (by omega)]
        congr 1
        omega
    · rw [g4 j (by omega), mu_a (by decide), mu_n (by omega)]
    · rw [g5 a i h1 h2, mu_n (by omega), mu_a h2]
theorem c_Mo_feed (hM : MoS σ) {T : TPt} (hT : MT m T) (hK : TK T) {v : Int} (hv : -9223372036854775808 ≤ v ∧ v ≤ 9223372036854775807) : ∃ m', Call 1 m_Mo_feed [vr 57, vl v] σ m (some (vi (sp_feed T))) σ m' ∧ MT m' (st_feed T v) ∧ FrT m m' := by
  have k1 := hK.1
  have t1 := hT.1
  by_cases h8 : T.1 + 8 ≤ 80
  · obtain ⟨m', g1, g2, g3, g4, g5⟩ := lp_Mo_feed hM hv 8 56 T.1 m (by omega) (by omega) t1 (by omega) (by omega)
    refine ⟨m', ?_, ?_, g5⟩
    · rw [sp_feed, if_pos h8]
      show Ev 1 m_Mo_feed 0 [some (vr 57), some (vl v), none, none] [] σ m _ σ _
      refine Ev.aload_n d_Mo_feed_0 rfl ?_
      refine Ev.gf 22 d_Mo_feed_1 lf_Mo_230 rfl rfl (is_57 hM) (by decide) ?_
      refine Ev.bipush d_Mo_feed_4 rfl ?_
      refine Ev.iadd d_Mo_feed_6 ?_
      refine Ev.bipush d_Mo_feed_7 rfl ?_
      refine Ev.icmp_le (tgt := 15) d_Mo_feed_9 rfl (by first | omega | (simp [mu]; done) | (simp [mu]; omega)) (by first | omega | (simp [mu]; done) | (simp [mu]; omega)) (fun hb9 => ?_) (fun hb9 => by exfalso; first | omega | simp at hb9 | contradiction)
      refine Ev.bipush d_Mo_feed_15 rfl ?_
      refine Ev.istore_3 d_Mo_feed_17 rfl ?_
      exact g1
    · rw [st_feed, if_pos h8]
      refine ⟨g2, fun i h1 h2 => ?_⟩
      simp only at h2 ⊢
      split
      next h => exact g3 i h h2
      next h => rw [g4 i (by omega)]; exact hT.2 i h1 (by omega)
  · refine ⟨m, ?_, by rw [st_feed, if_neg h8]; exact hT, FrT.rf⟩
    rw [sp_feed, if_neg h8]
    show Ev 1 m_Mo_feed 0 [some (vr 57), some (vl v), none, none] [] σ m _ σ _
    refine Ev.aload_n d_Mo_feed_0 rfl ?_
    refine Ev.gf 22 d_Mo_feed_1 lf_Mo_230 rfl rfl (is_57 hM) (by decide) ?_
    refine Ev.bipush d_Mo_feed_4 rfl ?_
    refine Ev.iadd d_Mo_feed_6 ?_
    refine Ev.bipush d_Mo_feed_7 rfl ?_
    refine Ev.icmp_le (tgt := 15) d_Mo_feed_9 rfl (by first | omega | (simp [mu]; done) | (simp [mu]; omega)) (by first | omega | (simp [mu]; done) | (simp [mu]; omega)) (fun hb9 => by exfalso; first | omega | simp at hb9 | contradiction) (fun hb9 => ?_)
    refine Ev.bipush d_Mo_feed_12 rfl ?_
    exact Ev.to (Ev.ireturn d_Mo_feed_14 rfl) rfl rfl
theorem bt_b (v e : Int) : 0 ≤ bt v e ∧ bt v e ≤ 255 := by
  unfold bt
  omega
theorem st_feed_K {T : TPt} (h : TK T) (v : Int) : TK (st_feed T v) := by
  unfold st_feed
  split
  next h8 =>
    refine ⟨by have := h.1; simp only; omega, fun i h1 h2 => ?_⟩
    simp only at h2 ⊢
    split
    · exact bt_b _ _
    · exact h.2 i h1 (by omega)
  next => exact h
def sp_end (T : TPt) (n : Int) : Int := if 0 ≤ n ∧ n ≤ T.1 then T.1 else -1
def st_end (T : TPt) (n : Int) : TPt := if 0 ≤ n ∧ n ≤ T.1 then (n, T.2) else T
theorem c_Mo_end (hM : MoS σ) {T : TPt} (hT : MT m T) (hK : TK T) {n : Int} (h1 : -2147483648 ≤ n ∧ n ≤ 2147483647) : ∃ m', Call 2 m_Mo_end [vr 57, vi n] σ m (some (vi (sp_end T n))) σ m' ∧ MT m' (st_end T n) ∧ FrT m m' := by
  have k1 := hK.1
  have t1 := hT.1
  by_cases hn : 0 ≤ n ∧ n ≤ T.1
  · refine ⟨mu m 57 22 n, ?_, ?_, fun a i h1 h2 => if_neg h1⟩
    · rw [sp_end, if_pos hn]
      show Ev 2 m_Mo_end 0 [some (vr 57), some (vi n), none] [] σ m _ σ _
      refine Ev.iload_n d_Mo_end_0 rfl ?_
      refine Ev.i2l d_Mo_end_1 (by first | omega | (simp [mu]; done) | (simp [mu]; omega)) ?_
      refine Ev.lconst (x := 0) d_Mo_end_2 rfl ?_
      refine Ev.aload_n d_Mo_end_3 rfl ?_
      refine Ev.gf 22 d_Mo_end_4 lf_Mo_230 rfl rfl (is_57 hM) (by decide) ?_
      refine Ev.i2l d_Mo_end_7 (by first | omega | (simp [mu]; done) | (simp [mu]; omega)) ?_
      refine Ev.callS d_Mo_end_8 mt_Mo_in lk_Mo_107 st_Mo_in rfl (Nat.le_of_ble_eq_true rfl) rfl (Nat.le_of_ble_eq_true rfl) (by decide) rfl (c_Mo_in (by omega) (by omega) (by omega)) ?_
      refine Ev.if_ne (tgt := 16) d_Mo_end_11 rfl b01_b (fun hb11 => ?_) (fun hb11 => by exfalso; (first | rw [b01_ne] at hb11 | rw [b01_eq] at hb11); omega)
      rw [b01_ne] at hb11
      refine Ev.aload_n d_Mo_end_16 rfl ?_
      refine Ev.gf 22 d_Mo_end_17 lf_Mo_230 rfl rfl (is_57 hM) (by decide) ?_
      refine Ev.istore_2 d_Mo_end_20 rfl ?_
      refine Ev.aload_n d_Mo_end_21 rfl ?_
      refine Ev.iload_n d_Mo_end_22 rfl ?_
      refine Ev.pf 22 d_Mo_end_23 lf_Mo_230 rfl rfl rfl rfl (is_57 hM) (by decide) ?_
      refine Ev.iload_n d_Mo_end_26 rfl ?_
      exact Ev.to (Ev.ireturn d_Mo_end_27 rfl) (ri t1) rfl
    · rw [st_end, if_pos hn]
      exact ⟨mu_s, fun i h1 h2 => by rw [mu_a (by decide)]; exact hT.2 i h1 (by simp only at h2; omega)⟩
  · refine ⟨m, ?_, by rw [st_end, if_neg hn]; exact hT, FrT.rf⟩
    rw [sp_end, if_neg hn]
    show Ev 2 m_Mo_end 0 [some (vr 57), some (vi n), none] [] σ m _ σ _
    refine Ev.iload_n d_Mo_end_0 rfl ?_
    refine Ev.i2l d_Mo_end_1 (by first | omega | (simp [mu]; done) | (simp [mu]; omega)) ?_
    refine Ev.lconst (x := 0) d_Mo_end_2 rfl ?_
    refine Ev.aload_n d_Mo_end_3 rfl ?_
    refine Ev.gf 22 d_Mo_end_4 lf_Mo_230 rfl rfl (is_57 hM) (by decide) ?_
    refine Ev.i2l d_Mo_end_7 (by first | omega | (simp [mu]; done) | (simp [mu]; omega)) ?_
    refine Ev.callS d_Mo_end_8 mt_Mo_in lk_Mo_107 st_Mo_in rfl (Nat.le_of_ble_eq_true rfl) rfl (Nat.le_of_ble_eq_true rfl) (by decide) rfl (c_Mo_in (by omega) (by omega) (by omega)) ?_
    refine Ev.if_ne (tgt := 16) d_Mo_end_11 rfl b01_b (fun hb11 => by exfalso; (first | rw [b01_ne] at hb11 | rw [b01_eq] at hb11); omega) (fun hb11 => ?_)
    rw [b01_eq] at hb11
    refine Ev.iconst d_Mo_end_14 ?_
    exact Ev.to (Ev.ireturn d_Mo_end_15 rfl) rfl rfl
theorem st_end_K {T : TPt} (h : TK T) (n : Int) : TK (st_end T n) := by
  unfold st_end
  split
  next h8 => exact ⟨by have := h.1; simp only; omega, fun i h1 h2 => h.2 i h1 (by simp only at h2; omega)⟩
  next => exact h
theorem c_Mo_fault (hM : MoS σ) : Call 1 m_Mo_fault [vr 57] σ m (some (vi (m 57 23))) σ m := by
  show Ev 1 m_Mo_fault 0 [some (vr 57)] [] σ m _ σ m
  refine Ev.aload_n d_Mo_fault_0 rfl ?_
  refine Ev.gf 23 d_Mo_fault_1 lf_Mo_249 rfl rfl (is_57 hM) (by decide) ?_
  exact Ev.to (Ev.ireturn d_Mo_fault_4 rfl) rfl rfl
/-! what was told: whether, and how often each part -/
abbrev TDt : Type := Int × (Int → Int)
def TDK (D : TDt) : Prop := (D.1 = 0 ∨ D.1 = 1) ∧ ∀ i, 0 ≤ i → i < 12 → 0 ≤ D.2 i ∧ D.2 i ≤ 5
def MTD (m : Mm) (D : TDt) : Prop := m 57 24 = D.1 ∧ ∀ i, 0 ≤ i → i < 12 → m 77 i = D.2 i
def sp_has (D : TDt) (l k : Int) : Int := if (0 ≤ l ∧ l ≤ 1) ∧ 1 ≤ k ∧ k ≤ 5 then (if D.1 = 0 then -2 else D.2 (6 * l + k)) else -1
theorem c_Mo_has (hM : MoS σ) {D : TDt} (hD : MTD m D) (hK : TDK D) {l k : Int} (h1 : -2147483648 ≤ l ∧ l ≤ 2147483647) (h2 : -2147483648 ≤ k ∧ k ≤ 2147483647) : Call 2 m_Mo_has [vr 57, vi l, vi k] σ m (some (vi (sp_has D l k))) σ m := by
  show Ev 2 m_Mo_has 0 [some (vr 57), some (vi l), some (vi k)] [] σ m _ σ m
  have d1 := hD.1
  have d2 := hK.1
  refine Ev.iload_n d_Mo_has_0 rfl ?_
  refine Ev.i2l d_Mo_has_1 (by first | omega | (simp [mu]; done) | (simp [mu]; omega)) ?_
  refine Ev.lconst (x := 0) d_Mo_has_2 rfl ?_
  refine Ev.lconst (x := 1) d_Mo_has_3 rfl ?_
  refine Ev.callS d_Mo_has_4 mt_Mo_in lk_Mo_107 st_Mo_in rfl (Nat.le_of_ble_eq_true rfl) rfl (Nat.le_of_ble_eq_true rfl) (by decide) rfl (c_Mo_in (by omega) (by omega) (by omega)) ?_
  refine Ev.if_eq (tgt := 22) d_Mo_has_7 rfl b01_b (fun hb7 => ?_) (fun hb7 => ?_)
  · rw [b01_eq] at hb7
    refine Ev.iconst d_Mo_has_22 ?_
    exact Ev.to (Ev.ireturn d_Mo_has_23 rfl) (ri (by rw [sp_has, if_neg (by omega)])) rfl
  · rw [b01_ne] at hb7
    refine Ev.iload_n d_Mo_has_10 rfl ?_
    refine Ev.i2l d_Mo_has_11 (by first | omega | (simp [mu]; done) | (simp [mu]; omega)) ?_
    refine Ev.lconst (x := 1) d_Mo_has_12 rfl ?_
    refine Ev.ldc2 (x := 5) d_Mo_has_13 kl_Mo_291 ?_
    refine Ev.callS d_Mo_has_16 mt_Mo_in lk_Mo_107 st_Mo_in rfl (Nat.le_of_ble_eq_true rfl) rfl (Nat.le_of_ble_eq_true rfl) (by decide) rfl (c_Mo_in (by omega) (by omega) (by omega)) ?_
    refine Ev.if_ne (tgt := 24) d_Mo_has_19 rfl b01_b (fun hb19 => ?_) (fun hb19 => ?_)
    · rw [b01_ne] at hb19
      refine Ev.aload_n d_Mo_has_24 rfl ?_
      refine Ev.gf 24 d_Mo_has_25 lf_Mo_252 rfl rfl (is_57 hM) (by decide) ?_
      refine Ev.if_eq (tgt := 45) d_Mo_has_28 rfl (by first | omega | (simp [mu]; done) | (simp [mu]; omega)) (fun hb28 => ?_) (fun hb28 => ?_)
      · refine Ev.bipush d_Mo_has_45 rfl ?_
        exact Ev.to (Ev.ireturn d_Mo_has_47 rfl) (ri (by rw [sp_has, if_pos (by omega)]; first | (rw [if_pos (by omega)]; done) | (rw [if_neg (by omega)]; exact hD.2 _ (by omega) (by omega)))) rfl
      · refine Ev.aload_n d_Mo_has_31 rfl ?_
        refine Ev.gr 25 d_Mo_has_32 lf_Mo_70 rfl rfl (is_57 hM) (by decide) (rf_57_25 hM) ?_
        refine Ev.bipush d_Mo_has_35 rfl ?_
        refine Ev.iload_n d_Mo_has_37 rfl ?_
        refine Ev.imul d_Mo_has_38 ?_
        refine Ev.iload_n d_Mo_has_39 rfl ?_
        refine Ev.iadd d_Mo_has_40 ?_
        refine Ev.iaload d_Mo_has_41 (is_77 hM) (by first | omega | (simp [mu]; done) | (simp [mu]; omega)) ?_
        refine Ev.goto (tgt := 47) d_Mo_has_42 rfl ?_
        exact Ev.to (Ev.ireturn d_Mo_has_47 rfl) (ri (by rw [sp_has, if_pos (by omega)]; first | (rw [if_pos (by omega)]; done) | (rw [if_neg (by omega)]; exact hD.2 _ (by omega) (by omega)))) rfl
    · rw [b01_eq] at hb19
      refine Ev.iconst d_Mo_has_22 ?_
      exact Ev.to (Ev.ireturn d_Mo_has_23 rfl) (ri (by rw [sp_has, if_neg (by omega)])) rfl
def sumN (f : Int → Int) : Nat → Int → Int
  | 0, _ => 0
  | n + 1, p => f p + sumN f n (p + 1)
def sp_many (S : PS) (H : SHt) (T : TPt) (what : Int) : Int := if what = 0 then S.1 else if what = 1 then (if H.1 0 = -4 then -4 else H.2.1 0) else if what = 2 then T.1 else if what = 3 then sumN (fun p => (S.2.2 p).length) S.1.toNat 0 else -1
theorem lp_Mo_many (hM : MoS σ) {S : PS} (hS : MS m S) {x1 : Option AV} : ∀ (n : Nat) (p acc res : Int), p + n = S.1 → 0 ≤ p → res = acc + sumN (fun p => (S.2.2 p).length) n p → Ev 1 m_Mo_many 67 [some (vr 57), some (vi 3), some (vi acc), some (vi p)] [] σ m (some (vi res)) σ m
  | 0, p, acc, res, hp, h0, hr => by
    have hS1 := hS.1
    have hS2 := hS.2.1
    simp only [sumN] at hr
    refine Ev.iload_n d_Mo_many_67 rfl ?_
    refine Ev.aload_n d_Mo_many_68 rfl ?_
    refine Ev.gf 0 d_Mo_many_69 lf_Mo_103 rfl rfl (is_57 hM) (by decide) ?_
    refine Ev.icmp_ge (tgt := 90) d_Mo_many_72 rfl (by first | omega | (simp [mu]; done) | (simp [mu]; omega)) (by first | omega | (simp [mu]; done) | (simp [mu]; omega)) (fun hb72 => ?_) (fun hb72 => by exfalso; first | omega | simp at hb72 | contradiction)
    refine Ev.iload_n d_Mo_many_90 rfl ?_
    exact Ev.to (Ev.ireturn d_Mo_many_91 rfl) (ri (by omega)) rfl
  | n + 1, p, acc, res, hp, h0, hr => by
    have hS1 := hS.1
    have hS2 := hS.2.1
    simp only [sumN] at hr
    have hq := (hS.2.2 p h0 (by omega)).1.2.1
    refine Ev.iload_n d_Mo_many_67 rfl ?_
    refine Ev.aload_n d_Mo_many_68 rfl ?_
    refine Ev.gf 0 d_Mo_many_69 lf_Mo_103 rfl rfl (is_57 hM) (by decide) ?_
    refine Ev.icmp_ge (tgt := 90) d_Mo_many_72 rfl (by first | omega | (simp [mu]; done) | (simp [mu]; omega)) (by first | omega | (simp [mu]; done) | (simp [mu]; omega)) (fun hb72 => by exfalso; first | omega | simp at hb72 | contradiction) (fun hb72 => ?_)
    refine Ev.iload_n d_Mo_many_75 rfl ?_
    refine Ev.aload_n d_Mo_many_76 rfl ?_
    refine Ev.gr 2 d_Mo_many_77 lf_Mo_13 rfl rfl (is_57 hM) (by decide) (rf_57_2 hM) ?_
    refine Ev.iload_n d_Mo_many_80 rfl ?_
    refine Ev.iaload d_Mo_many_81 (is_59 hM) (by first | omega | (simp [mu]; done) | (simp [mu]; omega)) ?_
    refine Ev.iadd d_Mo_many_82 ?_
    refine Ev.istore_2 d_Mo_many_83 rfl ?_
    refine Ev.iinc_3 d_Mo_many_84 rfl ?_
    refine Ev.goto (tgt := 67) d_Mo_many_87 rfl ?_
    exact lp_Mo_many hM hS (x1 := x1) n (p + 1) _ res (by omega) (by omega) (by rw [hq]; omega)
theorem c_Mo_many (hM : MoS σ) {S : PS} (hS : MS m S) {H : SHt} (hH : MH m H) (hHK : HK H) {T : TPt} (hT : MT m T) {what : Int} (h1 : -2147483648 ≤ what ∧ what ≤ 2147483647) : Call 1 m_Mo_many [vr 57, vi what] σ m (some (vi (sp_many S H T what))) σ m := by
  show Ev 1 m_Mo_many 0 [some (vr 57), some (vi what), none, none] [] σ m _ σ m
  have hS1 := hS.1
  have hS2 := hS.2.1
  obtain ⟨y1, y2, y3⟩ := hH 0 (by omega) (by omega)
  obtain ⟨z1, z2, z3⟩ := hHK 0 (by omega) (by omega)
  refine Ev.iconst d_Mo_many_0 ?_
  refine Ev.istore_2 d_Mo_many_1 rfl ?_
  refine Ev.iload_n d_Mo_many_2 rfl ?_
  rcases (show (what < 0 ∨ 3 < what) ∨ what = 0 ∨ what = 1 ∨ what = 2 ∨ what = 3 by omega) with hsw | rfl | rfl | rfl | rfl
  · refine Ev.tableOut (tgt := 92) d_Mo_many_3 (by omega) hsw rfl ?_
    refine Ev.iconst d_Mo_many_92 ?_
    exact Ev.to (Ev.ireturn d_Mo_many_93 rfl) (ri (by rw [sp_many, if_neg (by omega), if_neg (by omega), if_neg (by omega), if_neg (by omega)])) rfl
  · refine Ev.tableIn (off := 29) (tgt := 32) d_Mo_many_3 (by omega) (by omega) (by omega) rfl rfl ?_
    refine Ev.aload_n d_Mo_many_32 rfl ?_
    refine Ev.gf 0 d_Mo_many_33 lf_Mo_103 rfl rfl (is_57 hM) (by decide) ?_
    exact Ev.to (Ev.ireturn d_Mo_many_36 rfl) (ri (by rw [sp_many, if_pos rfl]; exact hS2)) rfl
  · refine Ev.tableIn (off := 34) (tgt := 37) d_Mo_many_3 (by omega) (by omega) (by omega) rfl rfl ?_
    refine Ev.aload_n d_Mo_many_37 rfl ?_
    refine Ev.gr 36 d_Mo_many_38 lf_Mo_94 rfl rfl (is_57 hM) (by decide) (rf_57_36 hM) ?_
    refine Ev.iconst d_Mo_many_41 ?_
    refine Ev.iaload d_Mo_many_42 (is_85 hM) (by first | omega | (simp [mu]; done) | (simp [mu]; omega)) ?_
    refine Ev.bipush d_Mo_many_43 rfl ?_
    refine Ev.icmp_ne (tgt := 53) d_Mo_many_45 rfl (by first | omega | (simp [mu]; done) | (simp [mu]; omega)) (by first | omega | (simp [mu]; done) | (simp [mu]; omega)) (fun hb45 => ?_) (fun hb45 => ?_)
    · refine Ev.aload_n d_Mo_many_53 rfl ?_
      refine Ev.gr 37 d_Mo_many_54 lf_Mo_97 rfl rfl (is_57 hM) (by decide) (rf_57_37 hM) ?_
      refine Ev.iconst d_Mo_many_57 ?_
      refine Ev.iaload d_Mo_many_58 (is_86 hM) (by first | omega | (simp [mu]; done) | (simp [mu]; omega)) ?_
      exact Ev.to (Ev.ireturn d_Mo_many_59 rfl) (ri (by rw [sp_many, if_neg (by decide), if_pos rfl]; first | (rw [if_pos (by omega)]; done) | (rw [if_neg (by omega)]; exact y2))) rfl
    · refine Ev.bipush d_Mo_many_48 rfl ?_
      refine Ev.goto (tgt := 59) d_Mo_many_50 rfl ?_
      exact Ev.to (Ev.ireturn d_Mo_many_59 rfl) (ri (by rw [sp_many, if_neg (by decide), if_pos rfl]; first | (rw [if_pos (by omega)]; done) | (rw [if_neg (by omega)]; exact y2))) rfl
  · refine Ev.tableIn (off := 57) (tgt := 60) d_Mo_many_3 (by omega) (by omega) (by omega) rfl rfl ?_
    refine Ev.aload_n d_Mo_many_60 rfl ?_
    refine Ev.gf 22 d_Mo_many_61 lf_Mo_230 rfl rfl (is_57 hM) (by decide) ?_
    exact Ev.to (Ev.ireturn d_Mo_many_64 rfl) (ri (by rw [sp_many, if_neg (by decide), if_neg (by decide), if_pos rfl]; exact hT.1)) rfl
  · refine Ev.tableIn (off := 62) (tgt := 65) d_Mo_many_3 (by omega) (by omega) (by omega) rfl rfl ?_
    refine Ev.iconst d_Mo_many_65 ?_
    refine Ev.istore_3 d_Mo_many_66 rfl ?_
    exact lp_Mo_many hM hS (x1 := none) S.1.toNat 0 0 _ (by omega) (by omega) (by rw [sp_many, if_neg (by decide), if_neg (by decide), if_neg (by decide), if_pos rfl]; omega)
end
