section
variable {σ : Sg} {m : Mm}
theorem mu_a {m : Mm} {a i x b j : Int} (h : b ≠ a) : mu m a i x b j = m b j := mu_n (Or.inl h)
def sp_picture (S : PS) (d : Int) : Int := if 1 ≤ d ∧ d ≤ 4 then (if S.1 = 8 then -3 else S.1) else -1
def st_new (S : PS) (d : Int) (l : List Int) : PS := (S.1 + 1, up S.2.1 S.1 d, up S.2.2 S.1 l)
def st_picture (S : PS) (d : Int) : PS := if (1 ≤ d ∧ d ≤ 4) ∧ ¬ S.1 = 8 then st_new S d [] else S
theorem MS_new {m m' : Mm} {S : PS} {d : Int} {l : List Int} (h : MS m S) (h8 : S.1 < 8) (hP : PM m' S.1 d l) (hK : PK d l) (h0 : m' 57 0 = S.1 + 1) (hd : ∀ q, q ≠ S.1 → m' 58 q = m 58 q ∧ m' 59 q = m 59 q) (ha : ∀ a j : Int, a = 60 ∨ a = 61 ∨ a = 62 → j < 6 * S.1 → m' a j = m a j) : MS m' (st_new S d l) := by
  have h1 := h.1
  refine ⟨by simp only [st_new]; omega, h0, fun q hq1 hq2 => ?_⟩
  simp only [st_new] at hq2
  by_cases e : q = S.1
  · subst e
    simp only [st_new, up, if_true]
    exact ⟨hP, hK⟩
  · simp only [st_new, up, if_neg e]
    obtain ⟨⟨g1, g2, g3⟩, g4⟩ := h.2.2 q hq1 (by omega)
    refine ⟨⟨(hd q e).1.trans g1, (hd q e).2.trans g2, At_eq (fun j hj1 hj2 => ?_) g3⟩, g4⟩
    have := g4.2.1
    have hj : j < 6 * S.1 := by omega
    exact ⟨ha 60 j (by omega) hj, ha 61 j (by omega) hj, ha 62 j (by omega) hj⟩
theorem c_Mo_picture (hM : MoS σ) {S : PS} (hS : MS m S) {d : Int} (h1 : -2147483648 ≤ d ∧ d ≤ 2147483647) : ∃ m', Call 2 m_Mo_picture [vr 57, vi d] σ m (some (vi (sp_picture S d))) σ m' ∧ MS m' (st_picture S d) ∧ FrM m m' := by
  have hS1 := hS.1
  have hS2 := hS.2.1
  by_cases hd : 1 ≤ d ∧ d ≤ 4
  · by_cases h8 : S.1 = 8
    · refine ⟨m, ?_, by rw [st_picture, if_neg (fun q => q.2 h8)]; exact hS, FrM.rf⟩
      show Ev 2 m_Mo_picture 0 [some (vr 57), some (vi d)] [] σ m _ σ _
      refine Ev.iload_n d_Mo_picture_0 rfl ?_
      refine Ev.i2l d_Mo_picture_1 (by first | omega | (simp [mu]; done) | (simp [mu]; omega)) ?_
      refine Ev.lconst (x := 1) d_Mo_picture_2 rfl ?_
      refine Ev.ldc2 (x := 4) d_Mo_picture_3 kl_Mo_111 ?_
      refine Ev.callS d_Mo_picture_6 mt_Mo_in lk_Mo_107 st_Mo_in rfl (Nat.le_of_ble_eq_true rfl) rfl (Nat.le_of_ble_eq_true rfl) (by decide) rfl (c_Mo_in (by omega) (by omega) (by omega)) ?_
      refine Ev.if_ne (tgt := 14) d_Mo_picture_9 rfl b01_b (fun hb9 => ?_) (fun hb9 => by exfalso; (first | rw [b01_ne] at hb9 | rw [b01_eq] at hb9); omega)
      rw [b01_ne] at hb9
      refine Ev.aload_n d_Mo_picture_14 rfl ?_
      refine Ev.gf 0 d_Mo_picture_15 lf_Mo_103 rfl rfl (is_57 hM) (by decide) ?_
      refine Ev.bipush d_Mo_picture_18 rfl ?_
      refine Ev.icmp_ne (tgt := 26) d_Mo_picture_20 rfl (by first | omega | (simp [mu]; done) | (simp [mu]; omega)) (by first | omega | (simp [mu]; done) | (simp [mu]; omega)) (fun hb20 => by exfalso; first | omega | simp at hb20 | contradiction) (fun hb20 => ?_)
      refine Ev.bipush d_Mo_picture_23 rfl ?_
      exact Ev.to (Ev.ireturn d_Mo_picture_25 rfl) (ri (by rw [sp_picture, if_pos hd, if_pos h8])) rfl
    · refine ⟨mu (mu (mu m 58 S.1 d) 59 S.1 0) 57 0 (S.1 + 1), ?_, ?_, ?_⟩
      · show Ev 2 m_Mo_picture 0 [some (vr 57), some (vi d)] [] σ m _ σ _
        refine Ev.iload_n d_Mo_picture_0 rfl ?_
        refine Ev.i2l d_Mo_picture_1 (by first | omega | (simp [mu]; done) | (simp [mu]; omega)) ?_
        refine Ev.lconst (x := 1) d_Mo_picture_2 rfl ?_
        refine Ev.ldc2 (x := 4) d_Mo_picture_3 kl_Mo_111 ?_
        refine Ev.callS d_Mo_picture_6 mt_Mo_in lk_Mo_107 st_Mo_in rfl (Nat.le_of_ble_eq_true rfl) rfl (Nat.le_of_ble_eq_true rfl) (by decide) rfl (c_Mo_in (by omega) (by omega) (by omega)) ?_
        refine Ev.if_ne (tgt := 14) d_Mo_picture_9 rfl b01_b (fun hb9 => ?_) (fun hb9 => by exfalso; (first | rw [b01_ne] at hb9 | rw [b01_eq] at hb9); omega)
        rw [b01_ne] at hb9
        refine Ev.aload_n d_Mo_picture_14 rfl ?_
        refine Ev.gf 0 d_Mo_picture_15 lf_Mo_103 rfl rfl (is_57 hM) (by decide) ?_
        refine Ev.bipush d_Mo_picture_18 rfl ?_
        refine Ev.icmp_ne (tgt := 26) d_Mo_picture_20 rfl (by first | omega | (simp [mu]; done) | (simp [mu]; omega)) (by first | omega | (simp [mu]; done) | (simp [mu]; omega)) (fun hb20 => ?_) (fun hb20 => by exfalso; first | omega | simp at hb20 | contradiction)
        refine Ev.aload_n d_Mo_picture_26 rfl ?_
        refine Ev.gr 1 d_Mo_picture_27 lf_Mo_7 rfl rfl (is_57 hM) (by decide) (rf_57_1 hM) ?_
        refine Ev.aload_n d_Mo_picture_30 rfl ?_
        refine Ev.gf 0 d_Mo_picture_31 lf_Mo_103 rfl rfl (is_57 hM) (by decide) ?_
        refine Ev.iload_n d_Mo_picture_34 rfl ?_
        refine Ev.iastore d_Mo_picture_35 (is_58 hM) (by decide) (by first | omega | (simp [mu]; done) | (simp [mu]; omega)) ?_
        refine Ev.aload_n d_Mo_picture_36 rfl ?_
        refine Ev.gr 2 d_Mo_picture_37 lf_Mo_13 rfl rfl (is_57 hM) (by decide) (rf_57_2 hM) ?_
        refine Ev.aload_n d_Mo_picture_40 rfl ?_
        refine Ev.gf 0 d_Mo_picture_41 lf_Mo_103 rfl rfl (is_57 hM) (by decide) ?_
        refine Ev.iconst d_Mo_picture_44 ?_
        refine Ev.iastore d_Mo_picture_45 (is_59 hM) (by decide) (by first | omega | (simp [mu]; done) | (simp [mu]; omega)) ?_
        refine Ev.aload_n d_Mo_picture_46 rfl ?_
        refine Ev.dup d_Mo_picture_47 rfl ?_
        refine Ev.gf 0 d_Mo_picture_48 lf_Mo_103 rfl rfl (is_57 hM) (by decide) ?_
        refine Ev.iconst d_Mo_picture_51 ?_
        refine Ev.iadd d_Mo_picture_52 ?_
        refine Ev.pf 0 d_Mo_picture_53 lf_Mo_103 rfl rfl rfl rfl (is_57 hM) (by decide) ?_
        refine Ev.aload_n d_Mo_picture_56 rfl ?_
        refine Ev.gf 0 d_Mo_picture_57 lf_Mo_103 rfl rfl (is_57 hM) (by decide) ?_
        refine Ev.iconst d_Mo_picture_60 ?_
        refine Ev.isub d_Mo_picture_61 ?_
        exact Ev.to (Ev.ireturn d_Mo_picture_62 rfl) (ri (by rw [sp_picture, if_pos hd, if_neg h8, mu_s, mu_a (by decide), mu_a (by decide), hS2]; omega)) (by simp [mu_a, hS2])
      · rw [st_picture, if_pos ⟨hd, h8⟩]
        refine MS_new hS (by omega) ⟨?_, ?_, trivial⟩ ⟨hd, by simp, by simp, by simp⟩ ?_ (fun q hq => ⟨?_, ?_⟩) (fun a j ha hj => ?_)
        · simp [mu]
        · simp [mu]
        · simp [mu]
        · simp [mu, hq]
        · simp [mu, hq]
        · rcases ha with rfl | rfl | rfl <;> simp [mu]
      · intro a i h1 h2
        simp only [mu]
        rw [if_neg h1, if_neg (by omega), if_neg (by omega)]
  · refine ⟨m, ?_, by rw [st_picture, if_neg (fun q => hd q.1)]; exact hS, FrM.rf⟩
    show Ev 2 m_Mo_picture 0 [some (vr 57), some (vi d)] [] σ m _ σ _
    refine Ev.iload_n d_Mo_picture_0 rfl ?_
    refine Ev.i2l d_Mo_picture_1 (by first | omega | (simp [mu]; done) | (simp [mu]; omega)) ?_
    refine Ev.lconst (x := 1) d_Mo_picture_2 rfl ?_
    refine Ev.ldc2 (x := 4) d_Mo_picture_3 kl_Mo_111 ?_
    refine Ev.callS d_Mo_picture_6 mt_Mo_in lk_Mo_107 st_Mo_in rfl (Nat.le_of_ble_eq_true rfl) rfl (Nat.le_of_ble_eq_true rfl) (by decide) rfl (c_Mo_in (by omega) (by omega) (by omega)) ?_
    refine Ev.if_ne (tgt := 14) d_Mo_picture_9 rfl b01_b (fun hb9 => by exfalso; (first | rw [b01_ne] at hb9 | rw [b01_eq] at hb9); omega) (fun hb9 => ?_)
    rw [b01_eq] at hb9
    refine Ev.iconst d_Mo_picture_12 ?_
    exact Ev.to (Ev.ireturn d_Mo_picture_13 rfl) (ri (by rw [sp_picture, if_neg hd])) rfl
def sp_drop (S : PS) : Int := if S.1 = 0 then -4 else S.1 - 1
def st_drop (S : PS) : PS := if S.1 = 0 then S else (S.1 - 1, S.2.1, S.2.2)
theorem c_Mo_drop (hM : MoS σ) {S : PS} (hS : MS m S) : ∃ m', Call 1 m_Mo_drop [vr 57] σ m (some (vi (sp_drop S))) σ m' ∧ MS m' (st_drop S) ∧ FrM m m' := by
  have hS1 := hS.1
  have hS2 := hS.2.1
  by_cases h0 : S.1 = 0
  · refine ⟨m, ?_, by rw [st_drop, if_pos h0]; exact hS, FrM.rf⟩
    show Ev 1 m_Mo_drop 0 [some (vr 57)] [] σ m _ σ _
    refine Ev.aload_n d_Mo_drop_0 rfl ?_
    refine Ev.gf 0 d_Mo_drop_1 lf_Mo_103 rfl rfl (is_57 hM) (by decide) ?_
    refine Ev.if_ne (tgt := 10) d_Mo_drop_4 rfl (by first | omega | (simp [mu]; done) | (simp [mu]; omega)) (fun hb4 => by exfalso; first | omega | simp at hb4 | contradiction) (fun hb4 => ?_)
    refine Ev.bipush d_Mo_drop_7 rfl ?_
    exact Ev.to (Ev.ireturn d_Mo_drop_9 rfl) (ri (by rw [sp_drop, if_pos h0])) rfl
  · refine ⟨mu m 57 0 (S.1 - 1), ?_, ?_, ?_⟩
    · show Ev 1 m_Mo_drop 0 [some (vr 57)] [] σ m _ σ _
      refine Ev.aload_n d_Mo_drop_0 rfl ?_
      refine Ev.gf 0 d_Mo_drop_1 lf_Mo_103 rfl rfl (is_57 hM) (by decide) ?_
      refine Ev.if_ne (tgt := 10) d_Mo_drop_4 rfl (by first | omega | (simp [mu]; done) | (simp [mu]; omega)) (fun hb4 => ?_) (fun hb4 => by exfalso; first | omega | simp at hb4 | contradiction)
      refine Ev.aload_n d_Mo_drop_10 rfl ?_
      refine Ev.dup d_Mo_drop_11 rfl ?_
      refine Ev.gf 0 d_Mo_drop_12 lf_Mo_103 rfl rfl (is_57 hM) (by decide) ?_
      refine Ev.iconst d_Mo_drop_15 ?_
      refine Ev.isub d_Mo_drop_16 ?_
      refine Ev.pf 0 d_Mo_drop_17 lf_Mo_103 rfl rfl rfl rfl (is_57 hM) (by decide) ?_
      refine Ev.aload_n d_Mo_drop_20 rfl ?_
      refine Ev.gf 0 d_Mo_drop_21 lf_Mo_103 rfl rfl (is_57 hM) (by decide) ?_
      exact Ev.to (Ev.ireturn d_Mo_drop_24 rfl) (ri (by rw [sp_drop, if_neg h0, mu_s, hS2])) (by rw [hS2])
    · rw [st_drop, if_neg h0]
      refine ⟨by simp only; omega, mu_s, fun q hq1 hq2 => ?_⟩
      simp only at hq2
      obtain ⟨⟨g1, g2, g3⟩, g4⟩ := hS.2.2 q hq1 (by omega)
      refine ⟨⟨by rw [mu_a (by decide)]; exact g1, by rw [mu_a (by decide)]; exact g2, At_eq (fun j _ _ => ⟨mu_a (by decide), mu_a (by decide), mu_a (by decide)⟩) g3⟩, g4⟩
    · intro a i h1 h2
      exact if_neg h1
theorem tl_Mo_put (hM : MoS σ) {p i j w k : Int} (hp : 0 ≤ p ∧ p ≤ 8) (hk : 0 ≤ k ∧ k < 54) : Ev 2 m_Mo_put 91 [some (vr 57), some (vi p), some (vi i), some (vi j), some (vi w), some (vi k)] [] σ m none σ (mu (mu (mu (mu m 60 k i) 61 k j) 62 k w) 59 p (m 59 p + 1)) := by
  refine Ev.aload_n d_Mo_put_91 rfl ?_
  refine Ev.gr 3 d_Mo_put_92 lf_Mo_16 rfl rfl (is_57 hM) (by decide) (rf_57_3 hM) ?_
  refine Ev.iload d_Mo_put_95 rfl ?_
  refine Ev.iload_n d_Mo_put_97 rfl ?_
  refine Ev.iastore d_Mo_put_98 (is_60 hM) (by decide) (by first | omega | (simp [mu]; done) | (simp [mu]; omega)) ?_
  refine Ev.aload_n d_Mo_put_99 rfl ?_
  refine Ev.gr 4 d_Mo_put_100 lf_Mo_19 rfl rfl (is_57 hM) (by decide) (rf_57_4 hM) ?_
  refine Ev.iload d_Mo_put_103 rfl ?_
  refine Ev.iload_n d_Mo_put_105 rfl ?_
  refine Ev.iastore d_Mo_put_106 (is_61 hM) (by decide) (by first | omega | (simp [mu]; done) | (simp [mu]; omega)) ?_
  refine Ev.aload_n d_Mo_put_107 rfl ?_
  refine Ev.gr 5 d_Mo_put_108 lf_Mo_22 rfl rfl (is_57 hM) (by decide) (rf_57_5 hM) ?_
  refine Ev.iload d_Mo_put_111 rfl ?_
  refine Ev.iload d_Mo_put_113 rfl ?_
  refine Ev.iastore d_Mo_put_115 (is_62 hM) (by decide) (by first | omega | (simp [mu]; done) | (simp [mu]; omega)) ?_
  refine Ev.aload_n d_Mo_put_116 rfl ?_
  refine Ev.gr 2 d_Mo_put_117 lf_Mo_13 rfl rfl (is_57 hM) (by decide) (rf_57_2 hM) ?_
  refine Ev.iload_n d_Mo_put_120 rfl ?_
  refine Ev.dup2 d_Mo_put_121 rfl rfl ?_
  refine Ev.iaload d_Mo_put_122 (is_59 hM) (by first | omega | (simp [mu]; done) | (simp [mu]; omega)) ?_
  refine Ev.iconst d_Mo_put_123 ?_
  refine Ev.iadd d_Mo_put_124 ?_
  refine Ev.iastore d_Mo_put_125 (is_59 hM) (by decide) (by first | omega | (simp [mu]; done) | (simp [mu]; omega)) ?_
  exact Ev.to (Ev.return d_Mo_put_126 rfl) rfl (by rw [mu_a (by decide), mu_a (by decide), mu_a (by decide)])
/-- what putting does, but for the picture put to -/
def FrP (p : Int) (m m' : Mm) : Prop := (∀ a i : Int, a ≠ 59 → a ≠ 60 → a ≠ 61 → a ≠ 62 → m' a i = m a i) ∧ (∀ q : Int, q ≠ p → m' 59 q = m 59 q) ∧ ∀ a j : Int, a = 60 ∨ a = 61 ∨ a = 62 → (j < 6 * p ∨ 6 * p + 6 ≤ j) → m' a j = m a j
theorem lp_Mo_put (hM : MoS σ) {p s : Int} (hp : 0 ≤ p ∧ p ≤ 8) (hs : 0 ≤ s ∧ s < 24) : ∀ (rp suf : List Int) (m : Mm) (k : Int), k = 6 * p + rp.length → At m (6 * p) rp.reverse → At m (k + 1) suf → (∀ y ∈ rp, 0 ≤ y ∧ y < 24) → rp.length + suf.length ≤ 5 → rp.reverse.Pairwise (· ≤ ·) → (∀ y ∈ suf, s < y) → ∃ m', Ev 2 m_Mo_put 13 [some (vr 57), some (vi p), some (vi (fS s)), some (vi (tS s)), some (vi (wS s)), some (vi k)] [] σ m none σ m' ∧ At m' (6 * p) (ins s (rp.reverse ++ suf)) ∧ m' 59 p = m 59 p + 1 ∧ FrP p m m'
  | [], suf, m, k, hk, hA, hB, hy, h5, hsr, hsu => by
    simp only [List.length_nil] at hk h5
    have b1 := fS_b s
    have b2 := tS_b s
    have b3 := wS_b s
    refine ⟨mu (mu (mu (mu m 60 k (fS s)) 61 k (tS s)) 62 k (wS s)) 59 p (m 59 p + 1), ?_, ?_, mu_s, ?_⟩
    · refine Ev.iload d_Mo_put_13 rfl ?_
      refine Ev.bipush d_Mo_put_15 rfl ?_
      refine Ev.iload_n d_Mo_put_17 rfl ?_
      refine Ev.imul d_Mo_put_18 ?_
      refine Ev.icmp_le (tgt := 91) d_Mo_put_19 rfl (by first | omega | (simp [mu]; done) | (simp [mu]; omega)) (by first | omega | (simp [mu]; done) | (simp [mu]; omega)) (fun hb19 => ?_) (fun hb19 => by exfalso; first | omega | simp at hb19 | contradiction)
      exact tl_Mo_put hM hp (by omega)
    · show At _ (6 * p) (ins s ([] ++ suf))
      rw [ins_mid (by simp) hsu, At_app]
      refine ⟨trivial, ⟨?_, ?_, ?_⟩, At_eq (fun j hj1 hj2 => ?_) (show At m (6 * p + ↑([] : List Int).length + 1) suf by rw [show 6 * p + ↑([] : List Int).length + 1 = k + 1 by simp; omega]; exact hB)⟩
      · simp [mu, hk]
      · simp [mu, hk]
      · simp [mu, hk]
      · simp only [List.length_nil] at hj1
        have : ¬ j = k := by omega
        simp [mu, this]
    · refine ⟨fun a i h1 h2 h3 h4 => by simp [mu, h1, h2, h3, h4], fun q hq => by simp [mu, hq], fun a j ha hj => ?_⟩
      have : ¬ j = k := by omega
      rcases ha with rfl | rfl | rfl <;> simp [mu, this]
  | x :: t, suf, m, k, hk, hA, hB, hy, h5, hsr, hsu => by
    simp only [List.length_cons] at hk h5
    have b1 := fS_b s
    have b2 := tS_b s
    have b3 := wS_b s
    have c1 := fS_b x
    have c2 := tS_b x
    have c3 := wS_b x
    have hx := hy x List.mem_cons_self
    have hle := spot_leI hx hs
    have hA0 := hA
    simp only [List.reverse_cons] at hA hsr
    rw [At_app] at hA
    obtain ⟨hA1, ⟨e1, e2, e3⟩, -⟩ := hA
    simp only [List.length_reverse] at e1 e2 e3
    rw [show 6 * p + (t.length : Int) = k - 1 by omega] at e1 e2 e3
    have hpw := List.pairwise_append.mp hsr
    by_cases hxs : x ≤ s
    · refine ⟨mu (mu (mu (mu m 60 k (fS s)) 61 k (tS s)) 62 k (wS s)) 59 p (m 59 p + 1), ?_, ?_, mu_s, ?_⟩
      · refine Ev.iload d_Mo_put_13 rfl ?_
        refine Ev.bipush d_Mo_put_15 rfl ?_
        refine Ev.iload_n d_Mo_put_17 rfl ?_
        refine Ev.imul d_Mo_put_18 ?_
        refine Ev.icmp_le (tgt := 91) d_Mo_put_19 rfl (by first | omega | (simp [mu]; done) | (simp [mu]; omega)) (by first | omega | (simp [mu]; done) | (simp [mu]; omega)) (fun hb19 => by exfalso; first | omega | simp at hb19 | contradiction) (fun hb19 => ?_)
        refine Ev.aload_n d_Mo_put_22 rfl ?_
        refine Ev.iload d_Mo_put_23 rfl ?_
        refine Ev.iconst d_Mo_put_25 ?_
        refine Ev.isub d_Mo_put_26 ?_
        refine Ev.iload_n d_Mo_put_27 rfl ?_
        refine Ev.iload_n d_Mo_put_28 rfl ?_
        refine Ev.iload d_Mo_put_29 rfl ?_
        refine Ev.callV d_Mo_put_31 mt_Mo_isAhead lk_Mo_113 in_Mo_isAhead se_Mo_isAhead rfl (Nat.le_of_ble_eq_true rfl) rfl (Nat.le_of_ble_eq_true rfl) (by decide) (is_57 hM) (by decide) rfl rfl (c_Mo_isAhead hM (k := k - 1) (by omega) (by omega) (by omega) (by omega) (by omega) (by omega) (by omega)) ?_
        rw [b01_t (by rw [e1, e2, e3]; exact hle.mpr hxs)]
        refine Ev.if_ne (tgt := 91) d_Mo_put_34 rfl (by omega) (fun hb34 => ?_) (fun hb34 => by exfalso; omega)
        exact tl_Mo_put hM hp (by omega)
      · rw [ins_mid (pre := (x :: t).reverse) (fun y hy2 => ?_) hsu, At_app]
        · refine ⟨At_eq (fun j hj1 hj2 => ?_) hA0, ⟨?_, ?_, ?_⟩, At_eq (fun j hj1 hj2 => ?_) (show At m (6 * p + ↑(x :: t).reverse.length + 1) suf by rw [show 6 * p + ↑(x :: t).reverse.length + 1 = k + 1 by simp; omega]; exact hB)⟩
          · simp only [List.length_reverse, List.length_cons] at hj2
            have : ¬ j = k := by omega
            simp [mu, this]
          · simp [mu, hk]
          · simp [mu, hk]
          · simp [mu, hk]
          · simp only [List.length_reverse, List.length_cons] at hj1
            have : ¬ j = k := by omega
            simp [mu, this]
        · simp only [List.reverse_cons, List.mem_append, List.mem_singleton] at hy2
          rcases hy2 with hy2 | rfl
          · have := hpw.2.2 y hy2 x (by simp)
            omega
          · exact hxs
      · refine ⟨fun a i h1 h2 h3 h4 => by simp [mu, h1, h2, h3, h4], fun q hq => by simp [mu, hq], fun a j ha hj => ?_⟩
        have : ¬ j = k := by omega
        rcases ha with rfl | rfl | rfl <;> simp [mu, this]
    · obtain ⟨m', g1, g2, g3, g4, g5, g6⟩ := lp_Mo_put hM hp hs t (x :: suf) (mu (mu (mu m 60 k (m 60 (k - 1))) 61 k (m 61 (k - 1))) 62 k (m 62 (k - 1))) (k - 1) (by omega) (At_eq (fun j hj1 hj2 => by
          simp only [List.length_reverse] at hj2
          have : ¬ j = k := by omega
          simp [mu, this]) hA1) ⟨⟨by rw [show k - 1 + 1 = k by omega]; simp [mu, e1], by rw [show k - 1 + 1 = k by omega]; simp [mu, e2], by rw [show k - 1 + 1 = k by omega]; simp [mu, e3]⟩, At_eq (fun j hj1 hj2 => by
          have : ¬ j = k := by omega
          simp [mu, this]) (show At m (k - 1 + 1 + 1) suf by rw [show k - 1 + 1 + 1 = k + 1 by omega]; exact hB)⟩ (fun y h => hy y (List.mem_cons_of_mem _ h)) (by simp only [List.length_cons]; omega) hpw.1 (fun y h => by
          rcases List.mem_cons.mp h with rfl | h
          · omega
          · exact hsu y h)
      refine ⟨m', ?_, ?_, ?_, fun a i h1 h2 h3 h4 => ?_, fun q hq => ?_, fun a j ha hj => ?_⟩
      · refine Ev.iload d_Mo_put_13 rfl ?_
        refine Ev.bipush d_Mo_put_15 rfl ?_
        refine Ev.iload_n d_Mo_put_17 rfl ?_
        refine Ev.imul d_Mo_put_18 ?_
        refine Ev.icmp_le (tgt := 91) d_Mo_put_19 rfl (by first | omega | (simp [mu]; done) | (simp [mu]; omega)) (by first | omega | (simp [mu]; done) | (simp [mu]; omega)) (fun hb19 => by exfalso; first | omega | simp at hb19 | contradiction) (fun hb19 => ?_)
        refine Ev.aload_n d_Mo_put_22 rfl ?_
        refine Ev.iload d_Mo_put_23 rfl ?_
        refine Ev.iconst d_Mo_put_25 ?_
        refine Ev.isub d_Mo_put_26 ?_
        refine Ev.iload_n d_Mo_put_27 rfl ?_
        refine Ev.iload_n d_Mo_put_28 rfl ?_
        refine Ev.iload d_Mo_put_29 rfl ?_
        refine Ev.callV d_Mo_put_31 mt_Mo_isAhead lk_Mo_113 in_Mo_isAhead se_Mo_isAhead rfl (Nat.le_of_ble_eq_true rfl) rfl (Nat.le_of_ble_eq_true rfl) (by decide) (is_57 hM) (by decide) rfl rfl (c_Mo_isAhead hM (k := k - 1) (by omega) (by omega) (by omega) (by omega) (by omega) (by omega) (by omega)) ?_
        rw [b01_f (by rw [e1, e2, e3]; exact fun z => hxs (hle.mp z))]
        refine Ev.if_ne (tgt := 91) d_Mo_put_34 rfl (by omega) (fun hb34 => by exfalso; omega) (fun hb34 => ?_)
        refine Ev.aload_n d_Mo_put_37 rfl ?_
        refine Ev.gr 3 d_Mo_put_38 lf_Mo_16 rfl rfl (is_57 hM) (by decide) (rf_57_3 hM) ?_
        refine Ev.iload d_Mo_put_41 rfl ?_
        refine Ev.aload_n d_Mo_put_43 rfl ?_
        refine Ev.gr 3 d_Mo_put_44 lf_Mo_16 rfl rfl (is_57 hM) (by decide) (rf_57_3 hM) ?_
        refine Ev.iload d_Mo_put_47 rfl ?_
        refine Ev.iconst d_Mo_put_49 ?_
        refine Ev.isub d_Mo_put_50 ?_
        refine Ev.iaload d_Mo_put_51 (is_60 hM) (by first | omega | (simp [mu]; done) | (simp [mu]; omega)) ?_
        refine Ev.iastore d_Mo_put_52 (is_60 hM) (by decide) (by first | omega | (simp [mu]; done) | (simp [mu]; omega)) ?_
        refine Ev.aload_n d_Mo_put_53 rfl ?_
        refine Ev.gr 4 d_Mo_put_54 lf_Mo_19 rfl rfl (is_57 hM) (by decide) (rf_57_4 hM) ?_
        refine Ev.iload d_Mo_put_57 rfl ?_
        refine Ev.aload_n d_Mo_put_59 rfl ?_
        refine Ev.gr 4 d_Mo_put_60 lf_Mo_19 rfl rfl (is_57 hM) (by decide) (rf_57_4 hM) ?_
        refine Ev.iload d_Mo_put_63 rfl ?_
        refine Ev.iconst d_Mo_put_65 ?_
        refine Ev.isub d_Mo_put_66 ?_
        refine Ev.iaload d_Mo_put_67 (is_61 hM) (by first | omega | (simp [mu]; done) | (simp [mu]; omega)) ?_
        refine Ev.iastore d_Mo_put_68 (is_61 hM) (by decide) (by first | omega | (simp [mu]; done) | (simp [mu]; omega)) ?_
        refine Ev.aload_n d_Mo_put_69 rfl ?_
        refine Ev.gr 5 d_Mo_put_70 lf_Mo_22 rfl rfl (is_57 hM) (by decide) (rf_57_5 hM) ?_
        refine Ev.iload d_Mo_put_73 rfl ?_
        refine Ev.aload_n d_Mo_put_75 rfl ?_
        refine Ev.gr 5 d_Mo_put_76 lf_Mo_22 rfl rfl (is_57 hM) (by decide) (rf_57_5 hM) ?_
        refine Ev.iload d_Mo_put_79 rfl ?_
        refine Ev.iconst d_Mo_put_81 ?_
        refine Ev.isub d_Mo_put_82 ?_
        refine Ev.iaload d_Mo_put_83 (is_62 hM) (by first | omega | (simp [mu]; done) | (simp [mu]; omega)) ?_
        refine Ev.iastore d_Mo_put_84 (is_62 hM) (by decide) (by first | omega | (simp [mu]; done) | (simp [mu]; omega)) ?_
        refine Ev.iinc_5 d_Mo_put_85 rfl ?_
        refine Ev.goto (tgt := 13) d_Mo_put_88 rfl ?_
        rw [show k + -1 = k - 1 by omega]
        have z1 : mu m 60 k (m 60 (k - 1)) 61 (k - 1) = m 61 (k - 1) := mu_a (by decide)
        have z2 : mu (mu m 60 k (m 60 (k - 1))) 61 k (m 61 (k - 1)) 62 (k - 1) = m 62 (k - 1) := by rw [mu_a (by decide), mu_a (by decide)]
        rw [z1, z2]
        exact g1
      · simp only [List.reverse_cons, List.append_assoc, List.singleton_append]
        exact g2
      · rw [g3, mu_a (by decide), mu_a (by decide), mu_a (by decide)]
      · rw [g4 a i h1 h2 h3 h4]; simp [mu, h2, h3, h4]
      · rw [g5 q hq]; simp [mu]
      · rw [g6 a j ha hj]
        have : ¬ j = k := by omega
        rcases ha with rfl | rfl | rfl <;> simp [mu, this]
theorem c_Mo_put (hM : MoS σ) {p d i j w : Int} {l : List Int} (hp : 0 ≤ p ∧ p ≤ 8) (hn : m 59 p = l.length) (hA : At m (6 * p) l) (hK : PK d l) (h5 : l.length < 6) (h : okS d i j w) : ∃ m', Call 2 m_Mo_put [vr 57, vi p, vi i, vi j, vi w] σ m none σ m' ∧ At m' (6 * p) (ins (spot i j w) l) ∧ m' 59 p = l.length + 1 ∧ FrP p m m' := by
  obtain ⟨e1, e2, e3, e4, e5⟩ := spot_ok hK.1.2 h
  obtain ⟨m', g1, g2, g3, g4⟩ := lp_Mo_put hM hp ⟨e4, e5⟩ l.reverse [] m (6 * p + l.length) (by simp) (by simpa using hA) trivial (fun y hy => by have := hK.2.2.2 y (by simpa using hy); omega) (by simp; omega) (by simpa using hK.2.2.1) (by simp)
  rw [e1, e2, e3] at g1
  simp only [List.reverse_reverse, List.append_nil] at g2
  refine ⟨m', ?_, g2, by rw [g3, hn], g4⟩
  show Ev 2 m_Mo_put 0 [some (vr 57), some (vi p), some (vi i), some (vi j), some (vi w), none] [] σ m _ σ _
  refine Ev.bipush d_Mo_put_0 rfl ?_
  refine Ev.iload_n d_Mo_put_2 rfl ?_
  refine Ev.imul d_Mo_put_3 ?_
  refine Ev.aload_n d_Mo_put_4 rfl ?_
  refine Ev.gr 2 d_Mo_put_5 lf_Mo_13 rfl rfl (is_57 hM) (by decide) (rf_57_2 hM) ?_
  refine Ev.iload_n d_Mo_put_8 rfl ?_
  refine Ev.iaload d_Mo_put_9 (is_59 hM) (by first | omega | (simp [mu]; done) | (simp [mu]; omega)) ?_
  refine Ev.iadd d_Mo_put_10 ?_
  refine Ev.istore_5 d_Mo_put_11 rfl ?_
  rw [hn]
  exact g1
end
