section
variable {σ : Sg} {m : Mm}
theorem FrP.FrM {p : Int} {m m' : Mm} (h : FrP p m m') : FrM m m' := fun a i h1 h2 => h.1 a i (by omega) (by omega) (by omega) (by omega)
def sp_stair (S : PS) (p i j w : Int) : Int := if (0 ≤ p ∧ p < S.1) ∧ (0 ≤ i ∧ i < j ∧ j < S.2.1 p ∧ 1 ≤ w ∧ w ≤ 4) then (if (S.2.2 p).length = 6 then -3 else (S.2.2 p).length + 1) else -1
def st_stair (S : PS) (p i j w : Int) : PS := if ((0 ≤ p ∧ p < S.1) ∧ (0 ≤ i ∧ i < j ∧ j < S.2.1 p ∧ 1 ≤ w ∧ w ≤ 4)) ∧ ¬ (S.2.2 p).length = 6 then (S.1, up S.2.1 p (S.2.1 p), up S.2.2 p (ins (spot i j w) (S.2.2 p))) else S
theorem c_Mo_stair (hM : MoS σ) {S : PS} (hS : MS m S) {p i j w : Int} (h1 : -2147483648 ≤ p ∧ p ≤ 2147483647) (h2 : -2147483648 ≤ i ∧ i ≤ 2147483647) (h3 : -2147483648 ≤ j ∧ j ≤ 2147483647) (h4 : -2147483648 ≤ w ∧ w ≤ 2147483647) : ∃ m', Call 3 m_Mo_stair [vr 57, vi p, vi i, vi j, vi w] σ m (some (vi (sp_stair S p i j w))) σ m' ∧ MS m' (st_stair S p i j w) ∧ FrM m m' := by
  have hS1 := hS.1
  have hS2 := hS.2.1
  by_cases hp : 0 ≤ p ∧ p < S.1
  · obtain ⟨⟨g1, g2, g3⟩, g4⟩ := hS.2.2 p hp.1 hp.2
    have g40 := g4
    obtain ⟨⟨k1, k2⟩, k3, k4, k5⟩ := g40
    by_cases hk : 0 ≤ i ∧ i < j ∧ j < S.2.1 p ∧ 1 ≤ w ∧ w ≤ 4
    · by_cases h6 : (S.2.2 p).length = 6
      · refine ⟨m, ?_, by rw [st_stair, if_neg (fun q => q.2 h6)]; exact hS, FrM.rf⟩
        show Ev 3 m_Mo_stair 0 [some (vr 57), some (vi p), some (vi i), some (vi j), some (vi w)] [] σ m _ σ _
        refine Ev.aload_n d_Mo_stair_0 rfl ?_
        refine Ev.iload_n d_Mo_stair_1 rfl ?_
        refine Ev.callV d_Mo_stair_2 mt_Mo_is lk_Mo_117 in_Mo_is se_Mo_is rfl (Nat.le_of_ble_eq_true rfl) rfl (Nat.le_of_ble_eq_true rfl) (by decide) (is_57 hM) (by decide) rfl rfl (c_Mo_is hM (by omega) (by omega)) ?_
        refine Ev.if_eq (tgt := 24) d_Mo_stair_5 rfl b01_b (fun hb5 => by exfalso; (first | rw [b01_ne] at hb5 | rw [b01_eq] at hb5); omega) (fun hb5 => ?_)
        rw [b01_ne] at hb5
        refine Ev.aload_n d_Mo_stair_8 rfl ?_
        refine Ev.gr 1 d_Mo_stair_9 lf_Mo_7 rfl rfl (is_57 hM) (by decide) (rf_57_1 hM) ?_
        refine Ev.iload_n d_Mo_stair_12 rfl ?_
        refine Ev.iaload d_Mo_stair_13 (is_58 hM) (by first | omega | (simp [mu]; done) | (simp [mu]; omega)) ?_
        refine Ev.iload_n d_Mo_stair_14 rfl ?_
        refine Ev.iload_n d_Mo_stair_15 rfl ?_
        refine Ev.iload d_Mo_stair_16 rfl ?_
        refine Ev.callS d_Mo_stair_18 mt_Mo_isStair lk_Mo_121 st_Mo_isStair rfl (Nat.le_of_ble_eq_true rfl) rfl (Nat.le_of_ble_eq_true rfl) (by decide) rfl (c_Mo_isStair (by omega) (by omega) (by omega) (by omega)) ?_
        refine Ev.if_ne (tgt := 26) d_Mo_stair_21 rfl b01_b (fun hb21 => ?_) (fun hb21 => by exfalso; (first | rw [b01_ne] at hb21 | rw [b01_eq] at hb21); omega)
        rw [b01_ne] at hb21
        refine Ev.aload_n d_Mo_stair_26 rfl ?_
        refine Ev.gr 2 d_Mo_stair_27 lf_Mo_13 rfl rfl (is_57 hM) (by decide) (rf_57_2 hM) ?_
        refine Ev.iload_n d_Mo_stair_30 rfl ?_
        refine Ev.iaload d_Mo_stair_31 (is_59 hM) (by first | omega | (simp [mu]; done) | (simp [mu]; omega)) ?_
        refine Ev.bipush d_Mo_stair_32 rfl ?_
        refine Ev.icmp_ne (tgt := 40) d_Mo_stair_34 rfl (by first | omega | (simp [mu]; done) | (simp [mu]; omega)) (by first | omega | (simp [mu]; done) | (simp [mu]; omega)) (fun hb34 => by exfalso; first | omega | simp at hb34 | contradiction) (fun hb34 => ?_)
        refine Ev.bipush d_Mo_stair_37 rfl ?_
        exact Ev.to (Ev.ireturn d_Mo_stair_39 rfl) (ri (by rw [sp_stair, if_pos ⟨hp, hk⟩, if_pos h6])) rfl
      · obtain ⟨m', q1, q2, q3, q4⟩ := c_Mo_put hM (p := p) (by omega) g2 g3 g4 (by omega) hk
        refine ⟨m', ?_, ?_, q4.FrM⟩
        · show Ev 3 m_Mo_stair 0 [some (vr 57), some (vi p), some (vi i), some (vi j), some (vi w)] [] σ m _ σ _
          refine Ev.aload_n d_Mo_stair_0 rfl ?_
          refine Ev.iload_n d_Mo_stair_1 rfl ?_
          refine Ev.callV d_Mo_stair_2 mt_Mo_is lk_Mo_117 in_Mo_is se_Mo_is rfl (Nat.le_of_ble_eq_true rfl) rfl (Nat.le_of_ble_eq_true rfl) (by decide) (is_57 hM) (by decide) rfl rfl (c_Mo_is hM (by omega) (by omega)) ?_
          refine Ev.if_eq (tgt := 24) d_Mo_stair_5 rfl b01_b (fun hb5 => by exfalso; (first | rw [b01_ne] at hb5 | rw [b01_eq] at hb5); omega) (fun hb5 => ?_)
          rw [b01_ne] at hb5
          refine Ev.aload_n d_Mo_stair_8 rfl ?_
          refine Ev.gr 1 d_Mo_stair_9 lf_Mo_7 rfl rfl (is_57 hM) (by decide) (rf_57_1 hM) ?_
          refine Ev.iload_n d_Mo_stair_12 rfl ?_
          refine Ev.iaload d_Mo_stair_13 (is_58 hM) (by first | omega | (simp [mu]; done) | (simp [mu]; omega)) ?_
          refine Ev.iload_n d_Mo_stair_14 rfl ?_
          refine Ev.iload_n d_Mo_stair_15 rfl ?_
          refine Ev.iload d_Mo_stair_16 rfl ?_
          refine Ev.callS d_Mo_stair_18 mt_Mo_isStair lk_Mo_121 st_Mo_isStair rfl (Nat.le_of_ble_eq_true rfl) rfl (Nat.le_of_ble_eq_true rfl) (by decide) rfl (c_Mo_isStair (by omega) (by omega) (by omega) (by omega)) ?_
          refine Ev.if_ne (tgt := 26) d_Mo_stair_21 rfl b01_b (fun hb21 => ?_) (fun hb21 => by exfalso; (first | rw [b01_ne] at hb21 | rw [b01_eq] at hb21); omega)
          rw [b01_ne] at hb21
          refine Ev.aload_n d_Mo_stair_26 rfl ?_
          refine Ev.gr 2 d_Mo_stair_27 lf_Mo_13 rfl rfl (is_57 hM) (by decide) (rf_57_2 hM) ?_
          refine Ev.iload_n d_Mo_stair_30 rfl ?_
          refine Ev.iaload d_Mo_stair_31 (is_59 hM) (by first | omega | (simp [mu]; done) | (simp [mu]; omega)) ?_
          refine Ev.bipush d_Mo_stair_32 rfl ?_
          refine Ev.icmp_ne (tgt := 40) d_Mo_stair_34 rfl (by first | omega | (simp [mu]; done) | (simp [mu]; omega)) (by first | omega | (simp [mu]; done) | (simp [mu]; omega)) (fun hb34 => ?_) (fun hb34 => by exfalso; first | omega | simp at hb34 | contradiction)
          refine Ev.aload_n d_Mo_stair_40 rfl ?_
          refine Ev.iload_n d_Mo_stair_41 rfl ?_
          refine Ev.iload_n d_Mo_stair_42 rfl ?_
          refine Ev.iload_n d_Mo_stair_43 rfl ?_
          refine Ev.iload d_Mo_stair_44 rfl ?_
          refine Ev.callVv d_Mo_stair_46 mt_Mo_put lk_Mo_124 in_Mo_put se_Mo_put rfl (Nat.le_of_ble_eq_true rfl) rfl (Nat.le_of_ble_eq_true rfl) (by decide) (is_57 hM) (by decide) rfl rfl q1 ?_
          refine Ev.aload_n d_Mo_stair_49 rfl ?_
          refine Ev.gr 2 d_Mo_stair_50 lf_Mo_13 rfl rfl (is_57 hM) (by decide) (rf_57_2 hM) ?_
          refine Ev.iload_n d_Mo_stair_53 rfl ?_
          refine Ev.iaload d_Mo_stair_54 (is_59 hM) (by first | omega | (simp [mu]; done) | (simp [mu]; omega)) ?_
          exact Ev.to (Ev.ireturn d_Mo_stair_55 rfl) (ri (by rw [sp_stair, if_pos ⟨hp, hk⟩, if_neg h6, q3])) rfl
        · rw [st_stair, if_pos ⟨⟨hp, hk⟩, h6⟩]
          refine MS_set hS hp ⟨?_, ?_, q2⟩ (ins_PK g4 hk (by omega)) ?_ (fun q hq => ⟨?_, ?_⟩) (fun a j ha hj => q4.2.2 a j ha hj)
          · rw [q4.1 58 p (by decide) (by decide) (by decide) (by decide)]; exact g1
          · rw [q3, ins_len]; omega
          · exact q4.1 57 0 (by decide) (by decide) (by decide) (by decide)
          · exact q4.1 58 q (by decide) (by decide) (by decide) (by decide)
          · exact q4.2.1 q hq
    · refine ⟨m, ?_, by rw [st_stair, if_neg (fun q => hk q.1.2)]; exact hS, FrM.rf⟩
      show Ev 3 m_Mo_stair 0 [some (vr 57), some (vi p), some (vi i), some (vi j), some (vi w)] [] σ m _ σ _
      refine Ev.aload_n d_Mo_stair_0 rfl ?_
      refine Ev.iload_n d_Mo_stair_1 rfl ?_
      refine Ev.callV d_Mo_stair_2 mt_Mo_is lk_Mo_117 in_Mo_is se_Mo_is rfl (Nat.le_of_ble_eq_true rfl) rfl (Nat.le_of_ble_eq_true rfl) (by decide) (is_57 hM) (by decide) rfl rfl (c_Mo_is hM (by omega) (by omega)) ?_
      refine Ev.if_eq (tgt := 24) d_Mo_stair_5 rfl b01_b (fun hb5 => by exfalso; (first | rw [b01_ne] at hb5 | rw [b01_eq] at hb5); omega) (fun hb5 => ?_)
      rw [b01_ne] at hb5
      refine Ev.aload_n d_Mo_stair_8 rfl ?_
      refine Ev.gr 1 d_Mo_stair_9 lf_Mo_7 rfl rfl (is_57 hM) (by decide) (rf_57_1 hM) ?_
      refine Ev.iload_n d_Mo_stair_12 rfl ?_
      refine Ev.iaload d_Mo_stair_13 (is_58 hM) (by first | omega | (simp [mu]; done) | (simp [mu]; omega)) ?_
      refine Ev.iload_n d_Mo_stair_14 rfl ?_
      refine Ev.iload_n d_Mo_stair_15 rfl ?_
      refine Ev.iload d_Mo_stair_16 rfl ?_
      refine Ev.callS d_Mo_stair_18 mt_Mo_isStair lk_Mo_121 st_Mo_isStair rfl (Nat.le_of_ble_eq_true rfl) rfl (Nat.le_of_ble_eq_true rfl) (by decide) rfl (c_Mo_isStair (by omega) (by omega) (by omega) (by omega)) ?_
      refine Ev.if_ne (tgt := 26) d_Mo_stair_21 rfl b01_b (fun hb21 => by exfalso; (first | rw [b01_ne] at hb21 | rw [b01_eq] at hb21); omega) (fun hb21 => ?_)
      rw [b01_eq] at hb21
      refine Ev.iconst d_Mo_stair_24 ?_
      exact Ev.to (Ev.ireturn d_Mo_stair_25 rfl) (ri (by rw [sp_stair, if_neg (fun q => hk q.2)])) rfl
  · refine ⟨m, ?_, by rw [st_stair, if_neg (fun q => hp q.1.1)]; exact hS, FrM.rf⟩
    show Ev 3 m_Mo_stair 0 [some (vr 57), some (vi p), some (vi i), some (vi j), some (vi w)] [] σ m _ σ _
    refine Ev.aload_n d_Mo_stair_0 rfl ?_
    refine Ev.iload_n d_Mo_stair_1 rfl ?_
    refine Ev.callV d_Mo_stair_2 mt_Mo_is lk_Mo_117 in_Mo_is se_Mo_is rfl (Nat.le_of_ble_eq_true rfl) rfl (Nat.le_of_ble_eq_true rfl) (by decide) (is_57 hM) (by decide) rfl rfl (c_Mo_is hM (by omega) (by omega)) ?_
    refine Ev.if_eq (tgt := 24) d_Mo_stair_5 rfl b01_b (fun hb5 => ?_) (fun hb5 => by exfalso; (first | rw [b01_ne] at hb5 | rw [b01_eq] at hb5); omega)
    rw [b01_eq] at hb5
    refine Ev.iconst d_Mo_stair_24 ?_
    exact Ev.to (Ev.ireturn d_Mo_stair_25 rfl) (ri (by rw [sp_stair, if_neg (fun q => hp q.1)])) rfl
theorem lp1_Mo_cut (hM : MoS σ) {p s en : Int} {r : Option AV} {m' : Mm} {x7 : Option AV} (hp : 0 ≤ p ∧ p ≤ 7) (hs : 0 ≤ s ∧ s < 24) (hen : en ≤ 54) : ∀ (t : List Int) (k : Int), At m k t → 0 ≤ k → k + t.length = en → (∀ y ∈ t, 0 ≤ y ∧ y < 24) → (¬ s ∈ t → Ev 3 m_Mo_cut 92 [some (vr 57), some (vi p), some (vi (fS s)), some (vi (tS s)), some (vi (wS s)), some (vi en), some (vi en), x7] [] σ m r σ m') → (∀ pre suf : List Int, t = pre ++ s :: suf → ¬ s ∈ pre → Ev 3 m_Mo_cut 92 [some (vr 57), some (vi p), some (vi (fS s)), some (vi (tS s)), some (vi (wS s)), some (vi en), some (vi (k + pre.length)), x7] [] σ m r σ m') → Ev 3 m_Mo_cut 45 [some (vr 57), some (vi p), some (vi (fS s)), some (vi (tS s)), some (vi (wS s)), some (vi en), some (vi k), x7] [] σ m r σ m'
  | [], k, hA, h0, he, hy, c1, c2 => by
    simp only [List.length_nil] at he
    have e : en = k := by omega
    refine Ev.iload d_Mo_cut_45 rfl ?_
    refine Ev.iload d_Mo_cut_47 rfl ?_
    refine Ev.icmp_ge (tgt := 92) d_Mo_cut_49 rfl (by first | omega | (simp [mu]; done) | (simp [mu]; omega)) (by first | omega | (simp [mu]; done) | (simp [mu]; omega)) (fun hb49 => ?_) (fun hb49 => by exfalso; first | omega | simp at hb49 | contradiction)
    subst e
    exact c1 (by simp)
  | y :: t, k, hA, h0, he, hy, c1, c2 => by
    obtain ⟨⟨e1, e2, e3⟩, hA2⟩ := hA
    have b1 := fS_b s
    have b2 := tS_b s
    have b3 := wS_b s
    have d1 := fS_b y
    have d2 := tS_b y
    have d3 := wS_b y
    simp only [List.length_cons] at he
    have hy1 := hy y List.mem_cons_self
    have ih : ¬ y = s → Ev 3 m_Mo_cut 45 [some (vr 57), some (vi p), some (vi (fS s)), some (vi (tS s)), some (vi (wS s)), some (vi en), some (vi (k + 1)), x7] [] σ m r σ m' := fun hne => lp1_Mo_cut hM hp hs hen t (k + 1) hA2 (by omega) (by omega) (fun z hz => hy z (List.mem_cons_of_mem _ hz)) (fun h => c1 (by simp only [List.mem_cons]; exact fun z => z.elim (fun z => hne z.symm) h)) (fun pre suf h1 h2 => by
      have := c2 (y :: pre) suf (by rw [h1]; rfl) (by simp only [List.mem_cons]; exact fun z => z.elim (fun z => hne z.symm) h2)
      rw [show k + ((y :: pre).length : Int) = k + 1 + pre.length by simp only [List.length_cons]; omega] at this
      exact this)
    refine Ev.iload d_Mo_cut_45 rfl ?_
    refine Ev.iload d_Mo_cut_47 rfl ?_
    refine Ev.icmp_ge (tgt := 92) d_Mo_cut_49 rfl (by first | omega | (simp [mu]; done) | (simp [mu]; omega)) (by first | omega | (simp [mu]; done) | (simp [mu]; omega)) (fun hb49 => by exfalso; first | omega | simp at hb49 | contradiction) (fun hb49 => ?_)
    refine Ev.aload_n d_Mo_cut_52 rfl ?_
    refine Ev.gr 3 d_Mo_cut_53 lf_Mo_16 rfl rfl (is_57 hM) (by decide) (rf_57_3 hM) ?_
    refine Ev.iload d_Mo_cut_56 rfl ?_
    refine Ev.iaload d_Mo_cut_58 (is_60 hM) (by first | omega | (simp [mu]; done) | (simp [mu]; omega)) ?_
    refine Ev.iload_n d_Mo_cut_59 rfl ?_
    refine Ev.icmp_ne (tgt := 86) d_Mo_cut_60 rfl (by first | omega | (simp [mu]; done) | (simp [mu]; omega)) (by first | omega | (simp [mu]; done) | (simp [mu]; omega)) (fun hb60 => ?_) (fun hb60 => ?_)
    · refine Ev.iinc_6 d_Mo_cut_86 rfl ?_
      refine Ev.goto (tgt := 45) d_Mo_cut_89 rfl ?_
      exact ih (fun z => by subst z; omega)
    · refine Ev.aload_n d_Mo_cut_63 rfl ?_
      refine Ev.gr 4 d_Mo_cut_64 lf_Mo_19 rfl rfl (is_57 hM) (by decide) (rf_57_4 hM) ?_
      refine Ev.iload d_Mo_cut_67 rfl ?_
      refine Ev.iaload d_Mo_cut_69 (is_61 hM) (by first | omega | (simp [mu]; done) | (simp [mu]; omega)) ?_
      refine Ev.iload_n d_Mo_cut_70 rfl ?_
      refine Ev.icmp_ne (tgt := 86) d_Mo_cut_71 rfl (by first | omega | (simp [mu]; done) | (simp [mu]; omega)) (by first | omega | (simp [mu]; done) | (simp [mu]; omega)) (fun hb71 => ?_) (fun hb71 => ?_)
      · refine Ev.iinc_6 d_Mo_cut_86 rfl ?_
        refine Ev.goto (tgt := 45) d_Mo_cut_89 rfl ?_
        exact ih (fun z => by subst z; omega)
      · refine Ev.aload_n d_Mo_cut_74 rfl ?_
        refine Ev.gr 5 d_Mo_cut_75 lf_Mo_22 rfl rfl (is_57 hM) (by decide) (rf_57_5 hM) ?_
        refine Ev.iload d_Mo_cut_78 rfl ?_
        refine Ev.iaload d_Mo_cut_80 (is_62 hM) (by first | omega | (simp [mu]; done) | (simp [mu]; omega)) ?_
        refine Ev.iload d_Mo_cut_81 rfl ?_
        refine Ev.icmp_eq (tgt := 92) d_Mo_cut_83 rfl (by first | omega | (simp [mu]; done) | (simp [mu]; omega)) (by first | omega | (simp [mu]; done) | (simp [mu]; omega)) (fun hb83 => ?_) (fun hb83 => ?_)
        · have z : y = s := spot_inj hy1 hs (by omega) (by omega) (by omega)
          subst z
          have := c2 [] t rfl (by simp)
          simp only [List.length_nil, Int.natCast_zero, Int.add_zero] at this
          exact this
        · refine Ev.iinc_6 d_Mo_cut_86 rfl ?_
          refine Ev.goto (tgt := 45) d_Mo_cut_89 rfl ?_
          exact ih (fun z => by subst z; omega)
theorem lp2_Mo_cut (hM : MoS σ) {p en n : Int} {x2 x3 x4 : Option AV} {x6 : Int} (hp : 0 ≤ p ∧ p ≤ 7) (hen : en ≤ 54) : ∀ (t : List Int) (q : Int) (m : Mm), m 59 p = n → At m q t → 1 ≤ q → q + t.length = en → ∃ m', Ev 3 m_Mo_cut 108 [some (vr 57), some (vi p), x2, x3, x4, some (vi en), some (vi x6), some (vi q)] [] σ m (some (vi (n - 1))) σ m' ∧ At m' (q - 1) t ∧ m' 59 p = n - 1 ∧ (∀ a i : Int, a ≠ 59 → a ≠ 60 → a ≠ 61 → a ≠ 62 → m' a i = m a i) ∧ (∀ z : Int, z ≠ p → m' 59 z = m 59 z) ∧ ∀ a j : Int, a = 60 ∨ a = 61 ∨ a = 62 → (j < q - 1 ∨ en ≤ j) → m' a j = m a j
  | [], q, m, hn, hA, h1, he => by
    simp only [List.length_nil] at he
    refine ⟨mu m 59 p (n - 1), ?_, trivial, mu_s, fun a i g1 g2 g3 g4 => mu_a g1, fun z hz => mu_n (Or.inr hz), fun a j ha hj => mu_a (by omega)⟩
    refine Ev.iload d_Mo_cut_108 rfl ?_
    refine Ev.iload d_Mo_cut_110 rfl ?_
    refine Ev.icmp_ge (tgt := 169) d_Mo_cut_112 rfl (by first | omega | (simp [mu]; done) | (simp [mu]; omega)) (by first | omega | (simp [mu]; done) | (simp [mu]; omega)) (fun hb112 => ?_) (fun hb112 => by exfalso; first | omega | simp at hb112 | contradiction)
    refine Ev.aload_n d_Mo_cut_169 rfl ?_
    refine Ev.gr 2 d_Mo_cut_170 lf_Mo_13 rfl rfl (is_57 hM) (by decide) (rf_57_2 hM) ?_
    refine Ev.iload_n d_Mo_cut_173 rfl ?_
    refine Ev.dup2 d_Mo_cut_174 rfl rfl ?_
    refine Ev.iaload d_Mo_cut_175 (is_59 hM) (by first | omega | (simp [mu]; done) | (simp [mu]; omega)) ?_
    refine Ev.iconst d_Mo_cut_176 ?_
    refine Ev.isub d_Mo_cut_177 ?_
    refine Ev.iastore d_Mo_cut_178 (is_59 hM) (by decide) (by first | omega | (simp [mu]; done) | (simp [mu]; omega)) ?_
    refine Ev.aload_n d_Mo_cut_179 rfl ?_
    refine Ev.gr 2 d_Mo_cut_180 lf_Mo_13 rfl rfl (is_57 hM) (by decide) (rf_57_2 hM) ?_
    refine Ev.iload_n d_Mo_cut_183 rfl ?_
    refine Ev.iaload d_Mo_cut_184 (is_59 hM) (by first | omega | (simp [mu]; done) | (simp [mu]; omega)) ?_
    exact Ev.to (Ev.ireturn d_Mo_cut_185 rfl) (ri (by rw [mu_s, hn])) (by rw [hn])
  | x :: t, q, m, hn, hA, h1, he => by
    obtain ⟨⟨e1, e2, e3⟩, hA2⟩ := hA
    simp only [List.length_cons] at he
    obtain ⟨m', g1, g2, g3, g4, g5, g6⟩ := lp2_Mo_cut hM (n := n) (x2 := x2) (x3 := x3) (x4 := x4) (x6 := x6) hp hen t (q + 1) (mu (mu (mu m 60 (q - 1) (m 60 q)) 61 (q - 1) (m 61 q)) 62 (q - 1) (m 62 q)) (by simp [mu, hn]) (At_eq (fun j hj1 hj2 => by
      have : ¬ j = q - 1 := by omega
      simp [mu, this]) hA2) (by omega) (by omega)
    refine ⟨m', ?_, ⟨⟨?_, ?_, ?_⟩, by rw [show q - 1 + 1 = q + 1 - 1 by omega]; exact g2⟩, g3, fun a i z1 z2 z3 z4 => ?_, fun z hz => ?_, fun a j ha hj => ?_⟩
    · refine Ev.iload d_Mo_cut_108 rfl ?_
      refine Ev.iload d_Mo_cut_110 rfl ?_
      refine Ev.icmp_ge (tgt := 169) d_Mo_cut_112 rfl (by first | omega | (simp [mu]; done) | (simp [mu]; omega)) (by first | omega | (simp [mu]; done) | (simp [mu]; omega)) (fun hb112 => by exfalso; first | omega | simp at hb112 | contradiction) (fun hb112 => ?_)
      refine Ev.aload_n d_Mo_cut_115 rfl ?_
      refine Ev.gr 3 d_Mo_cut_116 lf_Mo_16 rfl rfl (is_57 hM) (by decide) (rf_57_3 hM) ?_
      refine Ev.iload d_Mo_cut_119 rfl ?_
      refine Ev.iconst d_Mo_cut_121 ?_
      refine Ev.isub d_Mo_cut_122 ?_
      refine Ev.aload_n d_Mo_cut_123 rfl ?_
      refine Ev.gr 3 d_Mo_cut_124 lf_Mo_16 rfl rfl (is_57 hM) (by decide) (rf_57_3 hM) ?_
      refine Ev.iload d_Mo_cut_127 rfl ?_
      refine Ev.iaload d_Mo_cut_129 (is_60 hM) (by first | omega | (simp [mu]; done) | (simp [mu]; omega)) ?_
      refine Ev.iastore d_Mo_cut_130 (is_60 hM) (by decide) (by first | omega | (simp [mu]; done) | (simp [mu]; omega)) ?_
      refine Ev.aload_n d_Mo_cut_131 rfl ?_
      refine Ev.gr 4 d_Mo_cut_132 lf_Mo_19 rfl rfl (is_57 hM) (by decide) (rf_57_4 hM) ?_
      refine Ev.iload d_Mo_cut_135 rfl ?_
      refine Ev.iconst d_Mo_cut_137 ?_
      refine Ev.isub d_Mo_cut_138 ?_
      refine Ev.aload_n d_Mo_cut_139 rfl ?_
      refine Ev.gr 4 d_Mo_cut_140 lf_Mo_19 rfl rfl (is_57 hM) (by decide) (rf_57_4 hM) ?_
      refine Ev.iload d_Mo_cut_143 rfl ?_
      refine Ev.iaload d_Mo_cut_145 (is_61 hM) (by first | omega | (simp [mu]; done) | (simp [mu]; omega)) ?_
      refine Ev.iastore d_Mo_cut_146 (is_61 hM) (by decide) (by first | omega | (simp [mu]; done) | (simp [mu]; omega)) ?_
      refine Ev.aload_n d_Mo_cut_147 rfl ?_
      refine Ev.gr 5 d_Mo_cut_148 lf_Mo_22 rfl rfl (is_57 hM) (by decide) (rf_57_5 hM) ?_
      refine Ev.iload d_Mo_cut_151 rfl ?_
      refine Ev.iconst d_Mo_cut_153 ?_
      refine Ev.isub d_Mo_cut_154 ?_
      refine Ev.aload_n d_Mo_cut_155 rfl ?_
      refine Ev.gr 5 d_Mo_cut_156 lf_Mo_22 rfl rfl (is_57 hM) (by decide) (rf_57_5 hM) ?_
      refine Ev.iload d_Mo_cut_159 rfl ?_
      refine Ev.iaload d_Mo_cut_161 (is_62 hM) (by first | omega | (simp [mu]; done) | (simp [mu]; omega)) ?_
      refine Ev.iastore d_Mo_cut_162 (is_62 hM) (by decide) (by first | omega | (simp [mu]; done) | (simp [mu]; omega)) ?_
      refine Ev.iinc_7 d_Mo_cut_163 rfl ?_
      refine Ev.goto (tgt := 108) d_Mo_cut_166 rfl ?_
      have z1 : mu m 60 (q - 1) (m 60 q) 61 q = m 61 q := mu_a (by decide)
      have z2 : mu (mu m 60 (q - 1) (m 60 q)) 61 (q - 1) (m 61 q) 62 q = m 62 q := by rw [mu_a (by decide), mu_a (by decide)]
      rw [z1, z2]
      exact g1
    · rw [g6 60 (q - 1) (by omega) (by omega)]; simp [mu, e1]
    · rw [g6 61 (q - 1) (by omega) (by omega)]; simp [mu, e2]
    · rw [g6 62 (q - 1) (by omega) (by omega)]; simp [mu, e3]
    · rw [g4 a i z1 z2 z3 z4]; simp [mu, z2, z3, z4]
    · rw [g5 z hz]; simp [mu]
    · rw [g6 a j ha (by omega)]
      have : ¬ j = q - 1 := by omega
      rcases ha with rfl | rfl | rfl <;> simp [mu, this]
theorem del_mid {s : Int} : ∀ {pre suf : List Int}, ¬ s ∈ pre → del s (pre ++ s :: suf) = pre ++ suf
  | [], suf, _ => by simp [del]
  | x :: t, suf, h => by
    simp only [List.mem_cons, not_or] at h
    simp only [List.cons_append, del]
    rw [if_neg (fun z => h.1 z.symm), del_mid h.2]
def sp_cut (S : PS) (p i j w : Int) : Int := if (0 ≤ p ∧ p < S.1) ∧ (0 ≤ i ∧ i < j ∧ j < S.2.1 p ∧ 1 ≤ w ∧ w ≤ 4) then (if spot i j w ∈ S.2.2 p then (S.2.2 p).length - 1 else -2) else -1
def st_cut (S : PS) (p i j w : Int) : PS := if ((0 ≤ p ∧ p < S.1) ∧ (0 ≤ i ∧ i < j ∧ j < S.2.1 p ∧ 1 ≤ w ∧ w ≤ 4)) ∧ spot i j w ∈ S.2.2 p then (S.1, up S.2.1 p (S.2.1 p), up S.2.2 p (del (spot i j w) (S.2.2 p))) else S

theorem mid_inj {s : Int} : ∀ {a b c d : List Int}, a ++ s :: b = c ++ s :: d → ¬ s ∈ a → ¬ s ∈ c → a = c ∧ b = d
  | [], b, [], d, h, _, _ => by simp at h; exact ⟨rfl, h⟩
  | [], b, y :: c, d, h, _, h2 => by
    simp only [List.nil_append, List.cons_append, List.cons.injEq] at h
    exact absurd (by rw [h.1]; exact List.mem_cons_self) h2
  | x :: a, b, [], d, h, h1, _ => by
    simp only [List.nil_append, List.cons_append, List.cons.injEq] at h
    exact absurd (by rw [h.1]; exact List.mem_cons_self) h1
  | x :: a, b, y :: c, d, h, h1, h2 => by
    simp only [List.cons_append, List.cons.injEq] at h
    obtain ⟨e1, e2⟩ := mid_inj h.2 (fun z => h1 (List.mem_cons_of_mem _ z)) (fun z => h2 (List.mem_cons_of_mem _ z))
    exact ⟨by rw [h.1, e1], e2⟩
theorem c_Mo_cutS (hM : MoS σ) {S : PS} (hS : MS m S) {p s : Int} (h1 : -2147483648 ≤ p ∧ p ≤ 2147483647) (hs : 0 ≤ s ∧ s < 24) : ∃ m', Call 3 m_Mo_cut [vr 57, vi p, vi (fS s), vi (tS s), vi (wS s)] σ m (some (vi (if (0 ≤ p ∧ p < S.1) ∧ tS s < S.2.1 p then (if s ∈ S.2.2 p then (S.2.2 p).length - 1 else -2) else -1))) σ m' ∧ MS m' (if ((0 ≤ p ∧ p < S.1) ∧ tS s < S.2.1 p) ∧ s ∈ S.2.2 p then (S.1, up S.2.1 p (S.2.1 p), up S.2.2 p (del s (S.2.2 p))) else S) ∧ FrM m m' := by
  have hS1 := hS.1
  have hS2 := hS.2.1
  have b1 := fS_b s
  have b2 := tS_b s
  have b3 := wS_b s
  have b4 : fS s < tS s := by unfold fS tS; (repeat' split) <;> omega
  by_cases hp : 0 ≤ p ∧ p < S.1
  · obtain ⟨⟨g1, g2, g3⟩, g4⟩ := hS.2.2 p hp.1 hp.2
    have g40 := g4
    obtain ⟨⟨k1, k2⟩, k3, k4, k5⟩ := g40
    by_cases hk : tS s < S.2.1 p
    · by_cases hin : s ∈ S.2.2 p
      · obtain ⟨pre, suf, hl, hpre⟩ : ∃ pre suf, S.2.2 p = pre ++ s :: suf ∧ ¬ s ∈ pre := by
          clear g1 g2 g3 g4 k3 k4 k5
          generalize S.2.2 p = l at hin
          induction l with
          | nil => simp at hin
          | cons x t ih =>
            by_cases hx : s = x
            · exact ⟨[], t, by rw [hx]; rfl, by simp⟩
            · obtain ⟨pre, suf, h5, h6⟩ := ih ((List.mem_cons.mp hin).resolve_left hx)
              exact ⟨x :: pre, suf, by rw [h5]; rfl, by simp only [List.mem_cons, not_or]; exact ⟨hx, h6⟩⟩
        have g3b := g3
        rw [hl, At_app] at g3b
        obtain ⟨hA1, -, hA2⟩ := g3b
        have hlen : (S.2.2 p).length = pre.length + suf.length + 1 := by rw [hl]; simp; omega
        obtain ⟨m', q1, q2, q3, q4, q5, q6⟩ := lp2_Mo_cut hM (p := p) (en := 6 * p + (S.2.2 p).length) (n := (S.2.2 p).length) (x2 := some (vi (fS s))) (x3 := some (vi (tS s))) (x4 := some (vi (wS s))) (x6 := 6 * p + pre.length) (by omega) (by omega) suf (6 * p + pre.length + 1) m g2 hA2 (by omega) (by omega)
        refine ⟨m', ?_, ?_, fun a i h1 h2 => q4 a i (by omega) (by omega) (by omega) (by omega)⟩
        · rw [if_pos ⟨hp, hk⟩, if_pos hin]
          show Ev 3 m_Mo_cut 0 [some (vr 57), some (vi p), some (vi (fS s)), some (vi (tS s)), some (vi (wS s)), none, none, none] [] σ m _ σ _
          refine Ev.aload_n d_Mo_cut_0 rfl ?_
          refine Ev.iload_n d_Mo_cut_1 rfl ?_
          refine Ev.callV d_Mo_cut_2 mt_Mo_is lk_Mo_117 in_Mo_is se_Mo_is rfl (Nat.le_of_ble_eq_true rfl) rfl (Nat.le_of_ble_eq_true rfl) (by decide) (is_57 hM) (by decide) rfl rfl (c_Mo_is hM (by omega) (by omega)) ?_
          refine Ev.if_eq (tgt := 24) d_Mo_cut_5 rfl b01_b (fun hb5 => by exfalso; (first | rw [b01_ne] at hb5 | rw [b01_eq] at hb5); omega) (fun hb5 => ?_)
          rw [b01_ne] at hb5
          refine Ev.aload_n d_Mo_cut_8 rfl ?_
          refine Ev.gr 1 d_Mo_cut_9 lf_Mo_7 rfl rfl (is_57 hM) (by decide) (rf_57_1 hM) ?_
          refine Ev.iload_n d_Mo_cut_12 rfl ?_
          refine Ev.iaload d_Mo_cut_13 (is_58 hM) (by first | omega | (simp [mu]; done) | (simp [mu]; omega)) ?_
          refine Ev.iload_n d_Mo_cut_14 rfl ?_
          refine Ev.iload_n d_Mo_cut_15 rfl ?_
          refine Ev.iload d_Mo_cut_16 rfl ?_
          refine Ev.callS d_Mo_cut_18 mt_Mo_isStair lk_Mo_121 st_Mo_isStair rfl (Nat.le_of_ble_eq_true rfl) rfl (Nat.le_of_ble_eq_true rfl) (by decide) rfl (c_Mo_isStair (by omega) (by omega) (by omega) (by omega)) ?_
          refine Ev.if_ne (tgt := 26) d_Mo_cut_21 rfl b01_b (fun hb21 => ?_) (fun hb21 => by exfalso; (first | rw [b01_ne] at hb21 | rw [b01_eq] at hb21); omega)
          rw [b01_ne] at hb21
          refine Ev.bipush d_Mo_cut_26 rfl ?_
          refine Ev.iload_n d_Mo_cut_28 rfl ?_
          refine Ev.imul d_Mo_cut_29 ?_
          refine Ev.aload_n d_Mo_cut_30 rfl ?_
          refine Ev.gr 2 d_Mo_cut_31 lf_Mo_13 rfl rfl (is_57 hM) (by decide) (rf_57_2 hM) ?_
          refine Ev.iload_n d_Mo_cut_34 rfl ?_
          refine Ev.iaload d_Mo_cut_35 (is_59 hM) (by first | omega | (simp [mu]; done) | (simp [mu]; omega)) ?_
          refine Ev.iadd d_Mo_cut_36 ?_
          refine Ev.istore_5 d_Mo_cut_37 rfl ?_
          refine Ev.bipush d_Mo_cut_39 rfl ?_
          refine Ev.iload_n d_Mo_cut_41 rfl ?_
          refine Ev.imul d_Mo_cut_42 ?_
          refine Ev.istore_6 d_Mo_cut_43 rfl ?_
          rw [g2]
          refine lp1_Mo_cut hM (by omega) hs (by omega) (S.2.2 p) _ g3 (by omega) rfl (fun y hy => by have := k5 y hy; omega) (fun h => ?_) (fun pre2 suf2 h1 h2 => ?_)
          · exact absurd hin h
          · obtain ⟨rfl, rfl⟩ : pre = pre2 ∧ suf = suf2 := by
              rw [hl] at h1
              exact mid_inj h1 hpre h2
            refine Ev.iload d_Mo_cut_92 rfl ?_
            refine Ev.iload d_Mo_cut_94 rfl ?_
            refine Ev.icmp_ne (tgt := 102) d_Mo_cut_96 rfl (by omega) (by omega) (fun hb96 => ?_) (fun hb96 => by exfalso; omega)
            refine Ev.iload d_Mo_cut_102 rfl ?_
            refine Ev.iconst d_Mo_cut_104 ?_
            refine Ev.iadd d_Mo_cut_105 ?_
            refine Ev.istore_7 d_Mo_cut_106 rfl ?_
            exact q1
        · rw [if_pos ⟨⟨hp, hk⟩, hin⟩]
          refine MS_set hS hp ⟨?_, ?_, ?_⟩ (del_PK g4 hin) ?_ (fun q hq => ⟨?_, ?_⟩) (fun a j ha hj => q6 a j ha (by omega))
          · rw [q4 58 p (by decide) (by decide) (by decide) (by decide)]; exact g1
          · have := del_len hin
            rw [q3]; omega
          · rw [hl, del_mid hpre, At_app]
            refine ⟨At_eq (fun j hj1 hj2 => ?_) hA1, by rw [show 6 * p + (pre.length : Int) = 6 * p + pre.length + 1 - 1 by omega]; exact q2⟩
            exact ⟨q6 60 j (by omega) (by omega), q6 61 j (by omega) (by omega), q6 62 j (by omega) (by omega)⟩
          · exact q4 57 0 (by decide) (by decide) (by decide) (by decide)
          · exact q4 58 q (by decide) (by decide) (by decide) (by decide)
          · exact q5 q hq
      · refine ⟨m, ?_, by rw [if_neg (fun q => hin q.2)]; exact hS, FrM.rf⟩
        rw [if_pos ⟨hp, hk⟩, if_neg hin]
        show Ev 3 m_Mo_cut 0 [some (vr 57), some (vi p), some (vi (fS s)), some (vi (tS s)), some (vi (wS s)), none, none, none] [] σ m _ σ _
        refine Ev.aload_n d_Mo_cut_0 rfl ?_
        refine Ev.iload_n d_Mo_cut_1 rfl ?_
        refine Ev.callV d_Mo_cut_2 mt_Mo_is lk_Mo_117 in_Mo_is se_Mo_is rfl (Nat.le_of_ble_eq_true rfl) rfl (Nat.le_of_ble_eq_true rfl) (by decide) (is_57 hM) (by decide) rfl rfl (c_Mo_is hM (by omega) (by omega)) ?_
        refine Ev.if_eq (tgt := 24) d_Mo_cut_5 rfl b01_b (fun hb5 => by exfalso; (first | rw [b01_ne] at hb5 | rw [b01_eq] at hb5); omega) (fun hb5 => ?_)
        rw [b01_ne] at hb5
        refine Ev.aload_n d_Mo_cut_8 rfl ?_
        refine Ev.gr 1 d_Mo_cut_9 lf_Mo_7 rfl rfl (is_57 hM) (by decide) (rf_57_1 hM) ?_
        refine Ev.iload_n d_Mo_cut_12 rfl ?_
        refine Ev.iaload d_Mo_cut_13 (is_58 hM) (by first | omega | (simp [mu]; done) | (simp [mu]; omega)) ?_
        refine Ev.iload_n d_Mo_cut_14 rfl ?_
        refine Ev.iload_n d_Mo_cut_15 rfl ?_
        refine Ev.iload d_Mo_cut_16 rfl ?_
        refine Ev.callS d_Mo_cut_18 mt_Mo_isStair lk_Mo_121 st_Mo_isStair rfl (Nat.le_of_ble_eq_true rfl) rfl (Nat.le_of_ble_eq_true rfl) (by decide) rfl (c_Mo_isStair (by omega) (by omega) (by omega) (by omega)) ?_
        refine Ev.if_ne (tgt := 26) d_Mo_cut_21 rfl b01_b (fun hb21 => ?_) (fun hb21 => by exfalso; (first | rw [b01_ne] at hb21 | rw [b01_eq] at hb21); omega)
        rw [b01_ne] at hb21
        refine Ev.bipush d_Mo_cut_26 rfl ?_
        refine Ev.iload_n d_Mo_cut_28 rfl ?_
        refine Ev.imul d_Mo_cut_29 ?_
        refine Ev.aload_n d_Mo_cut_30 rfl ?_
        refine Ev.gr 2 d_Mo_cut_31 lf_Mo_13 rfl rfl (is_57 hM) (by decide) (rf_57_2 hM) ?_
        refine Ev.iload_n d_Mo_cut_34 rfl ?_
        refine Ev.iaload d_Mo_cut_35 (is_59 hM) (by first | omega | (simp [mu]; done) | (simp [mu]; omega)) ?_
        refine Ev.iadd d_Mo_cut_36 ?_
        refine Ev.istore_5 d_Mo_cut_37 rfl ?_
        refine Ev.bipush d_Mo_cut_39 rfl ?_
        refine Ev.iload_n d_Mo_cut_41 rfl ?_
        refine Ev.imul d_Mo_cut_42 ?_
        refine Ev.istore_6 d_Mo_cut_43 rfl ?_
        rw [g2]
        refine lp1_Mo_cut hM (by omega) hs (by omega) (S.2.2 p) _ g3 (by omega) rfl (fun y hy => by have := k5 y hy; omega) (fun h => ?_) (fun pre2 suf2 h1 h2 => ?_)
        · refine Ev.iload d_Mo_cut_92 rfl ?_
          refine Ev.iload d_Mo_cut_94 rfl ?_
          refine Ev.icmp_ne (tgt := 102) d_Mo_cut_96 rfl (by omega) (by omega) (fun hb96 => by exfalso; omega) (fun hb96 => ?_)
          refine Ev.bipush d_Mo_cut_99 rfl ?_
          exact Ev.to (Ev.ireturn d_Mo_cut_101 rfl) rfl rfl
        · exact absurd (by rw [h1]; simp) hin
    · refine ⟨m, ?_, by rw [if_neg (fun q => hk q.1.2)]; exact hS, FrM.rf⟩
      rw [if_neg (fun q => hk q.2)]
      show Ev 3 m_Mo_cut 0 [some (vr 57), some (vi p), some (vi (fS s)), some (vi (tS s)), some (vi (wS s)), none, none, none] [] σ m _ σ _
      refine Ev.aload_n d_Mo_cut_0 rfl ?_
      refine Ev.iload_n d_Mo_cut_1 rfl ?_
      refine Ev.callV d_Mo_cut_2 mt_Mo_is lk_Mo_117 in_Mo_is se_Mo_is rfl (Nat.le_of_ble_eq_true rfl) rfl (Nat.le_of_ble_eq_true rfl) (by decide) (is_57 hM) (by decide) rfl rfl (c_Mo_is hM (by omega) (by omega)) ?_
      refine Ev.if_eq (tgt := 24) d_Mo_cut_5 rfl b01_b (fun hb5 => by exfalso; (first | rw [b01_ne] at hb5 | rw [b01_eq] at hb5); omega) (fun hb5 => ?_)
      rw [b01_ne] at hb5
      refine Ev.aload_n d_Mo_cut_8 rfl ?_
      refine Ev.gr 1 d_Mo_cut_9 lf_Mo_7 rfl rfl (is_57 hM) (by decide) (rf_57_1 hM) ?_
      refine Ev.iload_n d_Mo_cut_12 rfl ?_
      refine Ev.iaload d_Mo_cut_13 (is_58 hM) (by first | omega | (simp [mu]; done) | (simp [mu]; omega)) ?_
      refine Ev.iload_n d_Mo_cut_14 rfl ?_
      refine Ev.iload_n d_Mo_cut_15 rfl ?_
      refine Ev.iload d_Mo_cut_16 rfl ?_
      refine Ev.callS d_Mo_cut_18 mt_Mo_isStair lk_Mo_121 st_Mo_isStair rfl (Nat.le_of_ble_eq_true rfl) rfl (Nat.le_of_ble_eq_true rfl) (by decide) rfl (c_Mo_isStair (by omega) (by omega) (by omega) (by omega)) ?_
      refine Ev.if_ne (tgt := 26) d_Mo_cut_21 rfl b01_b (fun hb21 => by exfalso; (first | rw [b01_ne] at hb21 | rw [b01_eq] at hb21); omega) (fun hb21 => ?_)
      rw [b01_eq] at hb21
      refine Ev.iconst d_Mo_cut_24 ?_
      exact Ev.to (Ev.ireturn d_Mo_cut_25 rfl) rfl rfl
  · refine ⟨m, ?_, by rw [if_neg (fun q => hp q.1.1)]; exact hS, FrM.rf⟩
    rw [if_neg (fun q => hp q.1)]
    show Ev 3 m_Mo_cut 0 [some (vr 57), some (vi p), some (vi (fS s)), some (vi (tS s)), some (vi (wS s)), none, none, none] [] σ m _ σ _
    refine Ev.aload_n d_Mo_cut_0 rfl ?_
    refine Ev.iload_n d_Mo_cut_1 rfl ?_
    refine Ev.callV d_Mo_cut_2 mt_Mo_is lk_Mo_117 in_Mo_is se_Mo_is rfl (Nat.le_of_ble_eq_true rfl) rfl (Nat.le_of_ble_eq_true rfl) (by decide) (is_57 hM) (by decide) rfl rfl (c_Mo_is hM (by omega) (by omega)) ?_
    refine Ev.if_eq (tgt := 24) d_Mo_cut_5 rfl b01_b (fun hb5 => ?_) (fun hb5 => by exfalso; (first | rw [b01_ne] at hb5 | rw [b01_eq] at hb5); omega)
    rw [b01_eq] at hb5
    refine Ev.iconst d_Mo_cut_24 ?_
    exact Ev.to (Ev.ireturn d_Mo_cut_25 rfl) rfl rfl
theorem c_Mo_cut (hM : MoS σ) {S : PS} (hS : MS m S) {p i j w : Int} (h1 : -2147483648 ≤ p ∧ p ≤ 2147483647) (h2 : -2147483648 ≤ i ∧ i ≤ 2147483647) (h3 : -2147483648 ≤ j ∧ j ≤ 2147483647) (h4 : -2147483648 ≤ w ∧ w ≤ 2147483647) : ∃ m', Call 3 m_Mo_cut [vr 57, vi p, vi i, vi j, vi w] σ m (some (vi (sp_cut S p i j w))) σ m' ∧ MS m' (st_cut S p i j w) ∧ FrM m m' := by
  have hS1 := hS.1
  have hS2 := hS.2.1
  by_cases hk : (0 ≤ p ∧ p < S.1) ∧ (0 ≤ i ∧ i < j ∧ j < S.2.1 p ∧ 1 ≤ w ∧ w ≤ 4)
  · obtain ⟨-, g4⟩ := hS.2.2 p hk.1.1 hk.1.2
    obtain ⟨e1, e2, e3, e4, e5⟩ := spot_ok g4.1.2 hk.2
    obtain ⟨m', q1, q2, q3⟩ := c_Mo_cutS hM hS (p := p) (s := spot i j w) h1 ⟨e4, e5⟩
    rw [e1, e2, e3] at q1
    rw [e2] at q2
    have hj : j < S.2.1 p := hk.2.2.2.1
    refine ⟨m', ?_, ?_, q3⟩
    · rw [sp_cut, if_pos hk]
      rw [if_pos ⟨hk.1, hj⟩] at q1
      exact q1
    · rw [st_cut]
      by_cases hin : spot i j w ∈ S.2.2 p
      · rw [if_pos ⟨hk, hin⟩]
        rw [if_pos ⟨⟨hk.1, hj⟩, hin⟩] at q2
        exact q2
      · rw [if_neg (fun q => hin q.2)]
        rw [if_neg (fun q => hin q.2)] at q2
        exact q2
  · refine ⟨m, ?_, by rw [st_cut, if_neg (fun q => hk q.1)]; exact hS, FrM.rf⟩
    rw [sp_cut, if_neg hk]
    by_cases hp : 0 ≤ p ∧ p < S.1
    · obtain ⟨⟨g1, g2, g3⟩, g4⟩ := hS.2.2 p hp.1 hp.2
      obtain ⟨⟨k1, k2⟩, k3, k4, k5⟩ := g4
      show Ev 3 m_Mo_cut 0 [some (vr 57), some (vi p), some (vi i), some (vi j), some (vi w), none, none, none] [] σ m _ σ _
      refine Ev.aload_n d_Mo_cut_0 rfl ?_
      refine Ev.iload_n d_Mo_cut_1 rfl ?_
      refine Ev.callV d_Mo_cut_2 mt_Mo_is lk_Mo_117 in_Mo_is se_Mo_is rfl (Nat.le_of_ble_eq_true rfl) rfl (Nat.le_of_ble_eq_true rfl) (by decide) (is_57 hM) (by decide) rfl rfl (c_Mo_is hM (by omega) (by omega)) ?_
      refine Ev.if_eq (tgt := 24) d_Mo_cut_5 rfl b01_b (fun hb5 => by exfalso; (first | rw [b01_ne] at hb5 | rw [b01_eq] at hb5); omega) (fun hb5 => ?_)
      rw [b01_ne] at hb5
      refine Ev.aload_n d_Mo_cut_8 rfl ?_
      refine Ev.gr 1 d_Mo_cut_9 lf_Mo_7 rfl rfl (is_57 hM) (by decide) (rf_57_1 hM) ?_
      refine Ev.iload_n d_Mo_cut_12 rfl ?_
      refine Ev.iaload d_Mo_cut_13 (is_58 hM) (by first | omega | (simp [mu]; done) | (simp [mu]; omega)) ?_
      refine Ev.iload_n d_Mo_cut_14 rfl ?_
      refine Ev.iload_n d_Mo_cut_15 rfl ?_
      refine Ev.iload d_Mo_cut_16 rfl ?_
      refine Ev.callS d_Mo_cut_18 mt_Mo_isStair lk_Mo_121 st_Mo_isStair rfl (Nat.le_of_ble_eq_true rfl) rfl (Nat.le_of_ble_eq_true rfl) (by decide) rfl (c_Mo_isStair (by omega) (by omega) (by omega) (by omega)) ?_
      refine Ev.if_ne (tgt := 26) d_Mo_cut_21 rfl b01_b (fun hb21 => by exfalso; (first | rw [b01_ne] at hb21 | rw [b01_eq] at hb21); omega) (fun hb21 => ?_)
      rw [b01_eq] at hb21
      refine Ev.iconst d_Mo_cut_24 ?_
      exact Ev.to (Ev.ireturn d_Mo_cut_25 rfl) rfl rfl
    · show Ev 3 m_Mo_cut 0 [some (vr 57), some (vi p), some (vi i), some (vi j), some (vi w), none, none, none] [] σ m _ σ _
      refine Ev.aload_n d_Mo_cut_0 rfl ?_
      refine Ev.iload_n d_Mo_cut_1 rfl ?_
      refine Ev.callV d_Mo_cut_2 mt_Mo_is lk_Mo_117 in_Mo_is se_Mo_is rfl (Nat.le_of_ble_eq_true rfl) rfl (Nat.le_of_ble_eq_true rfl) (by decide) (is_57 hM) (by decide) rfl rfl (c_Mo_is hM (by omega) (by omega)) ?_
      refine Ev.if_eq (tgt := 24) d_Mo_cut_5 rfl b01_b (fun hb5 => ?_) (fun hb5 => by exfalso; (first | rw [b01_ne] at hb5 | rw [b01_eq] at hb5); omega)
      rw [b01_eq] at hb5
      refine Ev.iconst d_Mo_cut_24 ?_
      exact Ev.to (Ev.ireturn d_Mo_cut_25 rfl) rfl rfl

end
