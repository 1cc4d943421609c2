section
variable {σ : Sg} {m : Mm}
/-! the rows laid one after another -/
def nbK : Nat → List Int → Int
  | 0, _ => 0
  | k + 1, l => nbK k l + (if 6 < (k : Int) then cn k l else 0)
def LT (m : Mm) (i : Int) (l : List Int) : Prop := m 79 i = tsum l ∧ m 80 i = nbK 12 l ∧ ∀ k : Int, 0 ≤ k → k < 12 → m 81 (12 * i + k) = cn k l
def Laid (m : Mm) (n : Nat) : Prop := ∀ i : Nat, i < n → LT m i (TL.getD i [])
def FrR (m m' : Mm) : Prop := ∀ a j : Int, ¬ (a = 57 ∧ j = 27) → a ≠ 79 → a ≠ 80 → a ≠ 81 → a ≠ 83 → m' a j = m a j
theorem FrR.tr {a b c : Mm} (h : FrR a b) (g : FrR b c) : FrR a c := fun x j h1 h2 h3 h4 h5 => (g x j h1 h2 h3 h4 h5).trans (h x j h1 h2 h3 h4 h5)
def FrRn (n : Int) (m m' : Mm) : Prop := ∀ a j : Int, ¬ (a = 80 ∧ j = n) → ¬ (a = 81 ∧ 12 * n ≤ j ∧ j < 12 * n + 12) → m' a j = m a j
theorem lpf_Mo_layRows (hM : MoS σ) {r : Option AV} {Post : Mm → Prop} {n x2 : Int} {l : List Int} (hn : 0 ≤ n ∧ n < 100) : ∀ (q k : Nat) (m : Mm), k + q = 12 → m 57 27 = n → R12 83 m l → m 80 n = nbK k l → (∀ j : Int, 0 ≤ j → j < k → m 81 (12 * n + j) = cn j l) → (∀ m' : Mm, FrRn n m m' → m' 80 n = nbK 12 l → (∀ j : Int, 0 ≤ j → j < 12 → m' 81 (12 * n + j) = cn j l) → ∃ mF, Ev 2 m_Mo_layRows 200 [some (vr 57), some (vi 1), some (vi x2), some (vi 1), some (vi 12)] [] σ m' r σ mF ∧ Post mF) → ∃ mF, Ev 2 m_Mo_layRows 135 [some (vr 57), some (vi 1), some (vi x2), some (vi 1), some (vi k)] [] σ m r σ mF ∧ Post mF
  | 0, k, m, hk, h27, hR, h80, h81, c => by
    have e : k = 12 := by omega
    subst e
    obtain ⟨mF, g1, g2⟩ := c m (fun _ _ _ _ => rfl) h80 h81
    refine ⟨mF, ?_, g2⟩
    refine Ev.iload d_Mo_layRows_135 rfl ?_
    refine Ev.bipush d_Mo_layRows_137 rfl ?_
    refine Ev.icmp_ge (tgt := 200) d_Mo_layRows_139 rfl (by first | omega | (simp [mu]; done) | (simp [mu]; omega)) (by first | omega | (simp [mu]; done) | (simp [mu]; omega)) (fun hb139 => ?_) (fun hb139 => by exfalso; first | omega | simp at hb139 | contradiction)
    exact g1
  | q + 1, k, m, hk, h27, hR, h80, h81, c => by
    have r83 := hR (k : Int) (by omega) (by omega)
    have h27' : mu m 81 (12 * n + k) (cn k l) 57 27 = n := by rw [mu_a (by decide)]; exact h27
    have h80' : mu m 81 (12 * n + k) (cn k l) 80 n = nbK k l := by rw [mu_a (by decide)]; exact h80
    have h83' : mu m 81 (12 * n + k) (cn k l) 83 k = cn k l := by rw [mu_a (by decide)]; exact r83
    obtain ⟨mF, g1, g2⟩ := lpf_Mo_layRows hM hn q (k + 1) (mu (mu m 81 (12 * n + k) (cn k l)) 80 n (nbK (k + 1) l)) (by omega) (by rw [mu_a (by decide)]; exact h27') (fun j a b => by rw [mu_a (by decide), mu_a (by decide)]; exact hR j a b) mu_s (fun j a b => by
      rw [mu_a (by decide)]
      by_cases e : j = k
      · rw [e, mu_s]
      · rw [mu_n (Or.inr (by omega))]; exact h81 j a (by omega)) (fun m' f1 f2 f3 => c m' (fun a j x y => (f1 a j x y).trans (by
        by_cases e : a = 80
        · rw [mu_n (Or.inr (by omega)), mu_a (by omega)]
        · rw [mu_a e]
          by_cases e2 : a = 81
          · rw [mu_n (Or.inr (by omega))]
          · rw [mu_a e2])) f2 f3)
    refine ⟨mF, ?_, g2⟩
    have ek : ((k + 1 : Nat) : Int) = (k : Int) + 1 := by omega
    rw [ek] at g1
    refine Ev.iload d_Mo_layRows_135 rfl ?_
    refine Ev.bipush d_Mo_layRows_137 rfl ?_
    refine Ev.icmp_ge (tgt := 200) d_Mo_layRows_139 rfl (by first | omega | (simp [mu]; done) | (simp [mu]; omega)) (by first | omega | (simp [mu]; done) | (simp [mu]; omega)) (fun hb139 => by exfalso; first | omega | simp at hb139 | contradiction) (fun hb139 => ?_)
    refine Ev.aload_n d_Mo_layRows_142 rfl ?_
    refine Ev.gr 30 d_Mo_layRows_143 lf_Mo_82 rfl rfl (is_57 hM) (by decide) (rf_57_30 hM) ?_
    refine Ev.bipush d_Mo_layRows_146 rfl ?_
    refine Ev.aload_n d_Mo_layRows_148 rfl ?_
    refine Ev.gf 27 d_Mo_layRows_149 lf_Mo_256 rfl rfl (is_57 hM) (by decide) ?_
    rw [h27]
    refine Ev.imul d_Mo_layRows_152 ?_
    refine Ev.iload d_Mo_layRows_153 rfl ?_
    refine Ev.iadd d_Mo_layRows_155 ?_
    refine Ev.aload_n d_Mo_layRows_156 rfl ?_
    refine Ev.gr 34 d_Mo_layRows_157 lf_Mo_88 rfl rfl (is_57 hM) (by decide) (rf_57_34 hM) ?_
    refine Ev.iload d_Mo_layRows_160 rfl ?_
    refine Ev.iaload d_Mo_layRows_162 (is_83 hM) (by first | omega | (simp [mu]; done) | (simp [mu]; omega)) ?_
    rw [r83]
    refine Ev.iastore d_Mo_layRows_163 (is_81 hM) (by decide) (by first | omega | (simp [mu]; done) | (simp [mu]; omega)) ?_
    refine Ev.aload_n d_Mo_layRows_164 rfl ?_
    refine Ev.gr 29 d_Mo_layRows_165 lf_Mo_79 rfl rfl (is_57 hM) (by decide) (rf_57_29 hM) ?_
    refine Ev.aload_n d_Mo_layRows_168 rfl ?_
    refine Ev.gf 27 d_Mo_layRows_169 lf_Mo_256 rfl rfl (is_57 hM) (by decide) ?_
    rw [h27']
    refine Ev.dup2 d_Mo_layRows_172 rfl rfl ?_
    refine Ev.iaload d_Mo_layRows_173 (is_80 hM) (by first | omega | (simp [mu]; done) | (simp [mu]; omega)) ?_
    rw [h80']
    refine Ev.iload d_Mo_layRows_174 rfl ?_
    refine Ev.bipush d_Mo_layRows_176 rfl ?_
    refine Ev.icmp_le (tgt := 191) d_Mo_layRows_178 rfl (by first | omega | (simp [mu]; done) | (simp [mu]; omega)) (by first | omega | (simp [mu]; done) | (simp [mu]; omega)) (fun hb178 => ?_) (fun hb178 => ?_)
    · refine Ev.iconst d_Mo_layRows_191 ?_
      refine Ev.iadd d_Mo_layRows_192 ?_
      refine Ev.iastore d_Mo_layRows_193 (is_80 hM) (by decide) (by first | omega | (simp [mu]; done) | (simp [mu]; omega)) ?_
      refine Ev.iinc_4 d_Mo_layRows_194 rfl ?_
      refine Ev.goto (tgt := 135) d_Mo_layRows_197 rfl ?_
      rw [show nbK k l + 0 = nbK (k + 1) l from by simp only [nbK]; rw [if_neg (by omega)]]
      exact g1
    · refine Ev.aload_n d_Mo_layRows_181 rfl ?_
      refine Ev.gr 34 d_Mo_layRows_182 lf_Mo_88 rfl rfl (is_57 hM) (by decide) (rf_57_34 hM) ?_
      refine Ev.iload d_Mo_layRows_185 rfl ?_
      refine Ev.iaload d_Mo_layRows_187 (is_83 hM) (by first | omega | (simp [mu]; done) | (simp [mu]; omega)) ?_
      rw [h83']
      refine Ev.goto (tgt := 192) d_Mo_layRows_188 rfl ?_
      refine Ev.iadd d_Mo_layRows_192 ?_
      refine Ev.iastore d_Mo_layRows_193 (is_80 hM) (by decide) (by first | omega | (simp [mu]; done) | (simp [mu]; omega)) ?_
      refine Ev.iinc_4 d_Mo_layRows_194 rfl ?_
      refine Ev.goto (tgt := 135) d_Mo_layRows_197 rfl ?_
      rw [show nbK k l + cn k l = nbK (k + 1) l from by simp only [nbK]; rw [if_pos (by omega)]]
      exact g1
def Chn : List Int → List (List Int) → Prop
  | l, [] => nxr 11 l = none
  | l, l' :: t => nxr 11 l = some l' ∧ Chn l' t
def chnB : List Int → List (List Int) → Bool
  | l, [] => nxr 11 l == none
  | l, l' :: t => nxr 11 l == some l' && chnB l' t
theorem chnB_ok : ∀ (t : List (List Int)) (l : List Int), chnB l t = true → Chn l t
  | [], l, h => by simpa [chnB, Chn] using h
  | l' :: t, l, h => by
    simp only [chnB, Bool.and_eq_true, beq_iff_eq] at h
    exact ⟨h.1, chnB_ok t l' h.2⟩
theorem Chn_TL : Chn [] TL := chnB_ok TL [] (by decide +kernel)
theorem lpo_Mo_layRows (hM : MoS σ) : ∀ (rest : List (List Int)) (l : List Int) (n : Nat) (m : Mm) (x2 x3 x4 : Option AV), Chn l rest → TL.drop n = rest → n ≤ 73 → R12 83 m l → FGS l → tsum l ≤ 5 → m 57 27 = n → Laid m n → ∃ mF, Ev 2 m_Mo_layRows 28 [some (vr 57), some (vi 1), x2, x3, x4] [] σ m none σ mF ∧ FrR m mF ∧ mF 57 27 = 73 ∧ Laid mF 73
  | [], l, n, m, x2, x3, x4, hC, hT, hn, hR, hl, hs, h27, hL => by
    have e : n = 73 := by
      have := congrArg List.length hT
      rw [List.length_drop] at this
      have h73 : TL.length = 73 := by decide +kernel
      simp only [List.length_nil] at this
      omega
    subst e
    obtain ⟨mF, g1, g2⟩ := lpk_Mo_layRows hM (r := none) (Post := fun mF => FrR m mF ∧ mF 57 27 = 73 ∧ Laid mF 73) 11 11 l m x4 rfl (by decide) hR hl hs (fun m' z fr => ⟨fun _ => by
      refine ⟨m', ?_, fun a j h1 h2 h3 h4 h5 => fr a j h5, (fr 57 27 (by decide)).trans h27, fun i hi => ?_⟩
      refine Ev.iload_n d_Mo_layRows_99 rfl ?_
      refine Ev.istore_1 d_Mo_layRows_100 rfl ?_
      refine Ev.iload_n d_Mo_layRows_101 rfl ?_
      refine Ev.if_eq (tgt := 210) d_Mo_layRows_102 rfl (by first | omega | (simp [mu]; done) | (simp [mu]; omega)) (fun hb102 => ?_) (fun hb102 => by exfalso; first | omega | simp at hb102 | contradiction)
      refine Ev.goto (tgt := 28) d_Mo_layRows_210 rfl ?_
      refine Ev.iload_n d_Mo_layRows_28 rfl ?_
      refine Ev.if_eq (tgt := 213) d_Mo_layRows_29 rfl (by first | omega | (simp [mu]; done) | (simp [mu]; omega)) (fun hb29 => ?_) (fun hb29 => by exfalso; first | omega | simp at hb29 | contradiction)
      exact Ev.to (Ev.return d_Mo_layRows_213 rfl) rfl rfl
      · obtain ⟨a, b, c⟩ := hL i hi
        exact ⟨(fr _ _ (by decide)).trans a, (fr _ _ (by decide)).trans b, fun k x y => (fr _ _ (by decide)).trans (c k x y)⟩, fun l' h => by
        have : nxr 11 l = none := hC
        rw [this] at h; cases h⟩)
    refine ⟨mF, ?_, g2⟩
    refine Ev.iload_n d_Mo_layRows_28 rfl ?_
    refine Ev.if_eq (tgt := 213) d_Mo_layRows_29 rfl (by first | omega | (simp [mu]; done) | (simp [mu]; omega)) (fun hb29 => by exfalso; first | omega | simp at hb29 | contradiction) (fun hb29 => ?_)
    refine Ev.bipush d_Mo_layRows_32 rfl ?_
    refine Ev.istore_2 d_Mo_layRows_34 rfl ?_
    refine Ev.iconst d_Mo_layRows_35 ?_
    refine Ev.istore_3 d_Mo_layRows_36 rfl ?_
    exact g1
  | l' :: t, l, n, m, x2, x3, x4, hC, hT, hn, hR, hl, hs, h27, hL => by
    have h73 : TL.length = 73 := by decide +kernel
    have hlt : n < 73 := by
      have := congrArg List.length hT
      rw [List.length_drop] at this
      simp only [List.length_cons] at this
      omega
    have hg : TL.getD n [] = l' := by
      have h1 : TL[n]? = some l' := by
        have h2 : (TL.drop n)[0]? = some l' := by rw [hT]; rfl
        rw [List.getElem?_drop] at h2
        exact h2
      rw [List.getD_eq_getElem?_getD, h1]; rfl
    have hT' : TL.drop (n + 1) = t := by
      have : (TL.drop n).drop 1 = t := by rw [hT]; rfl
      rwa [List.drop_drop] at this
    obtain ⟨mF, g1, g2⟩ := lpk_Mo_layRows hM (r := none) (Post := fun mF => FrR m mF ∧ mF 57 27 = 73 ∧ Laid mF 73) 11 11 l m x4 rfl (by decide) hR hl hs (fun m' z fr => ⟨fun h => absurd ((show nxr 11 l = some l' from hC.1).symm.trans h) (by simp), fun l2 h2 R2 F2 s2 => by
      have h3 : nxr 11 l = some l' := hC.1
      rw [h3] at h2
      have h2 : l' = l2 := Option.some.inj h2
      subst h2
      have h27a : m' 57 27 = n := (fr 57 27 (by decide)).trans h27
      have h27b : mu m' 79 n (tsum l') 57 27 = n := by rw [mu_a (by decide)]; exact h27a
      obtain ⟨mF, g1, g2⟩ := lpf_Mo_layRows hM (r := none) (Post := fun mF => FrR m mF ∧ mF 57 27 = 73 ∧ Laid mF 73) (n := n) (x2 := z) (l := l') (by omega) 12 0 (mu (mu m' 79 n (tsum l')) 80 n 0) rfl (by rw [mu_a (by decide)]; exact h27b) (fun j a b => by rw [mu_a (by decide), mu_a (by decide)]; exact R2 j a b) mu_s (fun j a b => by exfalso; omega) (fun m3 f1 f2 f3 => by
        have h27c : m3 57 27 = n := (f1 57 27 (by omega) (by omega)).trans (by rw [mu_a (by decide)]; exact h27b)
        have hother : ∀ a j : Int, ¬ (a = 79 ∧ j = n) → ¬ (a = 80 ∧ j = n) → ¬ (a = 81 ∧ 12 * (n : Int) ≤ j ∧ j < 12 * n + 12) → a ≠ 83 → m3 a j = m a j := fun a j x y v u => (f1 a j y v).trans (by
          rw [mu_n (by omega), mu_n (by omega)]; exact fr a j u)
        have h79 : m3 79 n = tsum l' := (f1 79 n (by omega) (by omega)).trans (by rw [mu_a (by decide), mu_s])
        obtain ⟨mF, k1, k2, k3, k4⟩ := lpo_Mo_layRows hM t l' (n + 1) (mu m3 57 27 ((n : Int) + 1)) (some (vi z)) (some (vi 1)) (some (vi 12)) hC.2 hT' (by omega) (fun j a b => by rw [mu_a (by decide), f1 83 j (by omega) (by omega), mu_a (by decide), mu_a (by decide)]; exact R2 j a b) F2 s2 (by rw [mu_s]; omega) (fun i hi => by
          by_cases ei : i = n
          · subst ei
            rw [hg]
            exact ⟨by rw [mu_a (by decide)]; exact h79, by rw [mu_a (by decide)]; exact f2, fun k x y => by rw [mu_a (by decide)]; exact f3 k x y⟩
          · obtain ⟨a, b, c⟩ := hL i (by omega)
            exact ⟨by rw [mu_a (by decide), hother _ _ (by omega) (by omega) (by omega) (by decide)]; exact a, by rw [mu_a (by decide), hother _ _ (by omega) (by omega) (by omega) (by decide)]; exact b, fun k x y => by rw [mu_a (by decide), hother _ _ (by omega) (by omega) (by omega) (by decide)]; exact c k x y⟩)
        refine ⟨mF, ?_, FrR.tr (fun a j x1 x2 x3 x4 x5 => by rw [mu_n (by omega)]; exact hother a j (by omega) (by omega) (by omega) x5) k2, k3, k4⟩
        refine Ev.aload_n d_Mo_layRows_200 rfl ?_
        refine Ev.dup d_Mo_layRows_201 rfl ?_
        refine Ev.gf 27 d_Mo_layRows_202 lf_Mo_256 rfl rfl (is_57 hM) (by decide) ?_
        rw [h27c]
        refine Ev.iconst d_Mo_layRows_205 ?_
        refine Ev.iadd d_Mo_layRows_206 ?_
        refine Ev.pf 27 d_Mo_layRows_207 lf_Mo_256 rfl rfl rfl rfl (is_57 hM) (by decide) ?_
        refine Ev.goto (tgt := 28) d_Mo_layRows_210 rfl ?_
        exact k1)
      refine ⟨mF, ?_, g2⟩
      refine Ev.iload_n d_Mo_layRows_99 rfl ?_
      refine Ev.istore_1 d_Mo_layRows_100 rfl ?_
      refine Ev.iload_n d_Mo_layRows_101 rfl ?_
      refine Ev.if_eq (tgt := 210) d_Mo_layRows_102 rfl (by first | omega | (simp [mu]; done) | (simp [mu]; omega)) (fun hb102 => by exfalso; first | omega | simp at hb102 | contradiction) (fun hb102 => ?_)
      refine Ev.aload_n d_Mo_layRows_105 rfl ?_
      refine Ev.gr 28 d_Mo_layRows_106 lf_Mo_76 rfl rfl (is_57 hM) (by decide) (rf_57_28 hM) ?_
      refine Ev.aload_n d_Mo_layRows_109 rfl ?_
      refine Ev.gf 27 d_Mo_layRows_110 lf_Mo_256 rfl rfl (is_57 hM) (by decide) ?_
      rw [h27a]
      refine Ev.aload_n d_Mo_layRows_113 rfl ?_
      refine Ev.gr 34 d_Mo_layRows_114 lf_Mo_88 rfl rfl (is_57 hM) (by decide) (rf_57_34 hM) ?_
      refine Ev.iconst d_Mo_layRows_117 ?_
      refine Ev.callS d_Mo_layRows_118 mt_Mo_sumOf lk_Mo_259 st_Mo_sumOf rfl (Nat.le_of_ble_eq_true rfl) rfl (Nat.le_of_ble_eq_true rfl) (by decide) rfl (c_Mo_sumOf hM R2 F2) ?_
      refine Ev.iastore d_Mo_layRows_121 (is_79 hM) (by decide) (by first | omega | (simp [mu]; done) | (simp [mu]; omega)) ?_
      refine Ev.aload_n d_Mo_layRows_122 rfl ?_
      refine Ev.gr 29 d_Mo_layRows_123 lf_Mo_79 rfl rfl (is_57 hM) (by decide) (rf_57_29 hM) ?_
      refine Ev.aload_n d_Mo_layRows_126 rfl ?_
      refine Ev.gf 27 d_Mo_layRows_127 lf_Mo_256 rfl rfl (is_57 hM) (by decide) ?_
      rw [h27b]
      refine Ev.iconst d_Mo_layRows_130 ?_
      refine Ev.iastore d_Mo_layRows_131 (is_80 hM) (by decide) (by first | omega | (simp [mu]; done) | (simp [mu]; omega)) ?_
      refine Ev.iconst d_Mo_layRows_132 ?_
      refine Ev.istore_4 d_Mo_layRows_133 rfl ?_
      exact g1⟩)
    refine ⟨mF, ?_, g2⟩
    refine Ev.iload_n d_Mo_layRows_28 rfl ?_
    refine Ev.if_eq (tgt := 213) d_Mo_layRows_29 rfl (by first | omega | (simp [mu]; done) | (simp [mu]; omega)) (fun hb29 => by exfalso; first | omega | simp at hb29 | contradiction) (fun hb29 => ?_)
    refine Ev.bipush d_Mo_layRows_32 rfl ?_
    refine Ev.istore_2 d_Mo_layRows_34 rfl ?_
    refine Ev.iconst d_Mo_layRows_35 ?_
    refine Ev.istore_3 d_Mo_layRows_36 rfl ?_
    exact g1
theorem lpz_Mo_layRows (hM : MoS σ) {r : Option AV} {Post : Mm → Prop} : ∀ (q : Nat) (k : Int) (m : Mm), k + q = 12 → 0 ≤ k → (∀ j : Int, 0 ≤ j → j < k → m 83 j = 0) → (∀ m' : Mm, Fr83 m m' → (∀ j : Int, 0 ≤ j → j < 12 → m' 83 j = 0) → ∃ mF, Ev 2 m_Mo_layRows 28 [some (vr 57), some (vi 1), none, none, none] [] σ m' r σ mF ∧ Post mF) → ∃ mF, Ev 2 m_Mo_layRows 7 [some (vr 57), some (vi k), none, none, none] [] σ m r σ mF ∧ Post mF
  | 0, k, m, hk, h0, hz, c => by
    obtain ⟨mF, g1, g2⟩ := c m (fun _ _ _ => rfl) (fun j a b => hz j a (by omega))
    refine ⟨mF, ?_, g2⟩
    refine Ev.iload_n d_Mo_layRows_7 rfl ?_
    refine Ev.bipush d_Mo_layRows_8 rfl ?_
    refine Ev.icmp_ge (tgt := 26) d_Mo_layRows_10 rfl (by first | omega | (simp [mu]; done) | (simp [mu]; omega)) (by first | omega | (simp [mu]; done) | (simp [mu]; omega)) (fun hb10 => ?_) (fun hb10 => by exfalso; first | omega | simp at hb10 | contradiction)
    refine Ev.iconst d_Mo_layRows_26 ?_
    refine Ev.istore_1 d_Mo_layRows_27 rfl ?_
    exact g1
  | q + 1, k, m, hk, h0, hz, c => by
    obtain ⟨mF, g1, g2⟩ := lpz_Mo_layRows hM q (k + 1) (mu m 83 k 0) (by omega) (by omega) (fun j a b => by
      by_cases e : j = k
      · rw [e, mu_s]
      · rw [mu_n (Or.inr e)]; exact hz j a (by omega)) (fun m' f1 f2 => c m' (fun a j h => (f1 a j h).trans (mu_a h)) f2)
    refine ⟨mF, ?_, g2⟩
    refine Ev.iload_n d_Mo_layRows_7 rfl ?_
    refine Ev.bipush d_Mo_layRows_8 rfl ?_
    refine Ev.icmp_ge (tgt := 26) d_Mo_layRows_10 rfl (by first | omega | (simp [mu]; done) | (simp [mu]; omega)) (by first | omega | (simp [mu]; done) | (simp [mu]; omega)) (fun hb10 => by exfalso; first | omega | simp at hb10 | contradiction) (fun hb10 => ?_)
    refine Ev.aload_n d_Mo_layRows_13 rfl ?_
    refine Ev.gr 34 d_Mo_layRows_14 lf_Mo_88 rfl rfl (is_57 hM) (by decide) (rf_57_34 hM) ?_
    refine Ev.iload_n d_Mo_layRows_17 rfl ?_
    refine Ev.iconst d_Mo_layRows_18 ?_
    refine Ev.iastore d_Mo_layRows_19 (is_83 hM) (by decide) (by first | omega | (simp [mu]; done) | (simp [mu]; omega)) ?_
    refine Ev.iinc_1 d_Mo_layRows_20 rfl ?_
    refine Ev.goto (tgt := 7) d_Mo_layRows_23 rfl ?_
    exact g1
theorem c_Mo_layRows (hM : MoS σ) : ∃ m', Call 2 m_Mo_layRows [vr 57] σ m none σ m' ∧ FrR m m' ∧ m' 57 27 = 73 ∧ Laid m' 73 := by
  obtain ⟨mF, g1, g2⟩ := lpz_Mo_layRows hM (r := none) (Post := fun mF => FrR m mF ∧ mF 57 27 = 73 ∧ Laid mF 73) 12 0 (mu m 57 27 0) rfl (by decide) (fun j a b => by exfalso; omega) (fun m' f1 f2 => by
    obtain ⟨mF, g1, g2, g3⟩ := lpo_Mo_layRows hM TL [] 0 m' none none none Chn_TL rfl (by decide) (fun j a b => by rw [f2 j a b]; rfl) (fun x h => by cases h) (by decide) ((f1 57 27 (by decide)).trans mu_s) (fun i hi => by exfalso; omega)
    exact ⟨mF, g1, FrR.tr (fun a j x1 x2 x3 x4 x5 => (f1 a j x5).trans (mu_n (by omega))) g2, g3⟩)
  refine ⟨mF, ?_, g2⟩
  show Ev 2 m_Mo_layRows 0 [some (vr 57), none, none, none, none] [] σ m _ σ mF
  refine Ev.aload_n d_Mo_layRows_0 rfl ?_
  refine Ev.iconst d_Mo_layRows_1 ?_
  refine Ev.pf 27 d_Mo_layRows_2 lf_Mo_256 rfl rfl rfl rfl (is_57 hM) (by decide) ?_
  refine Ev.iconst d_Mo_layRows_5 ?_
  refine Ev.istore_1 d_Mo_layRows_6 rfl ?_
  exact g1
end
