/-! powers -/
def PowS (σ : Sg) (c : Int) : Prop := 3 ≤ c ∧ Is σ c 3 0 ∧ Is σ (c + 1) 101 37 ∧ Is σ (c + 2) 101 37 ∧ σ.2.2.2.2 c 0 = c + 1 ∧ σ.2.2.2.2 c 1 = c + 2
def PwM (m : Mm) (c : Int) (P : Int → Int) (r : Int) : Prop := m c 2 = r ∧ (0 ≤ r ∧ r ≤ 18) ∧ (∀ j : Int, 0 ≤ j → j < 37 → m (c + 1) j = P j) ∧ ∀ j : Int, (j < 18 - r ∨ 18 + r < j) → P j = 0
def seB (w : Int) (P : Int → Int) (lo I j : Int) : Nat → Int → Int
  | 0, _ => 0
  | n + 1, e => (if lo ≤ j - e ∧ j - e < I then (w - ab e) * P (j - e) else 0) + seB w P lo I j n (e + 1)
theorem seB_0 {w lo I j : Int} {P : Int → Int} (h : I ≤ lo) : ∀ (n : Nat) (e : Int), seB w P lo I j n e = 0
  | 0, _ => rfl
  | n + 1, e => by
    simp only [seB]
    rw [if_neg (by omega), seB_0 h n (e + 1)]; rfl
theorem seB_s {w lo I j : Int} {P : Int → Int} (h : lo ≤ I) : ∀ (n : Nat) (e : Int), seB w P lo (I + 1) j n e = seB w P lo I j n e + (if e ≤ j - I ∧ j - I < e + n then (w - ab (j - I)) * P I else 0)
  | 0, e => by simp only [seB]; rw [if_neg (by omega)]; rfl
  | n + 1, e => by
    simp only [seB]
    rw [seB_s h n (e + 1)]
    by_cases c : e = j - I
    · have c2 : j - e = I := by omega
      rw [c2, if_pos (by omega), if_neg (by omega), if_neg (by omega), if_pos (by omega), c]; omega
    · by_cases c3 : lo ≤ j - e ∧ j - e < I
      · rw [if_pos (by omega), if_pos c3]
        by_cases c4 : e + 1 ≤ j - I ∧ j - I < e + 1 + n
        · rw [if_pos c4, if_pos (by omega)]; omega
        · rw [if_neg c4, if_neg (by omega)]; omega
      · rw [if_neg (by omega), if_neg c3]
        by_cases c4 : e + 1 ≤ j - I ∧ j - I < e + 1 + n
        · rw [if_pos c4, if_pos (by omega)]; omega
        · rw [if_neg c4, if_neg (by omega)]; omega
theorem seB_se {w r j : Int} {P : Int → Int} (hr : 0 ≤ r ∧ r ≤ 18) (hz : ∀ j : Int, (j < 18 - r ∨ 18 + r < j) → P j = 0) : ∀ (n : Nat) (e : Int), seB w P (18 - r) (18 + r + 1) j n e = se w P j n e
  | 0, _ => rfl
  | n + 1, e => by
    simp only [seB, se]
    rw [seB_se hr hz n (e + 1)]
    by_cases c : 18 - r ≤ j - e ∧ j - e < 18 + r + 1
    · rw [if_pos c, if_pos (by omega)]
    · rw [if_neg c, hz (j - e) (by omega)]; split <;> simp
theorem se_z {w r j : Int} {P : Int → Int} (hz : ∀ j : Int, (j < 18 - r ∨ 18 + r < j) → P j = 0) : ∀ (n : Nat) (e : Int), 1 - w ≤ e → e + n ≤ w → (j < 18 - (r + w - 1) ∨ 18 + (r + w - 1) < j) → se w P j n e = 0
  | 0, _, _, _, _ => rfl
  | n + 1, e, h1, h2, h3 => by
    simp only [se]
    rw [hz (j - e) (by omega), se_z hz n (e + 1) (by omega) (by omega) h3]; split <;> simp
theorem stp_z {w r : Int} {P : Int → Int} (hw : 1 ≤ w) (hz : ∀ j : Int, (j < 18 - r ∨ 18 + r < j) → P j = 0) : ∀ j : Int, (j < 18 - (r + w - 1) ∨ 18 + (r + w - 1) < j) → stp w P j = 0 := fun j h => se_z hz _ _ (by omega) (by omega) h
theorem stp_1 {P : Int → Int} {j : Int} (h : 0 ≤ j ∧ j < 37) : stp 1 P j = P j := by
  show (if 0 ≤ j - 0 ∧ j - 0 ≤ 36 then (1 - ab 0) * P (j - 0) else 0) + 0 = P j
  rw [Int.sub_zero, if_pos (by omega), show (1 - ab 0 : Int) = 1 from rfl]; omega
theorem ab_if (e : Int) : (if 0 ≤ e then e else -e) = ab e := by unfold ab; split <;> split <;> omega
section
variable {σ : Sg} {m : Mm}
theorem lpe_Pow_mul {c w k f : Int} {Pw : Int → Int} (hP : PowS σ c) (hw : 2 ≤ w ∧ w ≤ 4) (hk : w - 1 ≤ 18 + k ∧ 18 + k + w ≤ 37) {Post : Mm → Prop} : ∀ (q : Nat) (e : Int) (m : Mm) (Q : Int → Int), e + q = w → 1 - w ≤ e → m (c + 1) (18 + k) = Pw (18 + k) → (∀ j : Int, 0 ≤ j → j < 37 → m (c + 2) j = Q j) → (∀ m' : Mm, (∀ b j : Int, b ≠ c + 2 → m' b j = m b j) → (∀ j : Int, 0 ≤ j → j < 37 → m' (c + 2) j = Q j + (if e ≤ j - (18 + k) ∧ j - (18 + k) < w then (w - ab (j - (18 + k))) * Pw (18 + k) else 0)) → ∃ mF, Ev 2 m_Pow_multiply 93 [some (vr c), some (vi w), some (vi f), some (vi k), some (vi w)] [] σ m' none σ mF ∧ Post mF) → ∃ mF, Ev 2 m_Pow_multiply 48 [some (vr c), some (vi w), some (vi f), some (vi k), some (vi e)] [] σ m none σ mF ∧ Post mF
  | 0, e, m, Q, he, h1, hr, hQ, cont => by
    have e' : e = w := by omega
    obtain ⟨mF, g1, g2⟩ := cont m (fun _ _ _ => rfl) (fun j a b => by rw [if_neg (by omega), hQ j a b]; omega)
    refine ⟨mF, ?_, g2⟩
    rw [e']
    refine Ev.iload d_Pow_multiply_48 rfl ?_
    refine Ev.iload_n d_Pow_multiply_50 rfl ?_
    refine Ev.icmp_ge (tgt := 93) d_Pow_multiply_51 rfl (by first | omega | (simp [mu]; done) | (simp [mu]; omega)) (by first | omega | (simp [mu]; done) | (simp [mu]; omega)) (fun hb51 => ?_) (fun hb51 => by exfalso; first | omega | simp at hb51 | contradiction)
    exact g1
  | q + 1, e, m, Q, he, h1, hr, hQ, cont => by
    have hq := hQ (18 + k + e) (by omega) (by omega)
    have hab := ab_if e
    have hae : 0 ≤ ab e ∧ ab e ≤ 4 := by unfold ab; split <;> omega
    obtain ⟨mF, g1, g2⟩ := lpe_Pow_mul hP hw hk (Post := Post) (f := f) (Pw := Pw) q (e + 1) (mu m (c + 2) (18 + k + e) (Q (18 + k + e) + (w - ab e) * Pw (18 + k))) (fun j => if j = 18 + k + e then Q (18 + k + e) + (w - ab e) * Pw (18 + k) else Q j) (by omega) (by omega) (by rw [mu_a (by omega)]; exact hr) (fun j a b => by
      show _ = if j = 18 + k + e then Q (18 + k + e) + (w - ab e) * Pw (18 + k) else Q j
      by_cases ej : j = 18 + k + e
      · rw [if_pos ej, ej, mu_s]
      · rw [if_neg ej, mu_n (Or.inr ej)]; exact hQ j a b) (fun m' f1 f2 => cont m' (fun b j h => (f1 b j h).trans (mu_a h)) (fun j a b => by
        rw [f2 j a b]
        show (if j = 18 + k + e then Q (18 + k + e) + (w - ab e) * Pw (18 + k) else Q j) + _ = _
        by_cases ej : j = 18 + k + e
        · rw [if_pos ej, if_neg (by omega), if_pos (by omega), ej, show 18 + k + e - (18 + k) = e by omega]; omega
        · rw [if_neg ej]
          by_cases c1 : e + 1 ≤ j - (18 + k) ∧ j - (18 + k) < w
          · rw [if_pos c1, if_pos (by omega)]
          · rw [if_neg c1, if_neg (by omega)]))
    refine ⟨mF, ?_, g2⟩
    refine Ev.iload d_Pow_multiply_48 rfl ?_
    refine Ev.iload_n d_Pow_multiply_50 rfl ?_
    refine Ev.icmp_ge (tgt := 93) d_Pow_multiply_51 rfl (by first | omega | (simp [mu]; done) | (simp [mu]; omega)) (by first | omega | (simp [mu]; done) | (simp [mu]; omega)) (fun hb51 => by exfalso; first | omega | simp at hb51 | contradiction) (fun hb51 => ?_)
    refine Ev.aload_n d_Pow_multiply_54 rfl ?_
    refine Ev.gr 1 d_Pow_multiply_55 lf_Pow_15 rfl rfl hP.2.1 (by decide) hP.2.2.2.2.2 ?_
    refine Ev.bipush d_Pow_multiply_58 rfl ?_
    refine Ev.iload_n d_Pow_multiply_60 rfl ?_
    refine Ev.iadd d_Pow_multiply_61 ?_
    refine Ev.iload d_Pow_multiply_62 rfl ?_
    refine Ev.iadd d_Pow_multiply_64 ?_
    refine Ev.dup2 d_Pow_multiply_65 rfl rfl ?_
    refine Ev.laload d_Pow_multiply_66 hP.2.2.2.1 (by first | omega | (simp [mu]; done) | (simp [mu]; omega)) ?_
    rw [hq]
    refine Ev.iload_n d_Pow_multiply_67 rfl ?_
    refine Ev.iload d_Pow_multiply_68 rfl ?_
    refine Ev.mabs d_Pow_multiply_70 lk_Pow_41 (by first | omega | (simp [mu]; done) | (simp [mu]; omega)) rfl (Nat.le_of_ble_eq_true rfl) (by decide) ?_
    rw [hab]
    refine Ev.isub d_Pow_multiply_73 ?_
    refine Ev.i2l d_Pow_multiply_74 (by first | omega | (simp [mu]; done) | (simp [mu]; omega)) ?_
    refine Ev.aload_n d_Pow_multiply_75 rfl ?_
    refine Ev.gr 0 d_Pow_multiply_76 lf_Pow_11 rfl rfl hP.2.1 (by decide) hP.2.2.2.2.1 ?_
    refine Ev.bipush d_Pow_multiply_79 rfl ?_
    refine Ev.iload_n d_Pow_multiply_81 rfl ?_
    refine Ev.iadd d_Pow_multiply_82 ?_
    refine Ev.laload d_Pow_multiply_83 hP.2.2.1 (by first | omega | (simp [mu]; done) | (simp [mu]; omega)) ?_
    rw [hr]
    refine Ev.lmul d_Pow_multiply_84 ?_
    refine Ev.ladd d_Pow_multiply_85 ?_
    refine Ev.lastore d_Pow_multiply_86 hP.2.2.2.1 (by have := hP.1; omega) (by first | omega | (simp [mu]; done) | (simp [mu]; omega)) ?_
    refine Ev.iinc_4 d_Pow_multiply_87 rfl ?_
    refine Ev.goto (tgt := 48) d_Pow_multiply_90 rfl ?_
    exact g1
theorem lpk_Pow_mul {c w f r : Int} {Pw : Int → Int} (hP : PowS σ c) (hw : 2 ≤ w ∧ w ≤ 4) (hr : 0 ≤ r ∧ r + w - 1 ≤ 18) {Post : Mm → Prop} : ∀ (q : Nat) (k : Int) (m : Mm) (x4 : Option AV), k + q = r + 1 → -r ≤ k → m c 2 = r → (∀ j : Int, 0 ≤ j → j < 37 → m (c + 1) j = Pw j) → (∀ j : Int, 0 ≤ j → j < 37 → m (c + 2) j = seB w Pw (18 - r) (18 + k) j (2 * w - 1).toNat (1 - w)) → (∀ (m' : Mm) (k : Int) (x4 : Option AV), (∀ b j : Int, b ≠ c + 2 → m' b j = m b j) → (∀ j : Int, 0 ≤ j → j < 37 → m' (c + 2) j = seB w Pw (18 - r) (18 + r + 1) j (2 * w - 1).toNat (1 - w)) → ∃ mF, Ev 2 m_Pow_multiply 99 [some (vr c), some (vi w), some (vi f), some (vi k), x4] [] σ m' none σ mF ∧ Post mF) → ∃ mF, Ev 2 m_Pow_multiply 35 [some (vr c), some (vi w), some (vi f), some (vi k), x4] [] σ m none σ mF ∧ Post mF
  | 0, k, m, x4, hk, h1, hc, hR, hQ, cont => by
    have e : k = r + 1 := by omega
    obtain ⟨mF, g1, g2⟩ := cont m k x4 (fun _ _ _ => rfl) (fun j a b => by rw [hQ j a b, e, Int.add_assoc])
    refine ⟨mF, ?_, g2⟩
    refine Ev.iload_n d_Pow_multiply_35 rfl ?_
    refine Ev.aload_n d_Pow_multiply_36 rfl ?_
    refine Ev.gf 2 d_Pow_multiply_37 lf_Pow_24 rfl rfl hP.2.1 (by decide) ?_
    rw [hc]
    refine Ev.icmp_gt (tgt := 99) d_Pow_multiply_40 rfl (by first | omega | (simp [mu]; done) | (simp [mu]; omega)) (by first | omega | (simp [mu]; done) | (simp [mu]; omega)) (fun hb40 => ?_) (fun hb40 => by exfalso; first | omega | simp at hb40 | contradiction)
    exact g1
  | q + 1, k, m, x4, hk, h1, hc, hR, hQ, cont => by
    obtain ⟨mF, g1, g2⟩ := lpe_Pow_mul hP hw (k := k) (by omega) (Post := Post) (f := f) (Pw := Pw) (2 * w - 1).toNat (1 - w) m _ (by omega) (by omega) (hR _ (by omega) (by omega)) hQ (fun m1 f1 q1 => by
      obtain ⟨mF, g1, g2⟩ := lpk_Pow_mul hP hw hr (Post := Post) (f := f) (Pw := Pw) q (k + 1) m1 (some (vi w)) (by omega) (by omega) ((f1 c 2 (by omega)).trans hc) (fun j a b => (f1 _ _ (by omega)).trans (hR j a b)) (fun j a b => by
        rw [q1 j a b, ← Int.add_assoc, seB_s (by omega)]
        congr 1
        by_cases c1 : 1 - w ≤ j - (18 + k) ∧ j - (18 + k) < w
        · rw [if_pos c1, if_pos (by omega)]
        · rw [if_neg c1, if_neg (by omega)]) (fun m2 k2 x4 f2 => cont m2 k2 x4 (fun b j h => (f2 b j h).trans (f1 b j h)))
      refine ⟨mF, ?_, g2⟩
      refine Ev.iinc_3 d_Pow_multiply_93 rfl ?_
      refine Ev.goto (tgt := 35) d_Pow_multiply_96 rfl ?_
      exact g1)
    refine ⟨mF, ?_, g2⟩
    refine Ev.iload_n d_Pow_multiply_35 rfl ?_
    refine Ev.aload_n d_Pow_multiply_36 rfl ?_
    refine Ev.gf 2 d_Pow_multiply_37 lf_Pow_24 rfl rfl hP.2.1 (by decide) ?_
    rw [hc]
    refine Ev.icmp_gt (tgt := 99) d_Pow_multiply_40 rfl (by first | omega | (simp [mu]; done) | (simp [mu]; omega)) (by first | omega | (simp [mu]; done) | (simp [mu]; omega)) (fun hb40 => by exfalso; first | omega | simp at hb40 | contradiction) (fun hb40 => ?_)
    refine Ev.iconst d_Pow_multiply_43 ?_
    refine Ev.iload_n d_Pow_multiply_44 rfl ?_
    refine Ev.isub d_Pow_multiply_45 ?_
    refine Ev.istore_4 d_Pow_multiply_46 rfl ?_
    exact g1
theorem c_Pow_multiply {c w r : Int} {Pw : Int → Int} (hP : PowS σ c) (hw : 1 ≤ w ∧ w ≤ 4) (hr : r + w - 1 ≤ 18) (hm : PwM m c Pw r) : ∃ m', Call 2 m_Pow_multiply [vr c, vi w] σ m none σ m' ∧ PwM m' c (stp w Pw) (r + w - 1) ∧ FrA c m m' := by
  have e0 := hm.1
  have hr0 := hm.2.1
  by_cases h1 : w = 1
  · subst h1
    refine ⟨m, ?_, ⟨by omega, by omega, fun j a b => by rw [hm.2.2.1 j a b, stp_1 ⟨a, b⟩], stp_z (by decide) hm.2.2.2⟩, FrA.rf⟩
    show Ev 2 m_Pow_multiply 0 [some (vr c), some (vi 1), none, none, none] [] σ m _ σ _
    refine Ev.aload_n d_Pow_multiply_0 rfl ?_
    refine Ev.gf 2 d_Pow_multiply_1 lf_Pow_24 rfl rfl hP.2.1 (by decide) ?_
    rw [e0]
    refine Ev.iload_n d_Pow_multiply_4 rfl ?_
    refine Ev.iadd d_Pow_multiply_5 ?_
    refine Ev.iconst d_Pow_multiply_6 ?_
    refine Ev.isub d_Pow_multiply_7 ?_
    refine Ev.istore_2 d_Pow_multiply_8 rfl ?_
    refine Ev.iload_n d_Pow_multiply_9 rfl ?_
    refine Ev.iconst d_Pow_multiply_10 ?_
    refine Ev.icmp_le (tgt := 20) d_Pow_multiply_11 rfl (by first | omega | (simp [mu]; done) | (simp [mu]; omega)) (by first | omega | (simp [mu]; done) | (simp [mu]; omega)) (fun hb11 => ?_) (fun hb11 => by exfalso; first | omega | simp at hb11 | contradiction)
    exact Ev.to (Ev.return d_Pow_multiply_20 rfl) rfl rfl
  · have e1 : ms m (c + 2) 0 37 (fun _ => 0) c 2 = r := by rw [ms_a (by omega)]; exact e0
    obtain ⟨mF, g1, g2⟩ := lpk_Pow_mul hP (w := w) (by omega) (r := r) (by omega) (f := r + w - 1) (Pw := Pw) (Post := fun mF => PwM mF c (stp w Pw) (r + w - 1) ∧ FrA c m mF) (2 * r + 1).toNat (-r) (ms m (c + 2) 0 37 (fun _ => 0)) none (by omega) (by omega) e1 (fun j a b => by rw [ms_a (by omega)]; exact hm.2.2.1 j a b) (fun j a b => by rw [ms_in ⟨a, b⟩, seB_0 (by omega)]) (fun m1 k x4 f1 q1 => by
      have f2 : ∀ b j : Int, b ≠ c + 2 → m1 b j = m b j := fun b j h => (f1 b j h).trans (ms_a h)
      refine ⟨mu (mcp m1 (c + 2) 0 (c + 1) 0 37) c 2 (r + w - 1), ?_, ⟨mu_s, by omega, fun j a b => ?_, stp_z hw.1 hm.2.2.2⟩, fun b j x y z => ?_⟩
      rotate_left
      · rw [mu_a (by omega), mcp_in (by omega), show (0 : Int) + (j - 0) = j by omega, q1 j a b, seB_se hr0 hm.2.2.2]; rfl
      · rw [mu_a x, mcp_out (by omega)]; exact f2 b j z
      refine Ev.aload_n d_Pow_multiply_99 rfl ?_
      refine Ev.gr 1 d_Pow_multiply_100 lf_Pow_15 rfl rfl hP.2.1 (by decide) hP.2.2.2.2.2 ?_
      refine Ev.iconst d_Pow_multiply_103 ?_
      refine Ev.aload_n d_Pow_multiply_104 rfl ?_
      refine Ev.gr 0 d_Pow_multiply_105 lf_Pow_11 rfl rfl hP.2.1 (by decide) hP.2.2.2.2.1 ?_
      refine Ev.iconst d_Pow_multiply_108 ?_
      refine Ev.bipush d_Pow_multiply_109 rfl ?_
      refine Ev.copy d_Pow_multiply_111 lk_Pow_46 nt_copy st_copy ini_sys (Or.inr rfl) hP.2.2.2.1 hP.2.2.1 ⟨(by have := hP.1; omega), (by have := hP.1; omega)⟩ (by first | omega | (simp [mu]; done) | (simp [mu]; omega)) (by first | omega | (simp [mu]; done) | (simp [mu]; omega)) (by omega) rfl (Nat.le_of_ble_eq_true rfl) (by decide) ?_
      refine Ev.aload_n d_Pow_multiply_114 rfl ?_
      refine Ev.iload_n d_Pow_multiply_115 rfl ?_
      refine Ev.pf 2 d_Pow_multiply_116 lf_Pow_24 rfl rfl rfl rfl hP.2.1 (by decide) ?_
      exact Ev.to (Ev.return d_Pow_multiply_119 rfl) rfl rfl)
    refine ⟨mF, ?_, g2⟩
    show Ev 2 m_Pow_multiply 0 [some (vr c), some (vi w), none, none, none] [] σ m _ σ _
    refine Ev.aload_n d_Pow_multiply_0 rfl ?_
    refine Ev.gf 2 d_Pow_multiply_1 lf_Pow_24 rfl rfl hP.2.1 (by decide) ?_
    rw [e0]
    refine Ev.iload_n d_Pow_multiply_4 rfl ?_
    refine Ev.iadd d_Pow_multiply_5 ?_
    refine Ev.iconst d_Pow_multiply_6 ?_
    refine Ev.isub d_Pow_multiply_7 ?_
    refine Ev.istore_2 d_Pow_multiply_8 rfl ?_
    refine Ev.iload_n d_Pow_multiply_9 rfl ?_
    refine Ev.iconst d_Pow_multiply_10 ?_
    refine Ev.icmp_le (tgt := 20) d_Pow_multiply_11 rfl (by first | omega | (simp [mu]; done) | (simp [mu]; omega)) (by first | omega | (simp [mu]; done) | (simp [mu]; omega)) (fun hb11 => by exfalso; first | omega | simp at hb11 | contradiction) (fun hb11 => ?_)
    refine Ev.iload_n d_Pow_multiply_14 rfl ?_
    refine Ev.bipush d_Pow_multiply_15 rfl ?_
    refine Ev.icmp_le (tgt := 21) d_Pow_multiply_17 rfl (by first | omega | (simp [mu]; done) | (simp [mu]; omega)) (by first | omega | (simp [mu]; done) | (simp [mu]; omega)) (fun hb17 => ?_) (fun hb17 => by exfalso; first | omega | simp at hb17 | contradiction)
    refine Ev.aload_n d_Pow_multiply_21 rfl ?_
    refine Ev.gr 1 d_Pow_multiply_22 lf_Pow_15 rfl rfl hP.2.1 (by decide) hP.2.2.2.2.2 ?_
    refine Ev.lconst (x := 0) d_Pow_multiply_25 rfl ?_
    refine Ev.callSv d_Pow_multiply_26 mt_Arr_fillL lk_Pow_18 st_Arr_fillL rfl (Nat.le_of_ble_eq_true rfl) rfl (Nat.le_of_ble_eq_true rfl) (by decide) rfl (c_Arr_fillL hP.2.2.2.1 (by have := hP.1; omega) (by decide)) ?_
    refine Ev.aload_n d_Pow_multiply_29 rfl ?_
    refine Ev.gf 2 d_Pow_multiply_30 lf_Pow_24 rfl rfl hP.2.1 (by decide) ?_
    rw [e1]
    refine Ev.ineg d_Pow_multiply_33 ?_
    refine Ev.istore_3 d_Pow_multiply_34 rfl ?_
    exact g1
def rem (l : List Int) : Nat → Int → Int
  | 0, _ => 0
  | q + 1, x => cn x l + rem l q (x + 1)
theorem rem_cons (s : Int) (t : List Int) : ∀ (q : Nat) (x : Int), rem (s :: t) q x = rem t q x + (if x ≤ s ∧ s < x + q then 1 else 0)
  | 0, x => by rw [if_neg (by omega)]; rfl
  | q + 1, x => by
    simp only [rem, cn]
    rw [rem_cons s t q (x + 1)]
    by_cases e : s = x
    · rw [if_pos e, if_neg (by omega), if_pos (by omega)]; omega
    · rw [if_neg e]
      by_cases h : x + 1 ≤ s ∧ s < x + 1 + q
      · rw [if_pos h, if_pos (by omega)]; omega
      · rw [if_neg h, if_neg (by omega)]; omega
theorem rem_len : ∀ l : List Int, (∀ y ∈ l, 0 ≤ y ∧ y < 24) → rem l 24 0 = l.length
  | [], _ => by decide
  | s :: t, h => by
    have hs := h s List.mem_cons_self
    rw [rem_cons, rem_len t (fun y hy => h y (List.mem_cons_of_mem _ hy)), if_pos (by omega), List.length_cons]; omega
theorem rem_b (l : List Int) : ∀ (q : Nat) (x : Int), 0 ≤ rem l q x
  | 0, _ => Int.le_refl 0
  | q + 1, x => by
    have h1 := cn_b x l
    have h2 := rem_b l q (x + 1)
    simp only [rem]; omega
def Gw (s : Int) (p : (Int → Int) × Int) : (Int → Int) × Int := (stp (wS s) p.1, p.2 + wS s - 1)
def Fw (x n : Int) (p : (Int → Int) × Int) : (Int → Int) × Int := itn (Gw x) n.toNat p
theorem gfold_pw : ∀ (l : List Int) (p : (Int → Int) × Int), (gfold Gw l p).1 = pwL l p.1
  | [], _ => rfl
  | s :: t, p => gfold_pw t (Gw s p)
theorem lpi_Pow_exp {c a d x : Int} {l : List Int} (hP : PowS σ c) (hA : PicS σ a) (hca : a + 2 < c ∨ c + 2 < a) (hx : 0 ≤ x ∧ x < 24) (h6 : l.length ≤ 6) {R : Int} (hR : 0 ≤ R) {Post : Mm → Prop} : ∀ (q : Nat) (s : Int) (m : Mm) (p : (Int → Int) × Int), s + q = cn x l → 0 ≤ s → PicM m a d l → PwM m c p.1 p.2 → p.2 + 3 * q + R ≤ 18 → (∀ m' : Mm, FrA c m m' → PwM m' c (itn (Gw x) q p).1 (itn (Gw x) q p).2 → (itn (Gw x) q p).2 + R ≤ 18 → ∃ mF, Ev 3 m_Pow_expand 59 [some (vr c), some (vr a), some (vi x), some (vi (cn x l))] [] σ m' none σ mF ∧ Post mF) → ∃ mF, Ev 3 m_Pow_expand 36 [some (vr c), some (vr a), some (vi x), some (vi s)] [] σ m none σ mF ∧ Post mF
  | 0, s, m, p, hs, h0, hm, hp, hb, cont => by
    have e : s = cn x l := by omega
    have b := cn_b x l
    obtain ⟨mF, g1, g2⟩ := cont m FrA.rf hp (by simp only [itn]; omega)
    refine ⟨mF, ?_, g2⟩
    rw [e]
    refine Ev.iload_n d_Pow_expand_36 rfl ?_
    refine Ev.aload_n d_Pow_expand_37 rfl ?_
    refine Ev.iload_n d_Pow_expand_38 rfl ?_
    refine Ev.callV d_Pow_expand_39 mt_Pic_amountAt lk_Pow_28 in_Pic_amountAt se_Pic_amountAt rfl (Nat.le_of_ble_eq_true rfl) rfl (Nat.le_of_ble_eq_true rfl) (by decide) hA.2.1 (by decide) rfl rfl (c_Pic_amountAt hA hm hx) ?_
    refine Ev.icmp_ge (tgt := 59) d_Pow_expand_42 rfl (by first | omega | (simp [mu]; done) | (simp [mu]; omega)) (by first | omega | (simp [mu]; done) | (simp [mu]; omega)) (fun hb42 => ?_) (fun hb42 => by exfalso; first | omega | simp at hb42 | contradiction)
    exact g1
  | q + 1, s, m, p, hs, h0, hm, hp, hb, cont => by
    have b := cn_b x l
    have bw := wS_b x
    obtain ⟨m1, q1, q2, q3⟩ := c_Pow_multiply hP (w := wS x) bw (r := p.2) (by omega) hp
    obtain ⟨mF, g1, g2⟩ := lpi_Pow_exp hP hA hca hx h6 hR (Post := Post) q (s + 1) m1 (Gw x p) (by omega) (by omega) (PicM_fr hm (fun b j h1 h2 => q3 b j (by omega) (by omega) (by omega))) q2 (by simp only [Gw]; omega) (fun m' f1 p1 r1 => cont m' (q3.tr f1) p1 r1)
    refine ⟨mF, ?_, g2⟩
    refine Ev.iload_n d_Pow_expand_36 rfl ?_
    refine Ev.aload_n d_Pow_expand_37 rfl ?_
    refine Ev.iload_n d_Pow_expand_38 rfl ?_
    refine Ev.callV d_Pow_expand_39 mt_Pic_amountAt lk_Pow_28 in_Pic_amountAt se_Pic_amountAt rfl (Nat.le_of_ble_eq_true rfl) rfl (Nat.le_of_ble_eq_true rfl) (by decide) hA.2.1 (by decide) rfl rfl (c_Pic_amountAt hA hm hx) ?_
    refine Ev.icmp_ge (tgt := 59) d_Pow_expand_42 rfl (by first | omega | (simp [mu]; done) | (simp [mu]; omega)) (by first | omega | (simp [mu]; done) | (simp [mu]; omega)) (fun hb42 => by exfalso; first | omega | simp at hb42 | contradiction) (fun hb42 => ?_)
    refine Ev.aload_n d_Pow_expand_45 rfl ?_
    refine Ev.iload_n d_Pow_expand_46 rfl ?_
    refine Ev.callSN d_Pow_expand_47 mt_FC_weightOf lk_Pow_34 st_FC_weightOf rfl (Nat.le_of_ble_eq_true rfl) rfl (Nat.le_of_ble_eq_true rfl) (by decide) rfl (c_FC_weightOf hx) ?_
    refine Ev.callVv d_Pow_expand_50 mt_Pow_multiply lk_Pow_37 in_Pow_multiply se_Pow_multiply rfl (Nat.le_of_ble_eq_true rfl) rfl (Nat.le_of_ble_eq_true rfl) (by decide) hP.2.1 (by decide) rfl rfl q1 ?_
    refine Ev.iinc_3 d_Pow_expand_53 rfl ?_
    refine Ev.goto (tgt := 36) d_Pow_expand_56 rfl ?_
    exact g1
theorem lp_Pow_exp {c a d : Int} {l : List Int} (hP : PowS σ c) (hA : PicS σ a) (hca : a + 2 < c ∨ c + 2 < a) (h6 : l.length ≤ 6) : ∀ (q : Nat) (x : Int) (m : Mm) (p : (Int → Int) × Int) (x3 : Option AV), x + q = 24 → 0 ≤ x → PicM m a d l → PwM m c p.1 p.2 → p.2 + 3 * rem l q x ≤ 18 → ∃ mF, Ev 3 m_Pow_expand 28 [some (vr c), some (vr a), some (vi x), x3] [] σ m none σ mF ∧ PwM mF c (spf Fw l q x p).1 (spf Fw l q x p).2 ∧ FrA c m mF
  | 0, x, m, p, x3, hx, h0, hm, hp, hb => by
    refine ⟨m, ?_, hp, FrA.rf⟩
    refine Ev.iload_n d_Pow_expand_28 rfl ?_
    refine Ev.bipush d_Pow_expand_29 rfl ?_
    refine Ev.icmp_ge (tgt := 65) d_Pow_expand_31 rfl (by first | omega | (simp [mu]; done) | (simp [mu]; omega)) (by first | omega | (simp [mu]; done) | (simp [mu]; omega)) (fun hb31 => ?_) (fun hb31 => by exfalso; first | omega | simp at hb31 | contradiction)
    exact Ev.to (Ev.return d_Pow_expand_65 rfl) rfl rfl
  | q + 1, x, m, p, x3, hx, h0, hm, hp, hb => by
    have b := cn_b x l
    have rb := rem_b l q (x + 1)
    simp only [rem] at hb
    obtain ⟨mF, g1, g2⟩ := lpi_Pow_exp hP hA hca (x := x) (by omega) h6 (R := 3 * rem l q (x + 1)) (by omega) (Post := fun mF => PwM mF c (spf Fw l (q + 1) x p).1 (spf Fw l (q + 1) x p).2 ∧ FrA c m mF) (cn x l).toNat 0 m p (by omega) (by decide) hm hp (by omega) (fun m1 f1 p1 r1 => by
      obtain ⟨mF, g1, g2, g3⟩ := lp_Pow_exp hP hA hca h6 q (x + 1) m1 (itn (Gw x) (cn x l).toNat p) (some (vi (cn x l))) (by omega) (by omega) (PicM_fr hm (fun b j h1 h2 => f1 b j (by omega) (by omega) (by omega))) p1 r1
      refine ⟨mF, ?_, g2, f1.tr g3⟩
      refine Ev.iinc_2 d_Pow_expand_59 rfl ?_
      refine Ev.goto (tgt := 28) d_Pow_expand_62 rfl ?_
      exact g1)
    refine ⟨mF, ?_, g2⟩
    refine Ev.iload_n d_Pow_expand_28 rfl ?_
    refine Ev.bipush d_Pow_expand_29 rfl ?_
    refine Ev.icmp_ge (tgt := 65) d_Pow_expand_31 rfl (by first | omega | (simp [mu]; done) | (simp [mu]; omega)) (by first | omega | (simp [mu]; done) | (simp [mu]; omega)) (fun hb31 => by exfalso; first | omega | simp at hb31 | contradiction) (fun hb31 => ?_)
    refine Ev.iconst d_Pow_expand_34 ?_
    refine Ev.istore_3 d_Pow_expand_35 rfl ?_
    exact g1
theorem c_Pow_expand {c a d : Int} {l : List Int} (hP : PowS σ c) (hA : PicS σ a) (hca : a + 2 < c ∨ c + 2 < a) (hm : PicM m a d l) (hK : PK d l) : ∃ m', Call 3 m_Pow_expand [vr c, vr a] σ m none σ m' ∧ (∃ r, PwM m' c (pwL l pw0) r) ∧ FrA c m m' := by
  have hl : ∀ y ∈ l, 0 ≤ y ∧ y < 24 := fun y hy => by have := hK.2.2.2 y hy; omega
  have h6 := hK.2.1
  have h3 := hA.1
  obtain ⟨mF, g1, g2, g3⟩ := lp_Pow_exp hP hA hca h6 24 0 (mu (mu (ms m (c + 1) 0 37 (fun _ => 0)) (c + 1) 18 1) c 2 0) (pw0, 0) none rfl (by decide) (PicM_fr hm (fun b j h1 h2 => by rw [mu_a (by omega), mu_a (by omega), ms_a (by omega)])) ⟨mu_s, by decide, fun j a b => by
    rw [mu_a (by omega)]
    show _ = (if j = 18 then (1 : Int) else 0)
    by_cases e : j = 18
    · rw [if_pos e, e, mu_s]
    · rw [if_neg e, mu_n (Or.inr e), ms_in ⟨a, b⟩], fun j h => by
    have h : j < 18 - 0 ∨ 18 + 0 < j := h
    exact if_neg (by omega)⟩ (by rw [rem_len l hl]; show (0 : Int) + _ ≤ _; omega)
  rw [spf_fold Fw Gw (fun x n a => by simp [Fw]) 24 0 l _ hK.2.2.1 (fun y hy => by have := hl y hy; omega), gfold_pw] at g2
  refine ⟨mF, ?_, ⟨_, g2⟩, fun b j x y z => (g3 b j x y z).trans (by rw [mu_a x, mu_a y, ms_a y])⟩
  show Ev 3 m_Pow_expand 0 [some (vr c), some (vr a), none, none] [] σ m _ σ _
  refine Ev.aload_n d_Pow_expand_0 rfl ?_
  refine Ev.gr 0 d_Pow_expand_1 lf_Pow_11 rfl rfl hP.2.1 (by decide) hP.2.2.2.2.1 ?_
  refine Ev.lconst (x := 0) d_Pow_expand_4 rfl ?_
  refine Ev.callSv d_Pow_expand_5 mt_Arr_fillL lk_Pow_18 st_Arr_fillL rfl (Nat.le_of_ble_eq_true rfl) rfl (Nat.le_of_ble_eq_true rfl) (by decide) rfl (c_Arr_fillL hP.2.2.1 (by have := hP.1; omega) (by decide)) ?_
  refine Ev.aload_n d_Pow_expand_8 rfl ?_
  refine Ev.gr 0 d_Pow_expand_9 lf_Pow_11 rfl rfl hP.2.1 (by decide) hP.2.2.2.2.1 ?_
  refine Ev.bipush d_Pow_expand_12 rfl ?_
  refine Ev.lconst (x := 1) d_Pow_expand_14 rfl ?_
  refine Ev.lastore d_Pow_expand_15 hP.2.2.1 (by have := hP.1; omega) (by first | omega | (simp [mu]; done) | (simp [mu]; omega)) ?_
  refine Ev.aload_n d_Pow_expand_16 rfl ?_
  refine Ev.iconst d_Pow_expand_17 ?_
  refine Ev.pf 2 d_Pow_expand_18 lf_Pow_24 rfl rfl rfl rfl hP.2.1 (by decide) ?_
  refine Ev.aload_n d_Pow_expand_21 rfl ?_
  refine Ev.ifnonnull (tgt := 26) d_Pow_expand_22 rfl (fun hb22 => ?_) (fun hb22 => by exfalso; first | omega | simp at hb22 | contradiction)
  refine Ev.iconst d_Pow_expand_26 ?_
  refine Ev.istore_2 d_Pow_expand_27 rfl ?_
  exact g1
theorem c_Pow_at {c r : Int} {Pw : Int → Int} (hP : PowS σ c) (hm : PwM m c Pw r) {k : Int} (h1 : -2147483648 ≤ k ∧ k ≤ 2147483647) : Call 1 m_Pow_at [vr c, vi k] σ m (some (vl (if -18 ≤ k ∧ k ≤ 18 then Pw (18 + k) else 0))) σ m := by
  have e0 := hm.1
  have hr := hm.2.1
  show Ev 1 m_Pow_at 0 [some (vr c), some (vi k)] [] σ m _ σ m
  by_cases hc : -r ≤ k ∧ k ≤ r
  · have e2 := hm.2.2.1 (18 + k) (by omega) (by omega)
    rw [if_pos (by omega)]
    refine Ev.iload_n d_Pow_at_0 rfl ?_
    refine Ev.aload_n d_Pow_at_1 rfl ?_
    refine Ev.gf 2 d_Pow_at_2 lf_Pow_24 rfl rfl hP.2.1 (by decide) ?_
    rw [e0]
    refine Ev.ineg d_Pow_at_5 ?_
    refine Ev.icmp_lt (tgt := 38) d_Pow_at_6 rfl (by first | omega | (simp [mu]; done) | (simp [mu]; omega)) (by first | omega | (simp [mu]; done) | (simp [mu]; omega)) (fun hb6 => by exfalso; first | omega | simp at hb6 | contradiction) (fun hb6 => ?_)
    refine Ev.iload_n d_Pow_at_9 rfl ?_
    refine Ev.aload_n d_Pow_at_10 rfl ?_
    refine Ev.gf 2 d_Pow_at_11 lf_Pow_24 rfl rfl hP.2.1 (by decide) ?_
    rw [e0]
    refine Ev.icmp_gt (tgt := 38) d_Pow_at_14 rfl (by first | omega | (simp [mu]; done) | (simp [mu]; omega)) (by first | omega | (simp [mu]; done) | (simp [mu]; omega)) (fun hb14 => by exfalso; first | omega | simp at hb14 | contradiction) (fun hb14 => ?_)
    refine Ev.aload_n d_Pow_at_17 rfl ?_
    refine Ev.gf 2 d_Pow_at_18 lf_Pow_24 rfl rfl hP.2.1 (by decide) ?_
    rw [e0]
    refine Ev.bipush d_Pow_at_21 rfl ?_
    refine Ev.icmp_gt (tgt := 38) d_Pow_at_23 rfl (by first | omega | (simp [mu]; done) | (simp [mu]; omega)) (by first | omega | (simp [mu]; done) | (simp [mu]; omega)) (fun hb23 => by exfalso; first | omega | simp at hb23 | contradiction) (fun hb23 => ?_)
    refine Ev.aload_n d_Pow_at_26 rfl ?_
    refine Ev.gr 0 d_Pow_at_27 lf_Pow_11 rfl rfl hP.2.1 (by decide) hP.2.2.2.2.1 ?_
    refine Ev.bipush d_Pow_at_30 rfl ?_
    refine Ev.iload_n d_Pow_at_32 rfl ?_
    refine Ev.iadd d_Pow_at_33 ?_
    refine Ev.laload d_Pow_at_34 hP.2.2.1 (by first | omega | (simp [mu]; done) | (simp [mu]; omega)) ?_
    rw [e2]
    refine Ev.goto (tgt := 39) d_Pow_at_35 rfl ?_
    exact Ev.to (Ev.lreturn d_Pow_at_39 rfl) rfl rfl
  · have e2 : (if -18 ≤ k ∧ k ≤ 18 then Pw (18 + k) else 0) = 0 := by rw [hm.2.2.2 (18 + k) (by omega)]; split <;> rfl
    rw [e2]
    refine Ev.iload_n d_Pow_at_0 rfl ?_
    refine Ev.aload_n d_Pow_at_1 rfl ?_
    refine Ev.gf 2 d_Pow_at_2 lf_Pow_24 rfl rfl hP.2.1 (by decide) ?_
    rw [e0]
    refine Ev.ineg d_Pow_at_5 ?_
    refine Ev.icmp_lt (tgt := 38) d_Pow_at_6 rfl (by first | omega | (simp [mu]; done) | (simp [mu]; omega)) (by first | omega | (simp [mu]; done) | (simp [mu]; omega)) (fun hb6 => ?_) (fun hb6 => ?_)
    · refine Ev.lconst (x := 0) d_Pow_at_38 rfl ?_
      exact Ev.to (Ev.lreturn d_Pow_at_39 rfl) rfl rfl
    · refine Ev.iload_n d_Pow_at_9 rfl ?_
      refine Ev.aload_n d_Pow_at_10 rfl ?_
      refine Ev.gf 2 d_Pow_at_11 lf_Pow_24 rfl rfl hP.2.1 (by decide) ?_
      rw [e0]
      refine Ev.icmp_gt (tgt := 38) d_Pow_at_14 rfl (by first | omega | (simp [mu]; done) | (simp [mu]; omega)) (by first | omega | (simp [mu]; done) | (simp [mu]; omega)) (fun hb14 => ?_) (fun hb14 => by exfalso; first | omega | simp at hb14 | contradiction)
      refine Ev.lconst (x := 0) d_Pow_at_38 rfl ?_
      exact Ev.to (Ev.lreturn d_Pow_at_39 rfl) rfl rfl
end
