section
variable {σ : Sg} {m : Mm}
/-! all rows reckoned; tangent -/
def DT (m : Mm) (t : Int) (r : Nat) : Prop := ∀ i : Nat, i < 73 → (rko i < t ∨ (rko i = t ∧ i < r)) → ∀ j : Int, 0 ≤ j → j ≤ 10 → m 82 (11 * i + j) = wtI i j
def Fr8 (m m' : Mm) : Prop := ∀ a j : Int, a ≠ 82 → a ≠ 83 → m' a j = m a j
theorem Fr8.tr {a b c : Mm} (h : Fr8 a b) (g : Fr8 b c) : Fr8 a c := fun x j h1 h2 => (g x j h1 h2).trans (h x j h1 h2)
def LD (m : Mm) : Prop := m 57 27 = 73 ∧ Laid m 73
theorem LD_fr {m' : Mm} (h : LD m) (f : Fr8 m m') : LD m' := ⟨(f _ _ (by decide) (by decide)).trans h.1, Laid_fr h.2 (fun a j x => f a j (by omega) (by omega))⟩
theorem lpr_Mo_layWorths (hM : MoS σ) {d b : Int} (hd : 1 ≤ d ∧ d ≤ 5) (hb : 0 ≤ b ∧ b ≤ 5) {Post : Mm → Prop} : ∀ (q r : Nat) (m : Mm), r + q = 73 → LD m → DT m (6 * d + b) r → (∀ m' : Mm, Fr8 m m' → DT m' (6 * d + b + 1) 0 → ∃ mF, Ev 4 m_Mo_layWorths 74 [some (vr 57), some (vi d), some (vi b), some (vi 73)] [] σ m' none σ mF ∧ Post mF) → ∃ mF, Ev 4 m_Mo_layWorths 35 [some (vr 57), some (vi d), some (vi b), some (vi r)] [] σ m none σ mF ∧ Post mF
  | 0, r, m, hr, hL, hD, c => by
    have e : r = 73 := by omega
    subst e
    have h27 := hL.1
    obtain ⟨mF, g1, g2⟩ := c m (fun _ _ _ _ => rfl) (fun i hi x => hD i hi (by omega))
    refine ⟨mF, ?_, g2⟩
    refine Ev.iload_n d_Mo_layWorths_35 rfl ?_
    refine Ev.aload_n d_Mo_layWorths_36 rfl ?_
    refine Ev.gf 27 d_Mo_layWorths_37 lf_Mo_256 rfl rfl (is_57 hM) (by decide) ?_
    refine Ev.icmp_ge (tgt := 74) d_Mo_layWorths_40 rfl (by first | omega | (simp [mu]; done) | (simp [mu]; omega)) (by first | omega | (simp [mu]; done) | (simp [mu]; omega)) (fun hb40 => ?_) (fun hb40 => by exfalso; first | omega | simp at hb40 | contradiction)
    exact g1
  | q + 1, r, m, hr, hL, hD, c => by
    have h27 := hL.1
    have h79 : m 79 r = tsum (rT r) := (hL.2 r (by omega)).1
    have h80 : m 80 r = nbK 12 (rT r) := (hL.2 r (by omega)).2.1
    have hib := rT_b r (by omega)
    by_cases hc : tsum (rT r) = d ∧ nbK 12 (rT r) = b
    · have ek : rko r = 6 * d + b := by unfold rko; omega
      obtain ⟨m1, q1, q2, q3⟩ := c_Mo_reckon hM (show r < 73 by omega) (m := m) ⟨hL.1, hL.2, fun i hi x => hD i hi (by omega)⟩
      have F1 : Fr8 m m1 := fun a j x y => q2 a j y (by omega)
      obtain ⟨mF, g1, g2⟩ := lpr_Mo_layWorths hM hd hb (Post := Post) q (r + 1) m1 (by omega) (LD_fr hL F1) (fun i hi x j a b => by
        by_cases e : i = r
        · subst e
          have := q3 j.toNat (by omega)
          rw [Int.toNat_of_nonneg a] at this
          exact this
        · rw [q2 _ _ (by decide) (by omega)]; exact hD i hi (by omega) j a b) (fun m' f1 f2 => c m' (F1.tr f1) f2)
      refine ⟨mF, ?_, g2⟩
      refine Ev.iload_n d_Mo_layWorths_35 rfl ?_
      refine Ev.aload_n d_Mo_layWorths_36 rfl ?_
      refine Ev.gf 27 d_Mo_layWorths_37 lf_Mo_256 rfl rfl (is_57 hM) (by decide) ?_
      refine Ev.icmp_ge (tgt := 74) d_Mo_layWorths_40 rfl (by first | omega | (simp [mu]; done) | (simp [mu]; omega)) (by first | omega | (simp [mu]; done) | (simp [mu]; omega)) (fun hb40 => by exfalso; first | omega | simp at hb40 | contradiction) (fun hb40 => ?_)
      refine Ev.aload_n d_Mo_layWorths_43 rfl ?_
      refine Ev.gr 28 d_Mo_layWorths_44 lf_Mo_76 rfl rfl (is_57 hM) (by decide) (rf_57_28 hM) ?_
      refine Ev.iload_n d_Mo_layWorths_47 rfl ?_
      refine Ev.iaload d_Mo_layWorths_48 (is_79 hM) (by first | omega | (simp [mu]; done) | (simp [mu]; omega)) ?_
      rw [h79]
      refine Ev.iload_n d_Mo_layWorths_49 rfl ?_
      refine Ev.icmp_ne (tgt := 68) d_Mo_layWorths_50 rfl (by first | omega | (simp [mu]; done) | (simp [mu]; omega)) (by first | omega | (simp [mu]; done) | (simp [mu]; omega)) (fun hb50 => by exfalso; first | omega | simp at hb50 | contradiction) (fun hb50 => ?_)
      refine Ev.aload_n d_Mo_layWorths_53 rfl ?_
      refine Ev.gr 29 d_Mo_layWorths_54 lf_Mo_79 rfl rfl (is_57 hM) (by decide) (rf_57_29 hM) ?_
      refine Ev.iload_n d_Mo_layWorths_57 rfl ?_
      refine Ev.iaload d_Mo_layWorths_58 (is_80 hM) (by first | omega | (simp [mu]; done) | (simp [mu]; omega)) ?_
      rw [h80]
      refine Ev.iload_n d_Mo_layWorths_59 rfl ?_
      refine Ev.icmp_ne (tgt := 68) d_Mo_layWorths_60 rfl (by first | omega | (simp [mu]; done) | (simp [mu]; omega)) (by first | omega | (simp [mu]; done) | (simp [mu]; omega)) (fun hb60 => by exfalso; first | omega | simp at hb60 | contradiction) (fun hb60 => ?_)
      refine Ev.aload_n d_Mo_layWorths_63 rfl ?_
      refine Ev.iload_n d_Mo_layWorths_64 rfl ?_
      refine Ev.callVv d_Mo_layWorths_65 mt_Mo_reckon lk_Mo_285 in_Mo_reckon se_Mo_reckon rfl (Nat.le_of_ble_eq_true rfl) rfl (Nat.le_of_ble_eq_true rfl) (by decide) (is_57 hM) (by decide) rfl rfl q1 ?_
      refine Ev.iinc_3 d_Mo_layWorths_68 rfl ?_
      refine Ev.goto (tgt := 35) d_Mo_layWorths_71 rfl ?_
      exact g1
    · obtain ⟨mF, g1, g2⟩ := lpr_Mo_layWorths hM hd hb (Post := Post) q (r + 1) m (by omega) hL (fun i hi x => hD i hi (by
        by_cases e : i = r
        · subst e; unfold rko at x ⊢; omega
        · omega)) c
      refine ⟨mF, ?_, g2⟩
      refine Ev.iload_n d_Mo_layWorths_35 rfl ?_
      refine Ev.aload_n d_Mo_layWorths_36 rfl ?_
      refine Ev.gf 27 d_Mo_layWorths_37 lf_Mo_256 rfl rfl (is_57 hM) (by decide) ?_
      refine Ev.icmp_ge (tgt := 74) d_Mo_layWorths_40 rfl (by first | omega | (simp [mu]; done) | (simp [mu]; omega)) (by first | omega | (simp [mu]; done) | (simp [mu]; omega)) (fun hb40 => by exfalso; first | omega | simp at hb40 | contradiction) (fun hb40 => ?_)
      refine Ev.aload_n d_Mo_layWorths_43 rfl ?_
      refine Ev.gr 28 d_Mo_layWorths_44 lf_Mo_76 rfl rfl (is_57 hM) (by decide) (rf_57_28 hM) ?_
      refine Ev.iload_n d_Mo_layWorths_47 rfl ?_
      refine Ev.iaload d_Mo_layWorths_48 (is_79 hM) (by first | omega | (simp [mu]; done) | (simp [mu]; omega)) ?_
      rw [h79]
      refine Ev.iload_n d_Mo_layWorths_49 rfl ?_
      refine Ev.icmp_ne (tgt := 68) d_Mo_layWorths_50 rfl (by first | omega | (simp [mu]; done) | (simp [mu]; omega)) (by first | omega | (simp [mu]; done) | (simp [mu]; omega)) (fun hb50 => ?_) (fun hb50 => ?_)
      · refine Ev.iinc_3 d_Mo_layWorths_68 rfl ?_
        refine Ev.goto (tgt := 35) d_Mo_layWorths_71 rfl ?_
        exact g1
      · refine Ev.aload_n d_Mo_layWorths_53 rfl ?_
        refine Ev.gr 29 d_Mo_layWorths_54 lf_Mo_79 rfl rfl (is_57 hM) (by decide) (rf_57_29 hM) ?_
        refine Ev.iload_n d_Mo_layWorths_57 rfl ?_
        refine Ev.iaload d_Mo_layWorths_58 (is_80 hM) (by first | omega | (simp [mu]; done) | (simp [mu]; omega)) ?_
        rw [h80]
        refine Ev.iload_n d_Mo_layWorths_59 rfl ?_
        refine Ev.icmp_ne (tgt := 68) d_Mo_layWorths_60 rfl (by first | omega | (simp [mu]; done) | (simp [mu]; omega)) (by first | omega | (simp [mu]; done) | (simp [mu]; omega)) (fun hb60 => ?_) (fun hb60 => by exfalso; first | omega | simp at hb60 | contradiction)
        refine Ev.iinc_3 d_Mo_layWorths_68 rfl ?_
        refine Ev.goto (tgt := 35) d_Mo_layWorths_71 rfl ?_
        exact g1
theorem lpb_Mo_layWorths (hM : MoS σ) {d : Int} (hd : 1 ≤ d ∧ d ≤ 5) {Post : Mm → Prop} : ∀ (q : Nat) (b : Int) (m : Mm) (x3 : Option AV), b + q = 6 → 0 ≤ b → LD m → DT m (6 * d + b) 0 → (∀ (m' : Mm) (x3 : Option AV), Fr8 m m' → DT m' (6 * d + 6) 0 → ∃ mF, Ev 4 m_Mo_layWorths 80 [some (vr 57), some (vi d), some (vi 6), x3] [] σ m' none σ mF ∧ Post mF) → ∃ mF, Ev 4 m_Mo_layWorths 27 [some (vr 57), some (vi d), some (vi b), x3] [] σ m none σ mF ∧ Post mF
  | 0, b, m, x3, hq, h0, hL, hD, c => by
    have e : b = 6 := by omega
    subst e
    obtain ⟨mF, g1, g2⟩ := c m x3 (fun _ _ _ _ => rfl) hD
    refine ⟨mF, ?_, g2⟩
    refine Ev.iload_n d_Mo_layWorths_27 rfl ?_
    refine Ev.bipush d_Mo_layWorths_28 rfl ?_
    refine Ev.icmp_ge (tgt := 80) d_Mo_layWorths_30 rfl (by first | omega | (simp [mu]; done) | (simp [mu]; omega)) (by first | omega | (simp [mu]; done) | (simp [mu]; omega)) (fun hb30 => ?_) (fun hb30 => by exfalso; first | omega | simp at hb30 | contradiction)
    exact g1
  | q + 1, b, m, x3, hq, h0, hL, hD, c => by
    obtain ⟨mF, g1, g2⟩ := lpr_Mo_layWorths hM hd (b := b) (by omega) (Post := Post) 73 0 m rfl hL hD (fun m1 f1 D1 => by
      obtain ⟨mF, g1, g2⟩ := lpb_Mo_layWorths hM hd (Post := Post) q (b + 1) m1 (some (vi 73)) (by omega) (by omega) (LD_fr hL f1) (by rw [← Int.add_assoc]; exact D1) (fun m2 x3 f2 => c m2 x3 (f1.tr f2))
      refine ⟨mF, ?_, g2⟩
      refine Ev.iinc_2 d_Mo_layWorths_74 rfl ?_
      refine Ev.goto (tgt := 27) d_Mo_layWorths_77 rfl ?_
      exact g1)
    refine ⟨mF, ?_, g2⟩
    refine Ev.iload_n d_Mo_layWorths_27 rfl ?_
    refine Ev.bipush d_Mo_layWorths_28 rfl ?_
    refine Ev.icmp_ge (tgt := 80) d_Mo_layWorths_30 rfl (by first | omega | (simp [mu]; done) | (simp [mu]; omega)) (by first | omega | (simp [mu]; done) | (simp [mu]; omega)) (fun hb30 => by exfalso; first | omega | simp at hb30 | contradiction) (fun hb30 => ?_)
    refine Ev.iconst d_Mo_layWorths_33 ?_
    refine Ev.istore_3 d_Mo_layWorths_34 rfl ?_
    exact g1
theorem lpd_Mo_layWorths (hM : MoS σ) : ∀ (q : Nat) (d : Int) (m : Mm) (x2 x3 : Option AV), d + q = 6 → 1 ≤ d → LD m → DT m (6 * d) 0 → ∃ mF, Ev 4 m_Mo_layWorths 19 [some (vr 57), some (vi d), x2, x3] [] σ m none σ mF ∧ Fr8 m mF ∧ DT mF 36 0
  | 0, d, m, x2, x3, hq, h0, hL, hD => by
    have e : d = 6 := by omega
    subst e
    refine ⟨m, ?_, fun _ _ _ _ => rfl, hD⟩
    refine Ev.iload_n d_Mo_layWorths_19 rfl ?_
    refine Ev.bipush d_Mo_layWorths_20 rfl ?_
    refine Ev.icmp_ge (tgt := 86) d_Mo_layWorths_22 rfl (by first | omega | (simp [mu]; done) | (simp [mu]; omega)) (by first | omega | (simp [mu]; done) | (simp [mu]; omega)) (fun hb22 => ?_) (fun hb22 => by exfalso; first | omega | simp at hb22 | contradiction)
    exact Ev.to (Ev.return d_Mo_layWorths_86 rfl) rfl rfl
  | q + 1, d, m, x2, x3, hq, h0, hL, hD => by
    obtain ⟨mF, g1, g2⟩ := lpb_Mo_layWorths hM (d := d) (by omega) (Post := fun mF => Fr8 m mF ∧ DT mF 36 0) 6 0 m x3 rfl (by decide) hL (by rw [Int.add_zero]; exact hD) (fun m1 x3 f1 D1 => by
      obtain ⟨mF, g1, g2, g3⟩ := lpd_Mo_layWorths hM q (d + 1) m1 (some (vi 6)) x3 (by omega) (by omega) (LD_fr hL f1) (by rw [show 6 * (d + 1) = 6 * d + 6 by omega]; exact D1)
      refine ⟨mF, ?_, f1.tr g2, g3⟩
      refine Ev.iinc_1 d_Mo_layWorths_80 rfl ?_
      refine Ev.goto (tgt := 19) d_Mo_layWorths_83 rfl ?_
      exact g1)
    refine ⟨mF, ?_, g2⟩
    refine Ev.iload_n d_Mo_layWorths_19 rfl ?_
    refine Ev.bipush d_Mo_layWorths_20 rfl ?_
    refine Ev.icmp_ge (tgt := 86) d_Mo_layWorths_22 rfl (by first | omega | (simp [mu]; done) | (simp [mu]; omega)) (by first | omega | (simp [mu]; done) | (simp [mu]; omega)) (fun hb22 => by exfalso; first | omega | simp at hb22 | contradiction) (fun hb22 => ?_)
    refine Ev.iconst d_Mo_layWorths_25 ?_
    refine Ev.istore_2 d_Mo_layWorths_26 rfl ?_
    exact g1
def MW (m : Mm) : Prop := m 57 32 = 0 ∨ (m 57 32 = 1 ∧ LD m ∧ DT m 36 0)
def FrY (m m' : Mm) : Prop := ∀ a j : Int, ¬ (a = 57 ∧ (j = 27 ∨ j = 32)) → a ≠ 79 → a ≠ 80 → a ≠ 81 → a ≠ 82 → a ≠ 83 → m' a j = m a j
theorem c_Mo_layWorths (hM : MoS σ) (hW : MW m) : ∃ m', Call 4 m_Mo_layWorths [vr 57] σ m none σ m' ∧ (m' 57 32 = 1 ∧ LD m' ∧ DT m' 36 0) ∧ FrY m m' := by
  rcases hW with h0 | h1
  · obtain ⟨m1, q1, q2, q3, q4⟩ := c_Mo_layRows hM (m := mu m 57 32 1)
    obtain ⟨mF, g1, g2, g3⟩ := lpd_Mo_layWorths hM 5 1 m1 none none rfl (by decide) ⟨q3, q4⟩ (fun i hi x => by
      exfalso
      have := rT_b i hi
      unfold rko at x
      omega)
    refine ⟨mF, ?_, ⟨?_, LD_fr ⟨q3, q4⟩ g2, g3⟩, fun a j x1 x2 x3 x4 x5 x6 => ?_⟩
    rotate_left
    · rw [g2 _ _ (by decide) (by decide), q2 _ _ (by decide) (by decide) (by decide) (by decide) (by decide), mu_s]
    · rw [g2 a j x5 x6, q2 a j (by omega) x2 x3 x4 x6, mu_n (by omega)]
    show Ev 4 m_Mo_layWorths 0 [some (vr 57), none, none, none] [] σ m _ σ mF
    refine Ev.aload_n d_Mo_layWorths_0 rfl ?_
    refine Ev.gf 32 d_Mo_layWorths_1 lf_Mo_279 rfl rfl (is_57 hM) (by decide) ?_
    rw [h0]
    refine Ev.if_eq (tgt := 8) d_Mo_layWorths_4 rfl (by decide) (fun hb4 => ?_) (fun hb4 => by exfalso; first | omega | simp at hb4 | contradiction)
    refine Ev.aload_n d_Mo_layWorths_8 rfl ?_
    refine Ev.iconst d_Mo_layWorths_9 ?_
    refine Ev.pz 32 d_Mo_layWorths_10 lf_Mo_279 rfl rfl rfl rfl (is_57 hM) (by decide) (by first | omega | (simp [mu]; done) | (simp [mu]; omega)) ?_
    refine Ev.aload_n d_Mo_layWorths_13 rfl ?_
    refine Ev.callVv d_Mo_layWorths_14 mt_Mo_layRows lk_Mo_282 in_Mo_layRows se_Mo_layRows rfl (Nat.le_of_ble_eq_true rfl) rfl (Nat.le_of_ble_eq_true rfl) (by decide) (is_57 hM) (by decide) rfl rfl q1 ?_
    refine Ev.iconst d_Mo_layWorths_17 ?_
    refine Ev.istore_1 d_Mo_layWorths_18 rfl ?_
    exact g1
  · refine ⟨m, ?_, h1, fun _ _ _ _ _ _ _ _ => rfl⟩
    show Ev 4 m_Mo_layWorths 0 [some (vr 57), none, none, none] [] σ m _ σ m
    refine Ev.aload_n d_Mo_layWorths_0 rfl ?_
    refine Ev.gf 32 d_Mo_layWorths_1 lf_Mo_279 rfl rfl (is_57 hM) (by decide) ?_
    rw [h1.1]
    refine Ev.if_eq (tgt := 8) d_Mo_layWorths_4 rfl (by decide) (fun hb4 => by exfalso; first | omega | simp at hb4 | contradiction) (fun hb4 => ?_)
    exact Ev.to (Ev.return d_Mo_layWorths_7 rfl) rfl rfl
def ixSelf (i : Nat) : Bool := decide (ixL (rT i) TL 0 = i)
theorem ix_self : ∀ i : Nat, i < 73 → ixSelf i = true := by decide +kernel
def sp_tangent (D : TDt) (i : Nat) (n : Int) : Int := if 0 ≤ n ∧ n ≤ 10 then (if D.1 = 0 then -2 else wtI i n) else -1
def TDR (D : TDt) (i : Nat) : Prop := i < 73 ∧ ∀ j : Int, 0 ≤ j → j < 12 → D.2 j = cn j (rT i)
theorem c_Mo_tangent (hM : MoS σ) {D : TDt} (hD : MTD m D) (hK : TDK D) {i : Nat} (hi : D.1 = 1 → TDR D i) (hW : MW m) {n : Int} (h1 : -2147483648 ≤ n ∧ n ≤ 2147483647) : ∃ m', Call 5 m_Mo_tangent [vr 57, vi n] σ m (some (vl (sp_tangent D i n))) σ m' ∧ MW m' ∧ FrY m m' := by
  have hD1 := hD.1
  have hK1 := hK.1
  unfold sp_tangent
  by_cases hn : 0 ≤ n ∧ n ≤ 10
  · rw [if_pos hn]
    by_cases h0 : D.1 = 0
    · rw [if_pos h0]
      refine ⟨m, ?_, hW, fun _ _ _ _ _ _ _ _ => rfl⟩
      show Ev 5 m_Mo_tangent 0 [some (vr 57), some (vi n)] [] σ m _ σ m
      refine Ev.iload_n d_Mo_tangent_0 rfl ?_
      refine Ev.i2l d_Mo_tangent_1 (by first | omega | (simp [mu]; done) | (simp [mu]; omega)) ?_
      refine Ev.lconst (x := 0) d_Mo_tangent_2 rfl ?_
      refine Ev.ldc2 (x := 10) d_Mo_tangent_3 kl_Mo_277 ?_
      refine Ev.callS d_Mo_tangent_6 mt_Mo_in lk_Mo_107 st_Mo_in rfl (Nat.le_of_ble_eq_true rfl) rfl (Nat.le_of_ble_eq_true rfl) (by decide) rfl (c_Mo_in (by omega) (by omega) (by omega)) ?_
      refine Ev.if_ne (tgt := 16) d_Mo_tangent_9 rfl b01_b (fun hb9 => ?_) (fun hb9 => by exfalso; (first | rw [b01_ne] at hb9 | rw [b01_eq] at hb9); omega)
      rw [b01_ne] at hb9
      refine Ev.aload_n d_Mo_tangent_16 rfl ?_
      refine Ev.gf 24 d_Mo_tangent_17 lf_Mo_252 rfl rfl (is_57 hM) (by decide) ?_
      rw [hD1, h0]
      refine Ev.if_ne (tgt := 27) d_Mo_tangent_20 rfl (by decide) (fun hb20 => by exfalso; first | omega | simp at hb20 | contradiction) (fun hb20 => ?_)
      refine Ev.ldc2 (x := (-2)) d_Mo_tangent_23 kl_Mo_188 ?_
      exact Ev.to (Ev.lreturn d_Mo_tangent_26 rfl) rfl rfl
    · rw [if_neg h0]
      obtain ⟨hi1, hi2⟩ := hi (by omega)
      obtain ⟨m1, q1, q2, q3⟩ := c_Mo_layWorths hM hW
      have hR : R12 77 m1 (rT i) := fun j a b => by
        rw [q3 77 j (by omega) (by decide) (by decide) (by decide) (by decide) (by decide), hD.2 j a b]; exact hi2 j a b
      have hln : (rT i).length ≤ 12 := Nat.le_trans (TL_l5 hi1) (by decide)
      have hix := c_Mo_indexOf hM (is_77 hM) q2.2.1.1 q2.2.1.2 hR hln
      have hs := ix_self i hi1
      unfold ixSelf at hs
      rw [of_decide_eq_true hs] at hix
      have hib := rT_b i hi1
      have hV := q2.2.2 i hi1 (by unfold rko; omega) n hn.1 hn.2
      refine ⟨m1, ?_, Or.inr q2, q3⟩
      show Ev 5 m_Mo_tangent 0 [some (vr 57), some (vi n)] [] σ m _ σ m1
      refine Ev.iload_n d_Mo_tangent_0 rfl ?_
      refine Ev.i2l d_Mo_tangent_1 (by first | omega | (simp [mu]; done) | (simp [mu]; omega)) ?_
      refine Ev.lconst (x := 0) d_Mo_tangent_2 rfl ?_
      refine Ev.ldc2 (x := 10) d_Mo_tangent_3 kl_Mo_277 ?_
      refine Ev.callS d_Mo_tangent_6 mt_Mo_in lk_Mo_107 st_Mo_in rfl (Nat.le_of_ble_eq_true rfl) rfl (Nat.le_of_ble_eq_true rfl) (by decide) rfl (c_Mo_in (by omega) (by omega) (by omega)) ?_
      refine Ev.if_ne (tgt := 16) d_Mo_tangent_9 rfl b01_b (fun hb9 => ?_) (fun hb9 => by exfalso; (first | rw [b01_ne] at hb9 | rw [b01_eq] at hb9); omega)
      rw [b01_ne] at hb9
      refine Ev.aload_n d_Mo_tangent_16 rfl ?_
      refine Ev.gf 24 d_Mo_tangent_17 lf_Mo_252 rfl rfl (is_57 hM) (by decide) ?_
      rw [hD1, show D.1 = 1 by omega]
      refine Ev.if_ne (tgt := 27) d_Mo_tangent_20 rfl (by decide) (fun hb20 => ?_) (fun hb20 => by exfalso; first | omega | simp at hb20 | contradiction)
      refine Ev.aload_n d_Mo_tangent_27 rfl ?_
      refine Ev.callVv d_Mo_tangent_28 mt_Mo_layWorths lk_Mo_288 in_Mo_layWorths se_Mo_layWorths rfl (Nat.le_of_ble_eq_true rfl) rfl (Nat.le_of_ble_eq_true rfl) (by decide) (is_57 hM) (by decide) rfl rfl q1 ?_
      refine Ev.aload_n d_Mo_tangent_31 rfl ?_
      refine Ev.gr 31 d_Mo_tangent_32 lf_Mo_85 rfl rfl (is_57 hM) (by decide) (rf_57_31 hM) ?_
      refine Ev.bipush d_Mo_tangent_35 rfl ?_
      refine Ev.aload_n d_Mo_tangent_37 rfl ?_
      refine Ev.aload_n d_Mo_tangent_38 rfl ?_
      refine Ev.gr 25 d_Mo_tangent_39 lf_Mo_70 rfl rfl (is_57 hM) (by decide) (rf_57_25 hM) ?_
      refine Ev.iconst d_Mo_tangent_42 ?_
      refine Ev.callV d_Mo_tangent_43 mt_Mo_indexOf lk_Mo_263 in_Mo_indexOf se_Mo_indexOf rfl (Nat.le_of_ble_eq_true rfl) rfl (Nat.le_of_ble_eq_true rfl) (by decide) (is_57 hM) (by decide) rfl rfl hix ?_
      refine Ev.imul d_Mo_tangent_46 ?_
      refine Ev.iload_n d_Mo_tangent_47 rfl ?_
      refine Ev.iadd d_Mo_tangent_48 ?_
      refine Ev.laload d_Mo_tangent_49 (is_82 hM) (by first | omega | (simp [mu]; done) | (simp [mu]; omega)) ?_
      rw [hV]
      exact Ev.to (Ev.lreturn d_Mo_tangent_50 rfl) rfl rfl
  · rw [if_neg hn]
    refine ⟨m, ?_, hW, fun _ _ _ _ _ _ _ _ => rfl⟩
    show Ev 5 m_Mo_tangent 0 [some (vr 57), some (vi n)] [] σ m _ σ m
    refine Ev.iload_n d_Mo_tangent_0 rfl ?_
    refine Ev.i2l d_Mo_tangent_1 (by first | omega | (simp [mu]; done) | (simp [mu]; omega)) ?_
    refine Ev.lconst (x := 0) d_Mo_tangent_2 rfl ?_
    refine Ev.ldc2 (x := 10) d_Mo_tangent_3 kl_Mo_277 ?_
    refine Ev.callS d_Mo_tangent_6 mt_Mo_in lk_Mo_107 st_Mo_in rfl (Nat.le_of_ble_eq_true rfl) rfl (Nat.le_of_ble_eq_true rfl) (by decide) rfl (c_Mo_in (by omega) (by omega) (by omega)) ?_
    refine Ev.if_ne (tgt := 16) d_Mo_tangent_9 rfl b01_b (fun hb9 => by exfalso; (first | rw [b01_ne] at hb9 | rw [b01_eq] at hb9); omega) (fun hb9 => ?_)
    rw [b01_eq] at hb9
    refine Ev.ldc2 (x := (-1)) d_Mo_tangent_12 kl_Mo_154 ?_
    exact Ev.to (Ev.lreturn d_Mo_tangent_15 rfl) rfl rfl
/-! what is told is one of the rows -/
def zT (i : Nat) : List Int := if i = 0 then [] else rT (i - 1)
def clo (i k : Nat) : Bool := decide (tsum (zT i ++ [(k : Int)]) ≤ 5 → 0 ≤ ixL (zT i ++ [(k : Int)]) TL 0 ∧ ixL (zT i ++ [(k : Int)]) TL 0 < 73 ∧ eqK (rT (ixL (zT i ++ [(k : Int)]) TL 0).toNat) (zT i ++ [(k : Int)]) 12 0 1 = 1)
theorem clo_ok : ∀ i : Nat, i < 74 → ∀ k : Nat, k < 12 → (1 ≤ k ∧ k ≠ 6) → clo i k = true := by decide +kernel
theorem eqK_1 (l C : List Int) : ∀ (q : Nat) (k s : Int), eqK l C q k s = 1 → s = 1 ∧ ∀ j : Int, k ≤ j → j < k + q → cn j l = cn j C
  | 0, k, s, h => ⟨h, fun j a b => by exfalso; omega⟩
  | q + 1, k, s, h => by
    simp only [eqK] at h
    obtain ⟨h1, h2⟩ := eqK_1 l C q (k + 1) _ h
    by_cases hc : s = 1 ∧ cn k l = cn k C
    · refine ⟨hc.1, fun j a b => ?_⟩
      by_cases e : j = k
      · rw [e]; exact hc.2
      · exact h2 j (by omega) (by omega)
    · rw [if_neg hc] at h1; omega
theorem TL_fgs : ∀ l ∈ TL, FGS l := by
  have h : TL.all (fun l => l.all (fun x => decide (x = 1 ∨ x = 2 ∨ x = 3 ∨ x = 4 ∨ x = 5 ∨ x = 7 ∨ x = 8 ∨ x = 9 ∨ x = 10 ∨ x = 11))) = true := by decide +kernel
  intro l hl x hx
  have h1 := List.all_eq_true.mp (List.all_eq_true.mp h l hl) x hx
  exact of_decide_eq_true h1
def TR (R : Int → Int) (i : Nat) : Prop := i < 74 ∧ ∀ j : Int, 0 ≤ j → j < 12 → R j = cn j (zT i)
theorem ps_told {T : TPt} : ∀ (q : Nat) (p l s : Int) (R : Int → Int) (i : Nat), (l = -4 ∨ l = 97 ∨ l = 98) → TR R i → tsum (zT i) = s → (ps T q p l s R).1 = 0 → ∃ i' : Nat, i' < 73 ∧ (∀ j : Int, 0 ≤ j → j < 12 → (ps T q p l s R).2.2.2 j = cn j (rT i')) ∧ (ps T q p l s R).2.2.1 = tsum (rT i')
  | 0, p, l, s, R, i, hl, hR, hs, h => by
    simp only [ps] at h ⊢
    by_cases hc : s = 0 ∨ ¬ l = -4
    · rw [if_pos hc] at h; simp at h
    · rw [if_neg hc]
      have hi : i ≠ 0 := fun z => by
        subst z
        have : tsum (zT 0) = 0 := rfl
        omega
      have hz : zT i = rT (i - 1) := by unfold zT; rw [if_neg hi]
      refine ⟨i - 1, by have := hR.1; omega, fun j a b => ?_, ?_⟩
      · rw [← hz]; exact hR.2 j a b
      · rw [← hz]; exact hs.symm
  | q + 1, p, l, s, R, i, hl, hR, hs, h => by
    simp only [ps] at h ⊢
    by_cases c1 : T.2 p = 32
    · rw [if_pos c1] at h ⊢
      exact ps_told q (p + 1) l s R i hl hR hs h
    rw [if_neg c1] at h ⊢
    by_cases c2 : ¬ ((T.2 p = 97 ∨ T.2 p = 98) ∨ (49 ≤ T.2 p ∧ T.2 p ≤ 57))
    · rw [if_pos c2] at h; simp at h
    rw [if_neg c2] at h ⊢
    by_cases c3 : l = -4
    · rw [if_pos c3] at h ⊢
      by_cases c4 : T.2 p = 97 ∨ T.2 p = 98
      · rw [if_pos c4] at h ⊢
        exact ps_told q (p + 1) _ s R i (Or.inr c4) hR hs h
      · rw [if_neg c4] at h; simp at h
    rw [if_neg c3] at h ⊢
    by_cases c4 : T.2 p = 97 ∨ T.2 p = 98
    · rw [if_pos c4] at h; simp at h
    rw [if_neg c4] at h ⊢
    by_cases c5 : 5 < s + T.2 p - 48
    · rw [if_pos c5] at h; simp at h
    rw [if_neg c5] at h ⊢
    -- a figure is added
    have hz0 : 0 ≤ tsum (zT i) := by
      unfold zT
      split
      · decide
      · have := rT_b (i - 1) (by have := hR.1; omega); omega
    generalize hk : (if l = 97 then (0 : Int) else 6) + T.2 p - 48 = k at h ⊢
    have hkb : 1 ≤ k ∧ k ≤ 11 ∧ k ≠ 6 ∧ fg k = T.2 p - 48 := by
      unfold fg
      rcases hl with hl | hl | hl
      · exact absurd hl c3
      · rw [if_pos hl] at hk
        rw [if_neg (by omega)]; omega
      · rw [if_neg (by omega)] at hk
        rw [if_pos (by omega)]; omega
    have hts : tsum (zT i ++ [k]) = s + (T.2 p - 48) := by
      rw [tsum_app, hs]
      simp only [tsum]
      omega
    have hcl := clo_ok i hR.1 k.toNat (by omega) (by omega)
    unfold clo at hcl
    rw [Int.toNat_of_nonneg (by omega)] at hcl
    obtain ⟨x1, x2, x3⟩ := (of_decide_eq_true hcl) (by omega)
    generalize ixL (zT i ++ [k]) TL 0 = x at x1 x2 x3
    have x4 := (eqK_1 _ _ 12 0 1 x3).2
    have hz : zT (x.toNat + 1) = rT x.toNat := by unfold zT; rw [if_neg (by omega)]; rfl
    have R12' : ∀ j : Int, 0 ≤ j → j < 12 → up R k (R k + 1) j = cn j (zT (x.toNat + 1)) := fun j a b => by
      rw [hz, x4 j a (by omega), cn_app]
      simp only [cn, up]
      by_cases e : j = k
      · rw [if_pos e, if_pos e.symm, e, hR.2 k (by omega) (by omega)]; omega
      · rw [if_neg e, if_neg (fun z => e z.symm), hR.2 j a b]; omega
    have hsum : tsum (zT (x.toNat + 1)) = s + (T.2 p - 48) := by
      rw [← hts, hz]
      have f1 : FGS (rT x.toNat) := TL_fgs _ (TL_mem (by omega))
      have f2 : FGS (zT i ++ [k]) := FGS_add (by
        unfold zT
        split
        · exact fun x h => by cases h
        · exact TL_fgs _ (TL_mem (by have := hR.1; omega))) ⟨hkb.1, hkb.2.1, hkb.2.2.1⟩
      rw [← tsum_cn _ f1, ← tsum_cn _ f2]
      rw [x4 1 (by decide) (by decide), x4 2 (by decide) (by decide), x4 3 (by decide) (by decide), x4 4 (by decide) (by decide), x4 5 (by decide) (by decide), x4 7 (by decide) (by decide), x4 8 (by decide) (by decide), x4 9 (by decide) (by decide), x4 10 (by decide) (by decide), x4 11 (by decide) (by decide)]
    exact ps_told q (p + 1) (-4) _ _ (x.toNat + 1) (Or.inl rfl) ⟨by omega, R12'⟩ hsum h
def TDV (D : TDt) : Prop := (D.1 = 0 ∨ D.1 = 1) ∧ (D.1 = 1 → ∃ i, TDR D i)
theorem st_textD_V {T : TPt} {D : TDt} (h : TDV D) : TDV (st_textD T D) := by
  unfold st_textD
  split
  · rename_i h0
    refine ⟨Or.inr rfl, fun _ => ?_⟩
    obtain ⟨i, a, b, -⟩ := ps_told T.1.toNat 0 (-4) 0 (fun _ => 0) 0 (Or.inl rfl) ⟨by decide, fun j _ _ => rfl⟩ rfl h0
    exact ⟨i, a, b⟩
  · exact h
end
