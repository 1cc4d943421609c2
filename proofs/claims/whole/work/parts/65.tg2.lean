/-! tangents of the class: learned degree by degree -/
def cvI (i : Nat) : Int → Int := fun j => cv i j.toNat
def VS (m : Mm) (r : Nat) (V : Int → Int) : Prop := (∀ i : Nat, i < r → ∀ j : Int, 0 ≤ j → j < 11 → m 21 ((i : Int) * 11 + j) = cvI i j) ∧ (∀ j : Int, 0 ≤ j → j < 11 → m 21 ((r : Int) * 11 + j) = V j) ∧ (∀ i : Nat, r < i → i < 73 → ∀ j : Int, 0 ≤ j → j < 11 → m 21 ((i : Int) * 11 + j) = 0)
def VA (m : Mm) (N : Nat) : Prop := (∀ i : Nat, i < N → ∀ j : Int, 0 ≤ j → j < 11 → m 21 ((i : Int) * 11 + j) = cvI i j) ∧ (∀ i : Nat, N ≤ i → i < 73 → ∀ j : Int, 0 ≤ j → j < 11 → m 21 ((i : Int) * 11 + j) = 0)
theorem VA_VS {m : Mm} {r : Nat} (h : VA m r) (hr : r < 73) : VS m r (fun _ => 0) := ⟨h.1, h.2 r (Nat.le_refl _) hr, fun i a b => h.2 i (by omega) b⟩
theorem VS_VA {m : Mm} {r : Nat} {V : Int → Int} (h : VS m r V) (hV : ∀ j : Int, 0 ≤ j → j < 11 → V j = cvI r j) : VA m (r + 1) := ⟨fun i hi j a b => by
  by_cases e : i = r
  · rw [e, h.2.1 j a b, hV j a b]
  · exact h.1 i (by omega) j a b, fun i hi h73 => h.2.2 i (by omega) h73⟩
theorem VS_row {m m' : Mm} {r : Nat} {V V' : Int → Int} (h : VS m r V) (hV : ∀ j : Int, 0 ≤ j → j < 11 → m' 21 ((r : Int) * 11 + j) = V' j) (f : ∀ b j : Int, ¬ (b = 21 ∧ (r : Int) * 11 ≤ j ∧ j < (r : Int) * 11 + 11) → m' b j = m b j) : VS m' r V' := ⟨fun i hi j a b => (f _ _ (by omega)).trans (h.1 i hi j a b), hV, fun i hi h73 j a b => (f _ _ (by omega)).trans (h.2.2 i hi h73 j a b)⟩
def mvS (d r : Nat) : Nat → Int → (Int → Int) → Int → Int
  | 0, _, V => V
  | q + 1, k, V => mvS d r q (k + 1) (if 0 < am (cr r) 1 k then avV V k 0 (cvI (ixC d (cr r + o8 0 k - o8 1 k)).toNat) else V)
def mvC (d r : Nat) : Nat → Int → Bool
  | 0, _ => true
  | q + 1, k => (decide (am (cr r) 1 k ≤ 0) || decide (0 ≤ ixC d (cr r + o8 0 k - o8 1 k) ∧ ixC d (cr r + o8 0 k - o8 1 k) < r)) && mvC d r q (k + 1)
def tpV (r p : Nat) : Int := tpS (cr r) (cr p) 5 1 1
def fwV (d r p : Nat) : Int := (d : Int) - 1 - mbR (cr r) (cr p)
def spS (d r : Nat) : Nat → Nat → (Int → Int) → Int → Int
  | 0, _, V => V
  | q + 1, p, V => spS d r q (p + 1) (if 0 < tpV r p then avV V (tpV r p) (fwV d r p) (cvI p) else V)
def spC (d r : Nat) : Nat → Nat → Bool
  | 0, _ => true
  | q + 1, p => (tpB (cr r) (cr p) 5 1 1 && decide (-1000000000000 ≤ tpV r p ∧ tpV r p ≤ 1000000000000) && (decide (tpV r p ≤ 0) || decide (0 ≤ fwV d r p ∧ fwV d r p ≤ 10))) && spC d r q (p + 1)
theorem o8_b {k : Int} (hk : 1 ≤ k ∧ k ≤ 5) : (1 ≤ o8 0 k ∧ o8 0 k ≤ 4096) ∧ 1 ≤ o8 1 k ∧ o8 1 k ≤ 134217728 := by
  rcases (show k = 1 ∨ k = 2 ∨ k = 3 ∨ k = 4 ∨ k = 5 by omega) with rfl | rfl | rfl | rfl | rfl <;> decide
def Fr21 (r : Nat) (m m' : Mm) : Prop := ∀ b j : Int, ¬ (b = 21 ∧ (r : Int) * 11 ≤ j ∧ j < (r : Int) * 11 + 11) → m' b j = m b j
theorem Fr21.tr {r : Nat} {m m1 m2 : Mm} (h : Fr21 r m m1) (g : Fr21 r m1 m2) : Fr21 r m m2 := fun b j x => (g b j x).trans (h b j x)
theorem RC_fr {m m' : Mm} {N : Nat} (h : RC m N) (f : ∀ j : Int, m' 20 j = m 20 j) : RC m' N := fun i hi => (f _).trans (h i hi)
theorem RF_fr {m m' : Mm} {N : Nat} (h : RF m N) (f : ∀ j : Int, m' 22 j = m 22 j) : RF m' N := fun i h1 hi => (f _).trans (h i h1 hi)
section
variable {σ : Sg} {m : Mm}
theorem lp_Tg_moves (hF : FcS σ) {d r : Nat} (hd : 1 ≤ d ∧ d ≤ 5) (hr : r < fst_ (d + 1)) : ∀ (q : Nat) (k : Int) (V : Int → Int) (m : Mm), k + q = 6 → 1 ≤ k → RF m (d + 1) → RC m (fst_ (d + 1)) → VS m r V → mvC d r q k = true → ∃ mF, Ev 2 m_Tg_addMoves 13 [some (vr 19), some (vi d), some (vi r), some (vi k)] [] σ m none σ mF ∧ VS mF r (mvS d r q k V) ∧ Fr21 r m mF
  | 0, k, V, m, hk, h1, hf, hR, hV, hc => by
    refine ⟨m, ?_, hV, fun _ _ _ => rfl⟩
    refine Ev.iload_n d_Tg_addMoves_13 rfl ?_
    refine Ev.iconst d_Tg_addMoves_14 ?_
    refine Ev.icmp_gt (tgt := 69) d_Tg_addMoves_15 rfl (by first | omega | (simp [mu]; done) | (simp [mu]; omega)) (by first | omega | (simp [mu]; done) | (simp [mu]; omega)) (fun hb15 => ?_) (fun hb15 => by exfalso; first | omega | simp at hb15 | contradiction)
    exact Ev.to (Ev.return d_Tg_addMoves_69 rfl) rfl rfl
  | q + 1, k, V, m, hk, h1, hf, hR, hV, hc => by
    have hfb := fst_b (d + 1) (by omega)
    have e20 := hR r hr
    have hcr := cr_b r (by omega)
    have hob := o8_b (k := k) (by omega)
    have hab := am_b (cr r) 1 k
    simp only [mvC, Bool.and_eq_true, Bool.or_eq_true, decide_eq_true_eq] at hc
    simp only [mvS]
    by_cases ha : 0 < am (cr r) 1 k
    · rw [if_pos ha]
      have hix : 0 ≤ ixC d (cr r + o8 0 k - o8 1 k) ∧ ixC d (cr r + o8 0 k - o8 1 k) < r := by
        rcases hc.1 with h | h
        · omega
        · exact h
      have ci := c_Tg_indexOf hF (m := m) hd (a := cr r + o8 0 k - o8 1 k) (by omega) hf hR
      generalize ixC d (cr r + o8 0 k - o8 1 k) = x at hix ci
      obtain ⟨x, rfl⟩ := Int.eq_ofNat_of_zero_le hix.1
      obtain ⟨m1, q1, q2, q3⟩ := c_Tg_addTo hF (r := r) (oth := x) (t := k) (few := 0) (V := V) (U := cvI x) (by omega) (by omega) (by omega) (by decide) hV.2.1 (hV.1 x (by omega))
      obtain ⟨mF, g1, g2, g3⟩ := lp_Tg_moves hF hd hr q (k + 1) _ m1 (by omega) (by omega) (RF_fr hf (fun j => q3 _ _ (by omega))) (RC_fr hR (fun j => q3 _ _ (by omega))) (VS_row hV q2 q3) hc.2
      refine ⟨mF, ?_, g2, Fr21.tr q3 g3⟩
      refine Ev.iload_n d_Tg_addMoves_13 rfl ?_
      refine Ev.iconst d_Tg_addMoves_14 ?_
      refine Ev.icmp_gt (tgt := 69) d_Tg_addMoves_15 rfl (by first | omega | (simp [mu]; done) | (simp [mu]; omega)) (by first | omega | (simp [mu]; done) | (simp [mu]; omega)) (fun hb15 => by exfalso; first | omega | simp at hb15 | contradiction) (fun hb15 => ?_)
      refine Ev.aload_n d_Tg_addMoves_18 rfl ?_
      refine Ev.gr 0 d_Tg_addMoves_19 lf_Tg_11 rfl rfl (fi_19 hF) (by decide) (fr_19_0 hF) ?_
      refine Ev.iload_n d_Tg_addMoves_22 rfl ?_
      refine Ev.iaload d_Tg_addMoves_23 (fi_20 hF) (by first | omega | (simp [mu]; done) | (simp [mu]; omega)) ?_
      rw [e20]
      refine Ev.iconst d_Tg_addMoves_24 ?_
      refine Ev.iload_n d_Tg_addMoves_25 rfl ?_
      refine Ev.callS d_Tg_addMoves_26 mt_Rows_amount lk_Tg_60 st_Rows_amount rfl (Nat.le_of_ble_eq_true rfl) rfl (Nat.le_of_ble_eq_true rfl) (by decide) rfl (c_Rows_amount (by omega) (by decide) (by omega)) ?_
      refine Ev.if_le (tgt := 63) d_Tg_addMoves_29 rfl (by first | omega | (simp [mu]; done) | (simp [mu]; omega)) (fun hb29 => by exfalso; first | omega | simp at hb29 | contradiction) (fun hb29 => ?_)
      refine Ev.aload_n d_Tg_addMoves_32 rfl ?_
      refine Ev.iload_n d_Tg_addMoves_33 rfl ?_
      refine Ev.aload_n d_Tg_addMoves_34 rfl ?_
      refine Ev.iload_n d_Tg_addMoves_35 rfl ?_
      refine Ev.aload_n d_Tg_addMoves_36 rfl ?_
      refine Ev.gr 0 d_Tg_addMoves_37 lf_Tg_11 rfl rfl (fi_19 hF) (by decide) (fr_19_0 hF) ?_
      refine Ev.iload_n d_Tg_addMoves_40 rfl ?_
      refine Ev.iaload d_Tg_addMoves_41 (fi_20 hF) (by first | omega | (simp [mu]; done) | (simp [mu]; omega)) ?_
      rw [e20]
      refine Ev.iconst d_Tg_addMoves_42 ?_
      refine Ev.iload_n d_Tg_addMoves_43 rfl ?_
      refine Ev.callS d_Tg_addMoves_44 mt_Rows_one lk_Tg_64 st_Rows_one rfl (Nat.le_of_ble_eq_true rfl) rfl (Nat.le_of_ble_eq_true rfl) (by decide) rfl (c_Rows_one (by decide) (by omega)) ?_
      refine Ev.iadd d_Tg_addMoves_47 ?_
      refine Ev.iconst d_Tg_addMoves_48 ?_
      refine Ev.iload_n d_Tg_addMoves_49 rfl ?_
      refine Ev.callS d_Tg_addMoves_50 mt_Rows_one lk_Tg_64 st_Rows_one rfl (Nat.le_of_ble_eq_true rfl) rfl (Nat.le_of_ble_eq_true rfl) (by decide) rfl (c_Rows_one (by decide) (by omega)) ?_
      refine Ev.isub d_Tg_addMoves_53 ?_
      refine Ev.callV d_Tg_addMoves_54 mt_Tg_indexOf lk_Tg_36 in_Tg_indexOf se_Tg_indexOf rfl (Nat.le_of_ble_eq_true rfl) rfl (Nat.le_of_ble_eq_true rfl) (by decide) (fi_19 hF) (by decide) rfl rfl ci ?_
      refine Ev.iload_n d_Tg_addMoves_57 rfl ?_
      refine Ev.i2l d_Tg_addMoves_58 (by first | omega | (simp [mu]; done) | (simp [mu]; omega)) ?_
      refine Ev.iconst d_Tg_addMoves_59 ?_
      refine Ev.callVv d_Tg_addMoves_60 mt_Tg_addTo lk_Tg_67 in_Tg_addTo se_Tg_addTo rfl (Nat.le_of_ble_eq_true rfl) rfl (Nat.le_of_ble_eq_true rfl) (by decide) (fi_19 hF) (by decide) rfl rfl q1 ?_
      refine Ev.iinc_3 d_Tg_addMoves_63 rfl ?_
      refine Ev.goto (tgt := 13) d_Tg_addMoves_66 rfl ?_
      exact g1
    · rw [if_neg ha]
      obtain ⟨mF, g1, g2, g3⟩ := lp_Tg_moves hF hd hr q (k + 1) V m (by omega) (by omega) hf hR hV hc.2
      refine ⟨mF, ?_, g2, g3⟩
      refine Ev.iload_n d_Tg_addMoves_13 rfl ?_
      refine Ev.iconst d_Tg_addMoves_14 ?_
      refine Ev.icmp_gt (tgt := 69) d_Tg_addMoves_15 rfl (by first | omega | (simp [mu]; done) | (simp [mu]; omega)) (by first | omega | (simp [mu]; done) | (simp [mu]; omega)) (fun hb15 => by exfalso; first | omega | simp at hb15 | contradiction) (fun hb15 => ?_)
      refine Ev.aload_n d_Tg_addMoves_18 rfl ?_
      refine Ev.gr 0 d_Tg_addMoves_19 lf_Tg_11 rfl rfl (fi_19 hF) (by decide) (fr_19_0 hF) ?_
      refine Ev.iload_n d_Tg_addMoves_22 rfl ?_
      refine Ev.iaload d_Tg_addMoves_23 (fi_20 hF) (by first | omega | (simp [mu]; done) | (simp [mu]; omega)) ?_
      rw [e20]
      refine Ev.iconst d_Tg_addMoves_24 ?_
      refine Ev.iload_n d_Tg_addMoves_25 rfl ?_
      refine Ev.callS d_Tg_addMoves_26 mt_Rows_amount lk_Tg_60 st_Rows_amount rfl (Nat.le_of_ble_eq_true rfl) rfl (Nat.le_of_ble_eq_true rfl) (by decide) rfl (c_Rows_amount (by omega) (by decide) (by omega)) ?_
      refine Ev.if_le (tgt := 63) d_Tg_addMoves_29 rfl (by first | omega | (simp [mu]; done) | (simp [mu]; omega)) (fun hb29 => ?_) (fun hb29 => by exfalso; first | omega | simp at hb29 | contradiction)
      refine Ev.iinc_3 d_Tg_addMoves_63 rfl ?_
      refine Ev.goto (tgt := 13) d_Tg_addMoves_66 rfl ?_
      exact g1
theorem c_Tg_moves (hF : FcS σ) {d r : Nat} (hd : 1 ≤ d ∧ d ≤ 5) (hr : r < fst_ (d + 1)) {V : Int → Int} (hf : RF m (d + 1)) (hR : RC m (fst_ (d + 1))) (hV : VS m r V) (hc : mvC d r 5 1 = true) : ∃ m', Call 2 m_Tg_addMoves [vr 19, vi d, vi r] σ m none σ m' ∧ VS m' r (mvS d r 5 1 V) ∧ Fr21 r m m' := by
  have hfb := fst_b (d + 1) (by omega)
  obtain ⟨mF, g1, g2⟩ := lp_Tg_moves hF hd hr 5 1 V m rfl (by decide) hf hR hV hc
  refine ⟨mF, ?_, g2⟩
  show Ev 2 m_Tg_addMoves 0 [some (vr 19), some (vi d), some (vi r), none] [] σ m _ σ mF
  refine Ev.iload_n d_Tg_addMoves_0 rfl ?_
  refine Ev.if_lt (tgt := 10) d_Tg_addMoves_1 rfl (by first | omega | (simp [mu]; done) | (simp [mu]; omega)) (fun hb1 => by exfalso; first | omega | simp at hb1 | contradiction) (fun hb1 => ?_)
  refine Ev.iload_n d_Tg_addMoves_4 rfl ?_
  refine Ev.bipush d_Tg_addMoves_5 rfl ?_
  refine Ev.icmp_lt (tgt := 11) d_Tg_addMoves_7 rfl (by first | omega | (simp [mu]; done) | (simp [mu]; omega)) (by first | omega | (simp [mu]; done) | (simp [mu]; omega)) (fun hb7 => ?_) (fun hb7 => by exfalso; first | omega | simp at hb7 | contradiction)
  refine Ev.iconst d_Tg_addMoves_11 ?_
  refine Ev.istore_3 d_Tg_addMoves_12 rfl ?_
  exact g1
theorem lp_Tg_splits (hF : FcS σ) {d r : Nat} (hd : 2 ≤ d ∧ d ≤ 5) (hr : fst_ d ≤ r ∧ r < fst_ (d + 1)) : ∀ (q p : Nat) (V : Int → Int) (m : Mm) (x4 : Option AV), p + q = fst_ d → RF m (d + 1) → RC m (fst_ (d + 1)) → VS m r V → spC d r q p = true → ∃ mF, Ev 3 m_Tg_addSplits 30 [some (vr 19), some (vi d), some (vi r), some (vi p), x4, none] [] σ m none σ mF ∧ VS mF r (spS d r q p V) ∧ Fr21 r m mF
  | 0, p, V, m, x4, hp, hf, hR, hV, hc => by
    have hfb := fst_b d (by omega)
    have e22 := hf d (by omega) (by omega)
    refine ⟨m, ?_, hV, fun _ _ _ => rfl⟩
    refine Ev.iload_n d_Tg_addSplits_30 rfl ?_
    refine Ev.aload_n d_Tg_addSplits_31 rfl ?_
    refine Ev.gr 2 d_Tg_addSplits_32 lf_Tg_19 rfl rfl (fi_19 hF) (by decide) (fr_19_2 hF) ?_
    refine Ev.iload_n d_Tg_addSplits_35 rfl ?_
    refine Ev.iaload d_Tg_addSplits_36 (fi_22 hF) (by first | omega | (simp [mu]; done) | (simp [mu]; omega)) ?_
    rw [e22]
    refine Ev.icmp_ge (tgt := 103) d_Tg_addSplits_37 rfl (by first | omega | (simp [mu]; done) | (simp [mu]; omega)) (by first | omega | (simp [mu]; done) | (simp [mu]; omega)) (fun hb37 => ?_) (fun hb37 => by exfalso; first | omega | simp at hb37 | contradiction)
    exact Ev.to (Ev.return d_Tg_addSplits_103 rfl) rfl rfl
  | q + 1, p, V, m, x4, hp, hf, hR, hV, hc => by
    have hfa := fst_b d (by omega)
    have hfb := fst_b (d + 1) (by omega)
    have e22 := hf d (by omega) (by omega)
    have e20 := hR r hr.2
    have e20p := hR p (by omega)
    have hcr := cr_b r (by omega)
    have hcp := cr_b p (by omega)
    simp only [spC, Bool.and_eq_true, Bool.or_eq_true, decide_eq_true_eq] at hc
    obtain ⟨⟨⟨hb1, hb2'⟩, hb3⟩, hc2⟩ := hc
    have ct := c_times (σ := σ) (m := m) (x := cr r) (p := cr p) (by omega) (by omega) hb1
    have ct : Call 2 m_Rows_timesOfPart [vi (cr r), vi (cr p)] σ m (some (vl (tpV r p))) σ m := ct
    simp only [spS]
    by_cases ha : 0 < tpV r p
    · rw [if_pos ha]
      have hfw : 0 ≤ fwV d r p ∧ fwV d r p ≤ 10 := by
        rcases hb3 with h | h
        · omega
        · exact h
      have cm := c_Rows_moreB (σ := σ) (m := m) (x := cr r) (p := cr p) (by omega) (by omega)
      have efw : (d : Int) - 1 - mbR (cr r) (cr p) = fwV d r p := rfl
      generalize hfwv : fwV d r p = fw at hfw efw
      obtain ⟨m1, q1, q2, q3⟩ := c_Tg_addTo hF (r := r) (oth := p) (t := tpV r p) (few := fw) (V := V) (U := cvI p) (by omega) (by omega) (by omega) hfw hV.2.1 (hV.1 p (by omega))
      obtain ⟨mF, g1, g2, g3⟩ := lp_Tg_splits hF hd hr q (p + 1) _ m1 (some (vl (tpV r p))) (by omega) (RF_fr hf (fun j => q3 _ _ (by omega))) (RC_fr hR (fun j => q3 _ _ (by omega))) (VS_row hV q2 q3) hc2
      refine ⟨mF, ?_, g2, Fr21.tr q3 g3⟩
      refine Ev.iload_n d_Tg_addSplits_30 rfl ?_
      refine Ev.aload_n d_Tg_addSplits_31 rfl ?_
      refine Ev.gr 2 d_Tg_addSplits_32 lf_Tg_19 rfl rfl (fi_19 hF) (by decide) (fr_19_2 hF) ?_
      refine Ev.iload_n d_Tg_addSplits_35 rfl ?_
      refine Ev.iaload d_Tg_addSplits_36 (fi_22 hF) (by first | omega | (simp [mu]; done) | (simp [mu]; omega)) ?_
      rw [e22]
      refine Ev.icmp_ge (tgt := 103) d_Tg_addSplits_37 rfl (by first | omega | (simp [mu]; done) | (simp [mu]; omega)) (by first | omega | (simp [mu]; done) | (simp [mu]; omega)) (fun hb37 => by exfalso; first | omega | simp at hb37 | contradiction) (fun hb37 => ?_)
      refine Ev.iload_n d_Tg_addSplits_40 rfl ?_
      refine Ev.bipush d_Tg_addSplits_41 rfl ?_
      refine Ev.icmp_ge (tgt := 103) d_Tg_addSplits_43 rfl (by first | omega | (simp [mu]; done) | (simp [mu]; omega)) (by first | omega | (simp [mu]; done) | (simp [mu]; omega)) (fun hb43 => by exfalso; first | omega | simp at hb43 | contradiction) (fun hb43 => ?_)
      refine Ev.aload_n d_Tg_addSplits_46 rfl ?_
      refine Ev.gr 0 d_Tg_addSplits_47 lf_Tg_11 rfl rfl (fi_19 hF) (by decide) (fr_19_0 hF) ?_
      refine Ev.iload_n d_Tg_addSplits_50 rfl ?_
      refine Ev.iaload d_Tg_addSplits_51 (fi_20 hF) (by first | omega | (simp [mu]; done) | (simp [mu]; omega)) ?_
      rw [e20]
      refine Ev.aload_n d_Tg_addSplits_52 rfl ?_
      refine Ev.gr 0 d_Tg_addSplits_53 lf_Tg_11 rfl rfl (fi_19 hF) (by decide) (fr_19_0 hF) ?_
      refine Ev.iload_n d_Tg_addSplits_56 rfl ?_
      refine Ev.iaload d_Tg_addSplits_57 (fi_20 hF) (by first | omega | (simp [mu]; done) | (simp [mu]; omega)) ?_
      rw [e20p]
      refine Ev.callS d_Tg_addSplits_58 mt_Rows_timesOfPart lk_Tg_71 st_Rows_timesOfPart rfl (Nat.le_of_ble_eq_true rfl) rfl (Nat.le_of_ble_eq_true rfl) (by decide) rfl ct ?_
      refine Ev.lstore_4 d_Tg_addSplits_61 rfl ?_
      refine Ev.lload d_Tg_addSplits_63 rfl ?_
      refine Ev.lconst (x := 0) d_Tg_addSplits_65 rfl ?_
      refine Ev.lcmp d_Tg_addSplits_66 (by first | omega | (simp [mu]; done) | (simp [mu]; omega)) (by first | omega | (simp [mu]; done) | (simp [mu]; omega)) ?_
      refine Ev.if_le (tgt := 97) d_Tg_addSplits_67 rfl lcm_b (fun hb67 => by exfalso; (try rw [lcm_le] at hb67); omega) (fun hb67 => ?_)
      rw [lcm_le] at hb67
      refine Ev.aload_n d_Tg_addSplits_70 rfl ?_
      refine Ev.iload_n d_Tg_addSplits_71 rfl ?_
      refine Ev.iload_n d_Tg_addSplits_72 rfl ?_
      refine Ev.lload d_Tg_addSplits_73 rfl ?_
      refine Ev.iload_n d_Tg_addSplits_75 rfl ?_
      refine Ev.iconst d_Tg_addSplits_76 ?_
      refine Ev.isub d_Tg_addSplits_77 ?_
      refine Ev.aload_n d_Tg_addSplits_78 rfl ?_
      refine Ev.gr 0 d_Tg_addSplits_79 lf_Tg_11 rfl rfl (fi_19 hF) (by decide) (fr_19_0 hF) ?_
      refine Ev.iload_n d_Tg_addSplits_82 rfl ?_
      refine Ev.iaload d_Tg_addSplits_83 (fi_20 hF) (by first | omega | (simp [mu]; done) | (simp [mu]; omega)) ?_
      rw [e20]
      refine Ev.aload_n d_Tg_addSplits_84 rfl ?_
      refine Ev.gr 0 d_Tg_addSplits_85 lf_Tg_11 rfl rfl (fi_19 hF) (by decide) (fr_19_0 hF) ?_
      refine Ev.iload_n d_Tg_addSplits_88 rfl ?_
      refine Ev.iaload d_Tg_addSplits_89 (fi_20 hF) (by first | omega | (simp [mu]; done) | (simp [mu]; omega)) ?_
      rw [e20p]
      refine Ev.callS d_Tg_addSplits_90 mt_Rows_moreB lk_Tg_75 st_Rows_moreB rfl (Nat.le_of_ble_eq_true rfl) rfl (Nat.le_of_ble_eq_true rfl) (by decide) rfl cm ?_
      refine Ev.isub d_Tg_addSplits_93 ?_
      rw [efw]
      refine Ev.callVv d_Tg_addSplits_94 mt_Tg_addTo lk_Tg_67 in_Tg_addTo se_Tg_addTo rfl (Nat.le_of_ble_eq_true rfl) rfl (Nat.le_of_ble_eq_true rfl) (by decide) (fi_19 hF) (by decide) rfl rfl q1 ?_
      refine Ev.iinc_3 d_Tg_addSplits_97 rfl ?_
      refine Ev.goto (tgt := 30) d_Tg_addSplits_100 rfl ?_
      exact g1
    · rw [if_neg ha]
      obtain ⟨mF, g1, g2, g3⟩ := lp_Tg_splits hF hd hr q (p + 1) V m (some (vl (tpV r p))) (by omega) hf hR hV hc2
      refine ⟨mF, ?_, g2, g3⟩
      refine Ev.iload_n d_Tg_addSplits_30 rfl ?_
      refine Ev.aload_n d_Tg_addSplits_31 rfl ?_
      refine Ev.gr 2 d_Tg_addSplits_32 lf_Tg_19 rfl rfl (fi_19 hF) (by decide) (fr_19_2 hF) ?_
      refine Ev.iload_n d_Tg_addSplits_35 rfl ?_
      refine Ev.iaload d_Tg_addSplits_36 (fi_22 hF) (by first | omega | (simp [mu]; done) | (simp [mu]; omega)) ?_
      rw [e22]
      refine Ev.icmp_ge (tgt := 103) d_Tg_addSplits_37 rfl (by first | omega | (simp [mu]; done) | (simp [mu]; omega)) (by first | omega | (simp [mu]; done) | (simp [mu]; omega)) (fun hb37 => by exfalso; first | omega | simp at hb37 | contradiction) (fun hb37 => ?_)
      refine Ev.iload_n d_Tg_addSplits_40 rfl ?_
      refine Ev.bipush d_Tg_addSplits_41 rfl ?_
      refine Ev.icmp_ge (tgt := 103) d_Tg_addSplits_43 rfl (by first | omega | (simp [mu]; done) | (simp [mu]; omega)) (by first | omega | (simp [mu]; done) | (simp [mu]; omega)) (fun hb43 => by exfalso; first | omega | simp at hb43 | contradiction) (fun hb43 => ?_)
      refine Ev.aload_n d_Tg_addSplits_46 rfl ?_
      refine Ev.gr 0 d_Tg_addSplits_47 lf_Tg_11 rfl rfl (fi_19 hF) (by decide) (fr_19_0 hF) ?_
      refine Ev.iload_n d_Tg_addSplits_50 rfl ?_
      refine Ev.iaload d_Tg_addSplits_51 (fi_20 hF) (by first | omega | (simp [mu]; done) | (simp [mu]; omega)) ?_
      rw [e20]
      refine Ev.aload_n d_Tg_addSplits_52 rfl ?_
      refine Ev.gr 0 d_Tg_addSplits_53 lf_Tg_11 rfl rfl (fi_19 hF) (by decide) (fr_19_0 hF) ?_
      refine Ev.iload_n d_Tg_addSplits_56 rfl ?_
      refine Ev.iaload d_Tg_addSplits_57 (fi_20 hF) (by first | omega | (simp [mu]; done) | (simp [mu]; omega)) ?_
      rw [e20p]
      refine Ev.callS d_Tg_addSplits_58 mt_Rows_timesOfPart lk_Tg_71 st_Rows_timesOfPart rfl (Nat.le_of_ble_eq_true rfl) rfl (Nat.le_of_ble_eq_true rfl) (by decide) rfl ct ?_
      refine Ev.lstore_4 d_Tg_addSplits_61 rfl ?_
      refine Ev.lload d_Tg_addSplits_63 rfl ?_
      refine Ev.lconst (x := 0) d_Tg_addSplits_65 rfl ?_
      refine Ev.lcmp d_Tg_addSplits_66 (by first | omega | (simp [mu]; done) | (simp [mu]; omega)) (by first | omega | (simp [mu]; done) | (simp [mu]; omega)) ?_
      refine Ev.if_le (tgt := 97) d_Tg_addSplits_67 rfl lcm_b (fun hb67 => ?_) (fun hb67 => by exfalso; (try rw [lcm_le] at hb67); omega)
      rw [lcm_le] at hb67
      refine Ev.iinc_3 d_Tg_addSplits_97 rfl ?_
      refine Ev.goto (tgt := 30) d_Tg_addSplits_100 rfl ?_
      exact g1
theorem c_Tg_splits (hF : FcS σ) {d r : Nat} (hd : 2 ≤ d ∧ d ≤ 5) (hr : fst_ d ≤ r ∧ r < fst_ (d + 1)) {V : Int → Int} (hf : RF m (d + 1)) (hR : RC m (fst_ (d + 1))) (hV : VS m r V) (hc : spC d r (fst_ d - fst_ (d - 1)) (fst_ (d - 1)) = true) : ∃ m', Call 3 m_Tg_addSplits [vr 19, vi d, vi r] σ m none σ m' ∧ VS m' r (spS d r (fst_ d - fst_ (d - 1)) (fst_ (d - 1)) V) ∧ Fr21 r m m' := by
  have hfb := fst_b (d + 1) (by omega)
  have hfa := (fst_b (d - 1) (by omega)).2 (by omega)
  rw [show d - 1 + 1 = d by omega] at hfa
  have e22 := hf (d - 1) (by omega) (by omega)
  rw [show ((d - 1 : Nat) : Int) = (d : Int) - 1 by omega] at e22
  obtain ⟨mF, g1, g2⟩ := lp_Tg_splits hF hd hr (fst_ d - fst_ (d - 1)) (fst_ (d - 1)) V m none (by omega) hf hR hV hc
  refine ⟨mF, ?_, g2⟩
  show Ev 3 m_Tg_addSplits 0 [some (vr 19), some (vi d), some (vi r), none, none, none] [] σ m _ σ mF
  refine Ev.iload_n d_Tg_addSplits_0 rfl ?_
  refine Ev.iconst d_Tg_addSplits_1 ?_
  refine Ev.icmp_lt (tgt := 20) d_Tg_addSplits_2 rfl (by first | omega | (simp [mu]; done) | (simp [mu]; omega)) (by first | omega | (simp [mu]; done) | (simp [mu]; omega)) (fun hb2 => by exfalso; first | omega | simp at hb2 | contradiction) (fun hb2 => ?_)
  refine Ev.iload_n d_Tg_addSplits_5 rfl ?_
  refine Ev.iconst d_Tg_addSplits_6 ?_
  refine Ev.icmp_gt (tgt := 20) d_Tg_addSplits_7 rfl (by first | omega | (simp [mu]; done) | (simp [mu]; omega)) (by first | omega | (simp [mu]; done) | (simp [mu]; omega)) (fun hb7 => by exfalso; first | omega | simp at hb7 | contradiction) (fun hb7 => ?_)
  refine Ev.iload_n d_Tg_addSplits_10 rfl ?_
  refine Ev.if_lt (tgt := 20) d_Tg_addSplits_11 rfl (by first | omega | (simp [mu]; done) | (simp [mu]; omega)) (fun hb11 => by exfalso; first | omega | simp at hb11 | contradiction) (fun hb11 => ?_)
  refine Ev.iload_n d_Tg_addSplits_14 rfl ?_
  refine Ev.bipush d_Tg_addSplits_15 rfl ?_
  refine Ev.icmp_lt (tgt := 21) d_Tg_addSplits_17 rfl (by first | omega | (simp [mu]; done) | (simp [mu]; omega)) (by first | omega | (simp [mu]; done) | (simp [mu]; omega)) (fun hb17 => ?_) (fun hb17 => by exfalso; first | omega | simp at hb17 | contradiction)
  refine Ev.aload_n d_Tg_addSplits_21 rfl ?_
  refine Ev.gr 2 d_Tg_addSplits_22 lf_Tg_19 rfl rfl (fi_19 hF) (by decide) (fr_19_2 hF) ?_
  refine Ev.iload_n d_Tg_addSplits_25 rfl ?_
  refine Ev.iconst d_Tg_addSplits_26 ?_
  refine Ev.isub d_Tg_addSplits_27 ?_
  refine Ev.iaload d_Tg_addSplits_28 (fi_22 hF) (by first | omega | (simp [mu]; done) | (simp [mu]; omega)) ?_
  rw [e22]
  refine Ev.istore_3 d_Tg_addSplits_29 rfl ?_
  exact g1
end
