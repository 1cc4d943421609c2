section
variable {σ : Sg} {m : Mm}
/-! tangency rows: a row is the list of its figures, B figures 6 higher -/
def TL : List (List Int) := [[11], [10], [9], [8], [8, 9], [8, 8], [7], [7, 10], [7, 9], [7, 8], [7, 8, 8], [7, 7], [7, 7, 9], [7, 7, 8], [7, 7, 7], [7, 7, 7, 8], [7, 7, 7, 7], [7, 7, 7, 7, 7], [5], [4], [4, 7], [3], [3, 8], [3, 7], [3, 7, 7], [2], [2, 9], [2, 8], [2, 7], [2, 7, 8], [2, 7, 7], [2, 7, 7, 7], [2, 3], [2, 2], [2, 2, 7], [1], [1, 10], [1, 9], [1, 8], [1, 8, 8], [1, 7], [1, 7, 9], [1, 7, 8], [1, 7, 7], [1, 7, 7, 8], [1, 7, 7, 7], [1, 7, 7, 7, 7], [1, 4], [1, 3], [1, 3, 7], [1, 2], [1, 2, 8], [1, 2, 7], [1, 2, 7, 7], [1, 2, 2], [1, 1], [1, 1, 9], [1, 1, 8], [1, 1, 7], [1, 1, 7, 8], [1, 1, 7, 7], [1, 1, 7, 7, 7], [1, 1, 3], [1, 1, 2], [1, 1, 2, 7], [1, 1, 1], [1, 1, 1, 8], [1, 1, 1, 7], [1, 1, 1, 7, 7], [1, 1, 1, 2], [1, 1, 1, 1], [1, 1, 1, 1, 7], [1, 1, 1, 1, 1]]
def fg (x : Int) : Int := if 6 < x then x - 6 else x
def tsum : List Int → Int
  | [] => 0
  | x :: t => fg x + tsum t
def FGS (l : List Int) : Prop := ∀ x ∈ l, x = 1 ∨ x = 2 ∨ x = 3 ∨ x = 4 ∨ x = 5 ∨ x = 7 ∨ x = 8 ∨ x = 9 ∨ x = 10 ∨ x = 11
theorem tsum_cn : ∀ l : List Int, FGS l → 1 * (cn 1 l + cn 7 l) + 2 * (cn 2 l + cn 8 l) + 3 * (cn 3 l + cn 9 l) + 4 * (cn 4 l + cn 10 l) + 5 * (cn 5 l + cn 11 l) = tsum l
  | [], _ => by simp [cn, tsum]
  | s :: l, h => by
    have ih := tsum_cn l (fun x hx => h x (List.mem_cons_of_mem _ hx))
    simp only [tsum]
    rcases h s List.mem_cons_self with rfl | rfl | rfl | rfl | rfl | rfl | rfl | rfl | rfl | rfl <;> simp [cn, fg] <;> omega
theorem tsum_b : ∀ l : List Int, FGS l → 0 ≤ tsum l ∧ (l.length : Int) ≤ tsum l
  | [], _ => by simp [tsum]
  | s :: l, h => by
    have ih := tsum_b l (fun x hx => h x (List.mem_cons_of_mem _ hx))
    have hs := h s List.mem_cons_self
    simp only [tsum, List.length_cons]
    have : 1 ≤ fg s := by unfold fg; split <;> omega
    omega
theorem tsum_app : ∀ a b : List Int, tsum (a ++ b) = tsum a + tsum b
  | [], b => by simp [tsum]
  | s :: t, b => by simp only [List.cons_append, tsum, tsum_app t b]; omega
theorem tsum_flt (k : Int) : ∀ l : List Int, FGS l → tsum (l.filter (fun x => decide (x ≠ k))) ≤ tsum l
  | [], _ => by simp [tsum]
  | s :: t, h => by
    have ih := tsum_flt k t (fun x hx => h x (List.mem_cons_of_mem _ hx))
    have hs := h s List.mem_cons_self
    have : 1 ≤ fg s := by unfold fg; split <;> omega
    by_cases e : s = k
    · rw [List.filter_cons_of_neg (by simp [e])]
      simp only [tsum]; omega
    · rw [List.filter_cons_of_pos (by simp [e])]
      simp only [tsum]; omega
def R12 (a : Int) (m : Mm) (l : List Int) : Prop := ∀ j : Int, 0 ≤ j → j < 12 → m a j = cn j l
theorem c_Mo_sumOf (hM : MoS σ) {l : List Int} (hR : R12 83 m l) (hl : FGS l) : Call 1 m_Mo_sumOf [vr 83, vi 0] σ m (some (vi (tsum l))) σ m := by
  show Ev 1 m_Mo_sumOf 0 [some (vr 83), some (vi 0), none, none] [] σ m _ σ m
  have r1 : m 83 1 = cn 1 l := hR 1 (by decide) (by decide)
  have r2 : m 83 2 = cn 2 l := hR 2 (by decide) (by decide)
  have r3 : m 83 3 = cn 3 l := hR 3 (by decide) (by decide)
  have r4 : m 83 4 = cn 4 l := hR 4 (by decide) (by decide)
  have r5 : m 83 5 = cn 5 l := hR 5 (by decide) (by decide)
  have r7 : m 83 7 = cn 7 l := hR 7 (by decide) (by decide)
  have r8 : m 83 8 = cn 8 l := hR 8 (by decide) (by decide)
  have r9 : m 83 9 = cn 9 l := hR 9 (by decide) (by decide)
  have r10 : m 83 10 = cn 10 l := hR 10 (by decide) (by decide)
  have r11 : m 83 11 = cn 11 l := hR 11 (by decide) (by decide)
  refine Ev.iconst d_Mo_sumOf_0 ?_
  refine Ev.istore_2 d_Mo_sumOf_1 rfl ?_
  refine Ev.iconst d_Mo_sumOf_2 ?_
  refine Ev.istore_3 d_Mo_sumOf_3 rfl ?_
  refine Ev.iload_n d_Mo_sumOf_4 rfl ?_
  refine Ev.bipush d_Mo_sumOf_5 rfl ?_
  refine Ev.icmp_ge (tgt := 35) d_Mo_sumOf_7 rfl (by first | omega | (simp [mu]; done) | (simp [mu]; omega)) (by first | omega | (simp [mu]; done) | (simp [mu]; omega)) (fun hb7 => by exfalso; first | omega | simp at hb7 | contradiction) (fun hb7 => ?_)
  refine Ev.iload_n d_Mo_sumOf_10 rfl ?_
  refine Ev.iload_n d_Mo_sumOf_11 rfl ?_
  refine Ev.aload_n d_Mo_sumOf_12 rfl ?_
  refine Ev.iload_n d_Mo_sumOf_13 rfl ?_
  refine Ev.iload_n d_Mo_sumOf_14 rfl ?_
  refine Ev.iadd d_Mo_sumOf_15 ?_
  refine Ev.iaload d_Mo_sumOf_16 (is_83 hM) (by decide) ?_
  refine Ev.aload_n d_Mo_sumOf_17 rfl ?_
  refine Ev.iload_n d_Mo_sumOf_18 rfl ?_
  refine Ev.bipush d_Mo_sumOf_19 rfl ?_
  refine Ev.iadd d_Mo_sumOf_21 ?_
  refine Ev.iload_n d_Mo_sumOf_22 rfl ?_
  refine Ev.iadd d_Mo_sumOf_23 ?_
  refine Ev.iaload d_Mo_sumOf_24 (is_83 hM) (by decide) ?_
  refine Ev.iadd d_Mo_sumOf_25 ?_
  refine Ev.imul d_Mo_sumOf_26 ?_
  refine Ev.iadd d_Mo_sumOf_27 ?_
  refine Ev.istore_2 d_Mo_sumOf_28 rfl ?_
  refine Ev.iinc_3 d_Mo_sumOf_29 rfl ?_
  refine Ev.goto (tgt := 4) d_Mo_sumOf_32 rfl ?_
  refine Ev.iload_n d_Mo_sumOf_4 rfl ?_
  refine Ev.bipush d_Mo_sumOf_5 rfl ?_
  refine Ev.icmp_ge (tgt := 35) d_Mo_sumOf_7 rfl (by first | omega | (simp [mu]; done) | (simp [mu]; omega)) (by first | omega | (simp [mu]; done) | (simp [mu]; omega)) (fun hb7 => by exfalso; first | omega | simp at hb7 | contradiction) (fun hb7 => ?_)
  refine Ev.iload_n d_Mo_sumOf_10 rfl ?_
  refine Ev.iload_n d_Mo_sumOf_11 rfl ?_
  refine Ev.aload_n d_Mo_sumOf_12 rfl ?_
  refine Ev.iload_n d_Mo_sumOf_13 rfl ?_
  refine Ev.iload_n d_Mo_sumOf_14 rfl ?_
  refine Ev.iadd d_Mo_sumOf_15 ?_
  refine Ev.iaload d_Mo_sumOf_16 (is_83 hM) (by decide) ?_
  refine Ev.aload_n d_Mo_sumOf_17 rfl ?_
  refine Ev.iload_n d_Mo_sumOf_18 rfl ?_
  refine Ev.bipush d_Mo_sumOf_19 rfl ?_
  refine Ev.iadd d_Mo_sumOf_21 ?_
  refine Ev.iload_n d_Mo_sumOf_22 rfl ?_
  refine Ev.iadd d_Mo_sumOf_23 ?_
  refine Ev.iaload d_Mo_sumOf_24 (is_83 hM) (by decide) ?_
  refine Ev.iadd d_Mo_sumOf_25 ?_
  refine Ev.imul d_Mo_sumOf_26 ?_
  refine Ev.iadd d_Mo_sumOf_27 ?_
  refine Ev.istore_2 d_Mo_sumOf_28 rfl ?_
  refine Ev.iinc_3 d_Mo_sumOf_29 rfl ?_
  refine Ev.goto (tgt := 4) d_Mo_sumOf_32 rfl ?_
  refine Ev.iload_n d_Mo_sumOf_4 rfl ?_
  refine Ev.bipush d_Mo_sumOf_5 rfl ?_
  refine Ev.icmp_ge (tgt := 35) d_Mo_sumOf_7 rfl (by first | omega | (simp [mu]; done) | (simp [mu]; omega)) (by first | omega | (simp [mu]; done) | (simp [mu]; omega)) (fun hb7 => by exfalso; first | omega | simp at hb7 | contradiction) (fun hb7 => ?_)
  refine Ev.iload_n d_Mo_sumOf_10 rfl ?_
  refine Ev.iload_n d_Mo_sumOf_11 rfl ?_
  refine Ev.aload_n d_Mo_sumOf_12 rfl ?_
  refine Ev.iload_n d_Mo_sumOf_13 rfl ?_
  refine Ev.iload_n d_Mo_sumOf_14 rfl ?_
  refine Ev.iadd d_Mo_sumOf_15 ?_
  refine Ev.iaload d_Mo_sumOf_16 (is_83 hM) (by decide) ?_
  refine Ev.aload_n d_Mo_sumOf_17 rfl ?_
  refine Ev.iload_n d_Mo_sumOf_18 rfl ?_
  refine Ev.bipush d_Mo_sumOf_19 rfl ?_
  refine Ev.iadd d_Mo_sumOf_21 ?_
  refine Ev.iload_n d_Mo_sumOf_22 rfl ?_
  refine Ev.iadd d_Mo_sumOf_23 ?_
  refine Ev.iaload d_Mo_sumOf_24 (is_83 hM) (by decide) ?_
  refine Ev.iadd d_Mo_sumOf_25 ?_
  refine Ev.imul d_Mo_sumOf_26 ?_
  refine Ev.iadd d_Mo_sumOf_27 ?_
  refine Ev.istore_2 d_Mo_sumOf_28 rfl ?_
  refine Ev.iinc_3 d_Mo_sumOf_29 rfl ?_
  refine Ev.goto (tgt := 4) d_Mo_sumOf_32 rfl ?_
  refine Ev.iload_n d_Mo_sumOf_4 rfl ?_
  refine Ev.bipush d_Mo_sumOf_5 rfl ?_
  refine Ev.icmp_ge (tgt := 35) d_Mo_sumOf_7 rfl (by first | omega | (simp [mu]; done) | (simp [mu]; omega)) (by first | omega | (simp [mu]; done) | (simp [mu]; omega)) (fun hb7 => by exfalso; first | omega | simp at hb7 | contradiction) (fun hb7 => ?_)
  refine Ev.iload_n d_Mo_sumOf_10 rfl ?_
  refine Ev.iload_n d_Mo_sumOf_11 rfl ?_
  refine Ev.aload_n d_Mo_sumOf_12 rfl ?_
  refine Ev.iload_n d_Mo_sumOf_13 rfl ?_
  refine Ev.iload_n d_Mo_sumOf_14 rfl ?_
  refine Ev.iadd d_Mo_sumOf_15 ?_
  refine Ev.iaload d_Mo_sumOf_16 (is_83 hM) (by decide) ?_
  refine Ev.aload_n d_Mo_sumOf_17 rfl ?_
  refine Ev.iload_n d_Mo_sumOf_18 rfl ?_
  refine Ev.bipush d_Mo_sumOf_19 rfl ?_
  refine Ev.iadd d_Mo_sumOf_21 ?_
  refine Ev.iload_n d_Mo_sumOf_22 rfl ?_
  refine Ev.iadd d_Mo_sumOf_23 ?_
  refine Ev.iaload d_Mo_sumOf_24 (is_83 hM) (by decide) ?_
  refine Ev.iadd d_Mo_sumOf_25 ?_
  refine Ev.imul d_Mo_sumOf_26 ?_
  refine Ev.iadd d_Mo_sumOf_27 ?_
  refine Ev.istore_2 d_Mo_sumOf_28 rfl ?_
  refine Ev.iinc_3 d_Mo_sumOf_29 rfl ?_
  refine Ev.goto (tgt := 4) d_Mo_sumOf_32 rfl ?_
  refine Ev.iload_n d_Mo_sumOf_4 rfl ?_
  refine Ev.bipush d_Mo_sumOf_5 rfl ?_
  refine Ev.icmp_ge (tgt := 35) d_Mo_sumOf_7 rfl (by first | omega | (simp [mu]; done) | (simp [mu]; omega)) (by first | omega | (simp [mu]; done) | (simp [mu]; omega)) (fun hb7 => by exfalso; first | omega | simp at hb7 | contradiction) (fun hb7 => ?_)
  refine Ev.iload_n d_Mo_sumOf_10 rfl ?_
  refine Ev.iload_n d_Mo_sumOf_11 rfl ?_
  refine Ev.aload_n d_Mo_sumOf_12 rfl ?_
  refine Ev.iload_n d_Mo_sumOf_13 rfl ?_
  refine Ev.iload_n d_Mo_sumOf_14 rfl ?_
  refine Ev.iadd d_Mo_sumOf_15 ?_
  refine Ev.iaload d_Mo_sumOf_16 (is_83 hM) (by decide) ?_
  refine Ev.aload_n d_Mo_sumOf_17 rfl ?_
  refine Ev.iload_n d_Mo_sumOf_18 rfl ?_
  refine Ev.bipush d_Mo_sumOf_19 rfl ?_
  refine Ev.iadd d_Mo_sumOf_21 ?_
  refine Ev.iload_n d_Mo_sumOf_22 rfl ?_
  refine Ev.iadd d_Mo_sumOf_23 ?_
  refine Ev.iaload d_Mo_sumOf_24 (is_83 hM) (by decide) ?_
  refine Ev.iadd d_Mo_sumOf_25 ?_
  refine Ev.imul d_Mo_sumOf_26 ?_
  refine Ev.iadd d_Mo_sumOf_27 ?_
  refine Ev.istore_2 d_Mo_sumOf_28 rfl ?_
  refine Ev.iinc_3 d_Mo_sumOf_29 rfl ?_
  refine Ev.goto (tgt := 4) d_Mo_sumOf_32 rfl ?_
  refine Ev.iload_n d_Mo_sumOf_4 rfl ?_
  refine Ev.bipush d_Mo_sumOf_5 rfl ?_
  refine Ev.icmp_ge (tgt := 35) d_Mo_sumOf_7 rfl (by first | omega | (simp [mu]; done) | (simp [mu]; omega)) (by first | omega | (simp [mu]; done) | (simp [mu]; omega)) (fun hb7 => ?_) (fun hb7 => by exfalso; first | omega | simp at hb7 | contradiction)
  refine Ev.iload_n d_Mo_sumOf_35 rfl ?_
  exact Ev.to (Ev.ireturn d_Mo_sumOf_36 rfl) (ri (by rw [← tsum_cn l hl]; simp [r1, r2, r3, r4, r5, r7, r8, r9, r10, r11])) rfl
theorem R12_add {a k : Int} {l : List Int} (h : R12 a m l) : R12 a (mu m a k (m a k + 1)) (l ++ [k]) := fun j h0 h1 => by
  rw [cn_app]
  by_cases e : j = k
  · subst e
    rw [mu_s, h j h0 h1]
    simp [cn]
  · rw [mu_n (Or.inr e), h j h0 h1]
    simp only [cn]
    rw [if_neg (fun z => e z.symm)]; omega
theorem R12_clr {a k : Int} {l : List Int} {m' : Mm} (h : R12 a m l) (he : ∀ j, j ≠ k → m' a j = m a j) (hk : m' a k = 0) : R12 a m' (l.filter (fun x => decide (x ≠ k))) := fun j h0 h1 => by
  rw [cn_flt]
  by_cases e : j = k
  · rw [if_pos e, e, hk]
  · rw [if_neg e, he j e, h j h0 h1]
def nxr : Nat → List Int → Option (List Int)
  | 0, _ => none
  | q + 1, l => if q = 5 then nxr q l else if tsum (l ++ [((q + 1 : Nat) : Int)]) ≤ 5 then some (l ++ [((q + 1 : Nat) : Int)]) else nxr q (l.filter (fun x => decide (x ≠ ((q + 1 : Nat) : Int))))
def Fr83 (m m' : Mm) : Prop := ∀ a j : Int, a ≠ 83 → m' a j = m a j
theorem FGS_flt {l : List Int} {k : Int} (h : FGS l) : FGS (l.filter (fun x => decide (x ≠ k))) := fun x hx => h x (List.mem_filter.mp hx).1
theorem FGS_add {l : List Int} {k : Int} (h : FGS l) (hk : 1 ≤ k ∧ k ≤ 11 ∧ k ≠ 6) : FGS (l ++ [k]) := fun x hx => by
  rcases List.mem_append.mp hx with h1 | h1
  · exact h x h1
  · have := List.mem_singleton.mp h1; omega
/-- the search for the next row: found or not -/
theorem lpk4 (hM : MoS σ) {r : Option AV} {Post : Mm → Prop} : ∀ (q : Nat) (k : Int) (l : List Int) (m : Mm) (x4 : Option AV), k = q → q ≤ 5 → R12 83 m l → FGS l → tsum l ≤ 5 → (∀ (m' : Mm) (z : Int), Fr83 m m' → (nxr q l = none → ∃ mF, Ev 2 m_Mo_layRows 99 [some (vr 57), some (vi 1), some (vi z), some (vi 0), x4] [] σ m' r σ mF ∧ Post mF) ∧ (∀ l', nxr q l = some l' → R12 83 m' l' → FGS l' → tsum l' ≤ 5 → ∃ mF, Ev 2 m_Mo_layRows 99 [some (vr 57), some (vi 1), some (vi z), some (vi 1), x4] [] σ m' r σ mF ∧ Post mF)) → ∃ mF, Ev 2 m_Mo_layRows 37 [some (vr 57), some (vi 1), some (vi k), some (vi 0), x4] [] σ m r σ mF ∧ Post mF := by
  intro q
  induction q with
  | zero =>
    intro k l m x4 hk hq hR hl hs c
    obtain ⟨mF, g1, g2⟩ := (c m k (fun _ _ _ => rfl)).1 rfl
    refine ⟨mF, ?_, g2⟩
    refine Ev.iload_n d_Mo_layRows_37 rfl ?_
    refine Ev.if_le (tgt := 99) d_Mo_layRows_38 rfl (by first | omega | (simp [mu]; done) | (simp [mu]; omega)) (fun hb38 => ?_) (fun hb38 => by exfalso; first | omega | simp at hb38 | contradiction)
    exact g1
  | succ q ih =>
    intro k l m x4 hk hq hR hl hs c
    have h5 : q ≠ 5 := by omega
    subst hk
    have hR2 := R12_add (k := ((q + 1 : Nat) : Int)) hR
    have hl2 := FGS_add (k := ((q + 1 : Nat) : Int)) hl (by omega)
    have hb := tsum_b _ hl2
    have hfg : fg ((q + 1 : Nat) : Int) ≤ 5 := by unfold fg; split <;> omega
    have hb1 : tsum (l ++ [((q + 1 : Nat) : Int)]) = tsum l + fg ((q + 1 : Nat) : Int) := by rw [tsum_app]; simp [tsum]
    have hk0 : (0 : Int) < ((q + 1 : Nat) : Int) := by omega
    have hk6 : ((q + 1 : Nat) : Int) ≠ 6 := by omega
    have hk12 : ((q + 1 : Nat) : Int) < 12 := by omega
    by_cases ht : tsum (l ++ [((q + 1 : Nat) : Int)]) ≤ 5
    · have e5 : nxr (q + 1) l = some (l ++ [((q + 1 : Nat) : Int)]) := by simp only [nxr]; rw [if_neg h5, if_pos ht]
      obtain ⟨mF, g1, g2⟩ := (c (mu m 83 ((q + 1 : Nat) : Int) (m 83 ((q + 1 : Nat) : Int) + 1)) ((q + 1 : Nat) : Int) (fun a j ha => mu_a ha)).2 _ e5 hR2 hl2 ht
      refine ⟨mF, ?_, g2⟩
      generalize ((q + 1 : Nat) : Int) = k at *
      refine Ev.iload_n d_Mo_layRows_37 rfl ?_
      refine Ev.if_le (tgt := 99) d_Mo_layRows_38 rfl (by first | omega | (simp [mu]; done) | (simp [mu]; omega)) (fun hb38 => by exfalso; first | omega | simp at hb38 | contradiction) (fun hb38 => ?_)
      refine Ev.iload_n d_Mo_layRows_41 rfl ?_
      refine Ev.if_ne (tgt := 99) d_Mo_layRows_42 rfl (by first | omega | (simp [mu]; done) | (simp [mu]; omega)) (fun hb42 => by exfalso; first | omega | simp at hb42 | contradiction) (fun hb42 => ?_)
      refine Ev.iload_n d_Mo_layRows_45 rfl ?_
      refine Ev.bipush d_Mo_layRows_46 rfl ?_
      refine Ev.icmp_ne (tgt := 54) d_Mo_layRows_48 rfl (by first | omega | (simp [mu]; done) | (simp [mu]; omega)) (by first | omega | (simp [mu]; done) | (simp [mu]; omega)) (fun hb48 => ?_) (fun hb48 => by exfalso; first | omega | simp at hb48 | contradiction)
      refine Ev.aload_n d_Mo_layRows_54 rfl ?_
      refine Ev.gr 34 d_Mo_layRows_55 lf_Mo_88 rfl rfl (is_57 hM) (by decide) (rf_57_34 hM) ?_
      refine Ev.iload_n d_Mo_layRows_58 rfl ?_
      refine Ev.dup2 d_Mo_layRows_59 rfl rfl ?_
      refine Ev.iaload d_Mo_layRows_60 (is_83 hM) (by first | omega | (simp [mu]; done) | (simp [mu]; omega)) ?_
      refine Ev.iconst d_Mo_layRows_61 ?_
      refine Ev.iadd d_Mo_layRows_62 ?_
      refine Ev.iastore d_Mo_layRows_63 (is_83 hM) (by decide) (by first | omega | (simp [mu]; done) | (simp [mu]; omega)) ?_
      refine Ev.aload_n d_Mo_layRows_64 rfl ?_
      refine Ev.gr 34 d_Mo_layRows_65 lf_Mo_88 rfl rfl (is_57 hM) (by decide) (rf_57_34 hM) ?_
      refine Ev.iconst d_Mo_layRows_68 ?_
      refine Ev.callS d_Mo_layRows_69 mt_Mo_sumOf lk_Mo_259 st_Mo_sumOf rfl (Nat.le_of_ble_eq_true rfl) rfl (Nat.le_of_ble_eq_true rfl) (by decide) rfl (c_Mo_sumOf hM hR2 hl2) ?_
      refine Ev.iconst d_Mo_layRows_72 ?_
      refine Ev.icmp_gt (tgt := 80) d_Mo_layRows_73 rfl (by first | omega | (simp [mu]; done) | (simp [mu]; omega)) (by first | omega | (simp [mu]; done) | (simp [mu]; omega)) (fun hb73 => by exfalso; first | omega | simp at hb73 | contradiction) (fun hb73 => ?_)
      refine Ev.iconst d_Mo_layRows_76 ?_
      refine Ev.goto (tgt := 81) d_Mo_layRows_77 rfl ?_
      refine Ev.istore_3 d_Mo_layRows_81 rfl ?_
      refine Ev.iload_n d_Mo_layRows_82 rfl ?_
      refine Ev.if_ne (tgt := 37) d_Mo_layRows_83 rfl (by first | omega | (simp [mu]; done) | (simp [mu]; omega)) (fun hb83 => ?_) (fun hb83 => by exfalso; first | omega | simp at hb83 | contradiction)
      refine Ev.iload_n d_Mo_layRows_37 rfl ?_
      refine Ev.if_le (tgt := 99) d_Mo_layRows_38 rfl (by first | omega | (simp [mu]; done) | (simp [mu]; omega)) (fun hb38 => by exfalso; first | omega | simp at hb38 | contradiction) (fun hb38 => ?_)
      refine Ev.iload_n d_Mo_layRows_41 rfl ?_
      refine Ev.if_ne (tgt := 99) d_Mo_layRows_42 rfl (by first | omega | (simp [mu]; done) | (simp [mu]; omega)) (fun hb42 => ?_) (fun hb42 => by exfalso; first | omega | simp at hb42 | contradiction)
      exact g1
    · have e5 : nxr (q + 1) l = nxr q (l.filter (fun x => decide (x ≠ ((q + 1 : Nat) : Int)))) := by simp only [nxr]; rw [if_neg h5, if_neg ht]
      rw [e5] at c
      have hl3 := FGS_flt (k := ((q + 1 : Nat) : Int)) hl
      have hs3 := tsum_flt ((q + 1 : Nat) : Int) l hl
      obtain ⟨mF, g1, g2⟩ := ih (((q + 1 : Nat) : Int) + -1) _ (mu (mu m 83 ((q + 1 : Nat) : Int) (m 83 ((q + 1 : Nat) : Int) + 1)) 83 ((q + 1 : Nat) : Int) 0) x4 (by omega) (by omega) (R12_clr hR (fun j hj => by rw [mu_n (Or.inr hj), mu_n (Or.inr hj)]) mu_s) hl3 (by omega) (fun m' z fr => c m' z (fun a j ha => (fr a j ha).trans (by rw [mu_a ha, mu_a ha])))
      refine ⟨mF, ?_, g2⟩
      generalize ((q + 1 : Nat) : Int) = k at *
      refine Ev.iload_n d_Mo_layRows_37 rfl ?_
      refine Ev.if_le (tgt := 99) d_Mo_layRows_38 rfl (by first | omega | (simp [mu]; done) | (simp [mu]; omega)) (fun hb38 => by exfalso; first | omega | simp at hb38 | contradiction) (fun hb38 => ?_)
      refine Ev.iload_n d_Mo_layRows_41 rfl ?_
      refine Ev.if_ne (tgt := 99) d_Mo_layRows_42 rfl (by first | omega | (simp [mu]; done) | (simp [mu]; omega)) (fun hb42 => by exfalso; first | omega | simp at hb42 | contradiction) (fun hb42 => ?_)
      refine Ev.iload_n d_Mo_layRows_45 rfl ?_
      refine Ev.bipush d_Mo_layRows_46 rfl ?_
      refine Ev.icmp_ne (tgt := 54) d_Mo_layRows_48 rfl (by first | omega | (simp [mu]; done) | (simp [mu]; omega)) (by first | omega | (simp [mu]; done) | (simp [mu]; omega)) (fun hb48 => ?_) (fun hb48 => by exfalso; first | omega | simp at hb48 | contradiction)
      refine Ev.aload_n d_Mo_layRows_54 rfl ?_
      refine Ev.gr 34 d_Mo_layRows_55 lf_Mo_88 rfl rfl (is_57 hM) (by decide) (rf_57_34 hM) ?_
      refine Ev.iload_n d_Mo_layRows_58 rfl ?_
      refine Ev.dup2 d_Mo_layRows_59 rfl rfl ?_
      refine Ev.iaload d_Mo_layRows_60 (is_83 hM) (by first | omega | (simp [mu]; done) | (simp [mu]; omega)) ?_
      refine Ev.iconst d_Mo_layRows_61 ?_
      refine Ev.iadd d_Mo_layRows_62 ?_
      refine Ev.iastore d_Mo_layRows_63 (is_83 hM) (by decide) (by first | omega | (simp [mu]; done) | (simp [mu]; omega)) ?_
      refine Ev.aload_n d_Mo_layRows_64 rfl ?_
      refine Ev.gr 34 d_Mo_layRows_65 lf_Mo_88 rfl rfl (is_57 hM) (by decide) (rf_57_34 hM) ?_
      refine Ev.iconst d_Mo_layRows_68 ?_
      refine Ev.callS d_Mo_layRows_69 mt_Mo_sumOf lk_Mo_259 st_Mo_sumOf rfl (Nat.le_of_ble_eq_true rfl) rfl (Nat.le_of_ble_eq_true rfl) (by decide) rfl (c_Mo_sumOf hM hR2 hl2) ?_
      refine Ev.iconst d_Mo_layRows_72 ?_
      refine Ev.icmp_gt (tgt := 80) d_Mo_layRows_73 rfl (by first | omega | (simp [mu]; done) | (simp [mu]; omega)) (by first | omega | (simp [mu]; done) | (simp [mu]; omega)) (fun hb73 => ?_) (fun hb73 => by exfalso; first | omega | simp at hb73 | contradiction)
      refine Ev.iconst d_Mo_layRows_80 ?_
      refine Ev.istore_3 d_Mo_layRows_81 rfl ?_
      refine Ev.iload_n d_Mo_layRows_82 rfl ?_
      refine Ev.if_ne (tgt := 37) d_Mo_layRows_83 rfl (by first | omega | (simp [mu]; done) | (simp [mu]; omega)) (fun hb83 => by exfalso; first | omega | simp at hb83 | contradiction) (fun hb83 => ?_)
      refine Ev.aload_n d_Mo_layRows_86 rfl ?_
      refine Ev.gr 34 d_Mo_layRows_87 lf_Mo_88 rfl rfl (is_57 hM) (by decide) (rf_57_34 hM) ?_
      refine Ev.iload_n d_Mo_layRows_90 rfl ?_
      refine Ev.iconst d_Mo_layRows_91 ?_
      refine Ev.iastore d_Mo_layRows_92 (is_83 hM) (by decide) (by first | omega | (simp [mu]; done) | (simp [mu]; omega)) ?_
      refine Ev.iinc_2 d_Mo_layRows_93 rfl ?_
      refine Ev.goto (tgt := 37) d_Mo_layRows_96 rfl ?_
      exact g1


/-- the search for the next row: found or not -/
theorem lpk_Mo_layRows (hM : MoS σ) {r : Option AV} {Post : Mm → Prop} : ∀ (q : Nat) (k : Int) (l : List Int) (m : Mm) (x4 : Option AV), k = q → q ≤ 11 → R12 83 m l → FGS l → tsum l ≤ 5 → (∀ (m' : Mm) (z : Int), Fr83 m m' → (nxr q l = none → ∃ mF, Ev 2 m_Mo_layRows 99 [some (vr 57), some (vi 1), some (vi z), some (vi 0), x4] [] σ m' r σ mF ∧ Post mF) ∧ (∀ l', nxr q l = some l' → R12 83 m' l' → FGS l' → tsum l' ≤ 5 → ∃ mF, Ev 2 m_Mo_layRows 99 [some (vr 57), some (vi 1), some (vi z), some (vi 1), x4] [] σ m' r σ mF ∧ Post mF)) → ∃ mF, Ev 2 m_Mo_layRows 37 [some (vr 57), some (vi 1), some (vi k), some (vi 0), x4] [] σ m r σ mF ∧ Post mF := by
  intro q
  induction q with
  | zero =>
    intro k l m x4 hk hq hR hl hs c
    obtain ⟨mF, g1, g2⟩ := (c m k (fun _ _ _ => rfl)).1 rfl
    refine ⟨mF, ?_, g2⟩
    refine Ev.iload_n d_Mo_layRows_37 rfl ?_
    refine Ev.if_le (tgt := 99) d_Mo_layRows_38 rfl (by first | omega | (simp [mu]; done) | (simp [mu]; omega)) (fun hb38 => ?_) (fun hb38 => by exfalso; first | omega | simp at hb38 | contradiction)
    exact g1
  | succ q ih =>
    intro k l m x4 hk hq hR hl hs c
    by_cases h5 : q = 5
    · have en : nxr (q + 1) l = nxr q l := by simp only [nxr]; rw [if_pos h5]
      rw [en] at c
      -- the step at 6 is the step at 5
      subst h5
      subst hk
      have hR2 := R12_add (k := 5) hR
      have hl2 := FGS_add (k := 5) hl (by decide)
      have hb := tsum_b _ hl2
      have hb1 : tsum (l ++ [5]) = tsum l + 5 := by rw [tsum_app]; rfl
      by_cases ht : tsum (l ++ [5]) ≤ 5
      · have e5 : nxr 5 l = some (l ++ [5]) := by
          show (if (4 : Nat) = 5 then _ else if tsum (l ++ [((4 + 1 : Nat) : Int)]) ≤ 5 then some (l ++ [((4 + 1 : Nat) : Int)]) else _) = _
          exact (if_neg (by decide)).trans (if_pos ht)
        obtain ⟨mF, g1, g2⟩ := (c (mu m 83 5 (m 83 5 + 1)) 5 (fun a j ha => mu_a ha)).2 _ e5 hR2 hl2 ht
        refine ⟨mF, ?_, g2⟩
        show Ev 2 m_Mo_layRows 37 [some (vr 57), some (vi 1), some (vi 6), some (vi 0), x4] [] σ m r σ mF
        refine Ev.iload_n d_Mo_layRows_37 rfl ?_
        refine Ev.if_le (tgt := 99) d_Mo_layRows_38 rfl (by first | omega | (simp [mu]; done) | (simp [mu]; omega)) (fun hb38 => by exfalso; first | omega | simp at hb38 | contradiction) (fun hb38 => ?_)
        refine Ev.iload_n d_Mo_layRows_41 rfl ?_
        refine Ev.if_ne (tgt := 99) d_Mo_layRows_42 rfl (by first | omega | (simp [mu]; done) | (simp [mu]; omega)) (fun hb42 => by exfalso; first | omega | simp at hb42 | contradiction) (fun hb42 => ?_)
        refine Ev.iload_n d_Mo_layRows_45 rfl ?_
        refine Ev.bipush d_Mo_layRows_46 rfl ?_
        refine Ev.icmp_ne (tgt := 54) d_Mo_layRows_48 rfl (by first | omega | (simp [mu]; done) | (simp [mu]; omega)) (by first | omega | (simp [mu]; done) | (simp [mu]; omega)) (fun hb48 => by exfalso; first | omega | simp at hb48 | contradiction) (fun hb48 => ?_)
        refine Ev.iinc_2 d_Mo_layRows_51 rfl ?_
        rw [show (6 : Int) + -1 = 5 from rfl]
        refine Ev.aload_n d_Mo_layRows_54 rfl ?_
        refine Ev.gr 34 d_Mo_layRows_55 lf_Mo_88 rfl rfl (is_57 hM) (by decide) (rf_57_34 hM) ?_
        refine Ev.iload_n d_Mo_layRows_58 rfl ?_
        refine Ev.dup2 d_Mo_layRows_59 rfl rfl ?_
        refine Ev.iaload d_Mo_layRows_60 (is_83 hM) (by first | omega | (simp [mu]; done) | (simp [mu]; omega)) ?_
        refine Ev.iconst d_Mo_layRows_61 ?_
        refine Ev.iadd d_Mo_layRows_62 ?_
        refine Ev.iastore d_Mo_layRows_63 (is_83 hM) (by decide) (by first | omega | (simp [mu]; done) | (simp [mu]; omega)) ?_
        refine Ev.aload_n d_Mo_layRows_64 rfl ?_
        refine Ev.gr 34 d_Mo_layRows_65 lf_Mo_88 rfl rfl (is_57 hM) (by decide) (rf_57_34 hM) ?_
        refine Ev.iconst d_Mo_layRows_68 ?_
        refine Ev.callS d_Mo_layRows_69 mt_Mo_sumOf lk_Mo_259 st_Mo_sumOf rfl (Nat.le_of_ble_eq_true rfl) rfl (Nat.le_of_ble_eq_true rfl) (by decide) rfl (c_Mo_sumOf hM hR2 hl2) ?_
        refine Ev.iconst d_Mo_layRows_72 ?_
        refine Ev.icmp_gt (tgt := 80) d_Mo_layRows_73 rfl (by first | omega | (simp [mu]; done) | (simp [mu]; omega)) (by first | omega | (simp [mu]; done) | (simp [mu]; omega)) (fun hb73 => by exfalso; first | omega | simp at hb73 | contradiction) (fun hb73 => ?_)
        refine Ev.iconst d_Mo_layRows_76 ?_
        refine Ev.goto (tgt := 81) d_Mo_layRows_77 rfl ?_
        refine Ev.istore_3 d_Mo_layRows_81 rfl ?_
        refine Ev.iload_n d_Mo_layRows_82 rfl ?_
        refine Ev.if_ne (tgt := 37) d_Mo_layRows_83 rfl (by first | omega | (simp [mu]; done) | (simp [mu]; omega)) (fun hb83 => ?_) (fun hb83 => by exfalso; first | omega | simp at hb83 | contradiction)
        refine Ev.iload_n d_Mo_layRows_37 rfl ?_
        refine Ev.if_le (tgt := 99) d_Mo_layRows_38 rfl (by first | omega | (simp [mu]; done) | (simp [mu]; omega)) (fun hb38 => by exfalso; first | omega | simp at hb38 | contradiction) (fun hb38 => ?_)
        refine Ev.iload_n d_Mo_layRows_41 rfl ?_
        refine Ev.if_ne (tgt := 99) d_Mo_layRows_42 rfl (by first | omega | (simp [mu]; done) | (simp [mu]; omega)) (fun hb42 => ?_) (fun hb42 => by exfalso; first | omega | simp at hb42 | contradiction)
        exact g1
      · obtain ⟨mF, g1, g2⟩ : ∃ mF, Ev 2 m_Mo_layRows 37 [some (vr 57), some (vi 1), some (vi 4), some (vi 0), x4] [] σ (mu (mu m 83 5 (m 83 5 + 1)) 83 5 0) r σ mF ∧ Post mF := by
          have e5 : nxr 5 l = nxr 4 (l.filter (fun x => decide (x ≠ 5))) := by
            show (if (4 : Nat) = 5 then _ else if tsum (l ++ [((4 + 1 : Nat) : Int)]) ≤ 5 then _ else nxr 4 (l.filter (fun x => decide (x ≠ ((4 + 1 : Nat) : Int))))) = _
            exact (if_neg (by decide)).trans (if_neg ht)
          rw [e5] at c
          have hl3 := FGS_flt (k := 5) hl
          have hs3 := tsum_flt 5 l hl
          exact lpk4 hM 4 4 _ _ x4 rfl (by decide) (R12_clr hR (fun j hj => by rw [mu_n (Or.inr hj), mu_n (Or.inr hj)]) mu_s) hl3 (by omega) (fun m' z fr => c m' z (fun a j ha => (fr a j ha).trans (by rw [mu_a ha, mu_a ha])))
        refine ⟨mF, ?_, g2⟩
        show Ev 2 m_Mo_layRows 37 [some (vr 57), some (vi 1), some (vi 6), some (vi 0), x4] [] σ m r σ mF
        refine Ev.iload_n d_Mo_layRows_37 rfl ?_
        refine Ev.if_le (tgt := 99) d_Mo_layRows_38 rfl (by first | omega | (simp [mu]; done) | (simp [mu]; omega)) (fun hb38 => by exfalso; first | omega | simp at hb38 | contradiction) (fun hb38 => ?_)
        refine Ev.iload_n d_Mo_layRows_41 rfl ?_
        refine Ev.if_ne (tgt := 99) d_Mo_layRows_42 rfl (by first | omega | (simp [mu]; done) | (simp [mu]; omega)) (fun hb42 => by exfalso; first | omega | simp at hb42 | contradiction) (fun hb42 => ?_)
        refine Ev.iload_n d_Mo_layRows_45 rfl ?_
        refine Ev.bipush d_Mo_layRows_46 rfl ?_
        refine Ev.icmp_ne (tgt := 54) d_Mo_layRows_48 rfl (by first | omega | (simp [mu]; done) | (simp [mu]; omega)) (by first | omega | (simp [mu]; done) | (simp [mu]; omega)) (fun hb48 => by exfalso; first | omega | simp at hb48 | contradiction) (fun hb48 => ?_)
        refine Ev.iinc_2 d_Mo_layRows_51 rfl ?_
        rw [show (6 : Int) + -1 = 5 from rfl]
        refine Ev.aload_n d_Mo_layRows_54 rfl ?_
        refine Ev.gr 34 d_Mo_layRows_55 lf_Mo_88 rfl rfl (is_57 hM) (by decide) (rf_57_34 hM) ?_
        refine Ev.iload_n d_Mo_layRows_58 rfl ?_
        refine Ev.dup2 d_Mo_layRows_59 rfl rfl ?_
        refine Ev.iaload d_Mo_layRows_60 (is_83 hM) (by first | omega | (simp [mu]; done) | (simp [mu]; omega)) ?_
        refine Ev.iconst d_Mo_layRows_61 ?_
        refine Ev.iadd d_Mo_layRows_62 ?_
        refine Ev.iastore d_Mo_layRows_63 (is_83 hM) (by decide) (by first | omega | (simp [mu]; done) | (simp [mu]; omega)) ?_
        refine Ev.aload_n d_Mo_layRows_64 rfl ?_
        refine Ev.gr 34 d_Mo_layRows_65 lf_Mo_88 rfl rfl (is_57 hM) (by decide) (rf_57_34 hM) ?_
        refine Ev.iconst d_Mo_layRows_68 ?_
        refine Ev.callS d_Mo_layRows_69 mt_Mo_sumOf lk_Mo_259 st_Mo_sumOf rfl (Nat.le_of_ble_eq_true rfl) rfl (Nat.le_of_ble_eq_true rfl) (by decide) rfl (c_Mo_sumOf hM hR2 hl2) ?_
        refine Ev.iconst d_Mo_layRows_72 ?_
        refine Ev.icmp_gt (tgt := 80) d_Mo_layRows_73 rfl (by first | omega | (simp [mu]; done) | (simp [mu]; omega)) (by first | omega | (simp [mu]; done) | (simp [mu]; omega)) (fun hb73 => ?_) (fun hb73 => by exfalso; first | omega | simp at hb73 | contradiction)
        refine Ev.iconst d_Mo_layRows_80 ?_
        refine Ev.istore_3 d_Mo_layRows_81 rfl ?_
        refine Ev.iload_n d_Mo_layRows_82 rfl ?_
        refine Ev.if_ne (tgt := 37) d_Mo_layRows_83 rfl (by first | omega | (simp [mu]; done) | (simp [mu]; omega)) (fun hb83 => by exfalso; first | omega | simp at hb83 | contradiction) (fun hb83 => ?_)
        refine Ev.aload_n d_Mo_layRows_86 rfl ?_
        refine Ev.gr 34 d_Mo_layRows_87 lf_Mo_88 rfl rfl (is_57 hM) (by decide) (rf_57_34 hM) ?_
        refine Ev.iload_n d_Mo_layRows_90 rfl ?_
        refine Ev.iconst d_Mo_layRows_91 ?_
        refine Ev.iastore d_Mo_layRows_92 (is_83 hM) (by decide) (by first | omega | (simp [mu]; done) | (simp [mu]; omega)) ?_
        refine Ev.iinc_2 d_Mo_layRows_93 rfl ?_
        rw [show (5 : Int) + -1 = 4 from rfl]
        refine Ev.goto (tgt := 37) d_Mo_layRows_96 rfl ?_
        exact g1
    · subst hk
      have hR2 := R12_add (k := ((q + 1 : Nat) : Int)) hR
      have hl2 := FGS_add (k := ((q + 1 : Nat) : Int)) hl (by omega)
      have hb := tsum_b _ hl2
      have hfg : fg ((q + 1 : Nat) : Int) ≤ 5 := by unfold fg; split <;> omega
      have hb1 : tsum (l ++ [((q + 1 : Nat) : Int)]) = tsum l + fg ((q + 1 : Nat) : Int) := by rw [tsum_app]; simp [tsum]
      have hk0 : (0 : Int) < ((q + 1 : Nat) : Int) := by omega
      have hk6 : ((q + 1 : Nat) : Int) ≠ 6 := by omega
      have hk12 : ((q + 1 : Nat) : Int) < 12 := by omega
      by_cases ht : tsum (l ++ [((q + 1 : Nat) : Int)]) ≤ 5
      · have e5 : nxr (q + 1) l = some (l ++ [((q + 1 : Nat) : Int)]) := by simp only [nxr]; rw [if_neg h5, if_pos ht]
        obtain ⟨mF, g1, g2⟩ := (c (mu m 83 ((q + 1 : Nat) : Int) (m 83 ((q + 1 : Nat) : Int) + 1)) ((q + 1 : Nat) : Int) (fun a j ha => mu_a ha)).2 _ e5 hR2 hl2 ht
        refine ⟨mF, ?_, g2⟩
        generalize ((q + 1 : Nat) : Int) = k at *
        refine Ev.iload_n d_Mo_layRows_37 rfl ?_
        refine Ev.if_le (tgt := 99) d_Mo_layRows_38 rfl (by first | omega | (simp [mu]; done) | (simp [mu]; omega)) (fun hb38 => by exfalso; first | omega | simp at hb38 | contradiction) (fun hb38 => ?_)
        refine Ev.iload_n d_Mo_layRows_41 rfl ?_
        refine Ev.if_ne (tgt := 99) d_Mo_layRows_42 rfl (by first | omega | (simp [mu]; done) | (simp [mu]; omega)) (fun hb42 => by exfalso; first | omega | simp at hb42 | contradiction) (fun hb42 => ?_)
        refine Ev.iload_n d_Mo_layRows_45 rfl ?_
        refine Ev.bipush d_Mo_layRows_46 rfl ?_
        refine Ev.icmp_ne (tgt := 54) d_Mo_layRows_48 rfl (by first | omega | (simp [mu]; done) | (simp [mu]; omega)) (by first | omega | (simp [mu]; done) | (simp [mu]; omega)) (fun hb48 => ?_) (fun hb48 => by exfalso; first | omega | simp at hb48 | contradiction)
        refine Ev.aload_n d_Mo_layRows_54 rfl ?_
        refine Ev.gr 34 d_Mo_layRows_55 lf_Mo_88 rfl rfl (is_57 hM) (by decide) (rf_57_34 hM) ?_
        refine Ev.iload_n d_Mo_layRows_58 rfl ?_
        refine Ev.dup2 d_Mo_layRows_59 rfl rfl ?_
        refine Ev.iaload d_Mo_layRows_60 (is_83 hM) (by first | omega | (simp [mu]; done) | (simp [mu]; omega)) ?_
        refine Ev.iconst d_Mo_layRows_61 ?_
        refine Ev.iadd d_Mo_layRows_62 ?_
        refine Ev.iastore d_Mo_layRows_63 (is_83 hM) (by decide) (by first | omega | (simp [mu]; done) | (simp [mu]; omega)) ?_
        refine Ev.aload_n d_Mo_layRows_64 rfl ?_
        refine Ev.gr 34 d_Mo_layRows_65 lf_Mo_88 rfl rfl (is_57 hM) (by decide) (rf_57_34 hM) ?_
        refine Ev.iconst d_Mo_layRows_68 ?_
        refine Ev.callS d_Mo_layRows_69 mt_Mo_sumOf lk_Mo_259 st_Mo_sumOf rfl (Nat.le_of_ble_eq_true rfl) rfl (Nat.le_of_ble_eq_true rfl) (by decide) rfl (c_Mo_sumOf hM hR2 hl2) ?_
        refine Ev.iconst d_Mo_layRows_72 ?_
        refine Ev.icmp_gt (tgt := 80) d_Mo_layRows_73 rfl (by first | omega | (simp [mu]; done) | (simp [mu]; omega)) (by first | omega | (simp [mu]; done) | (simp [mu]; omega)) (fun hb73 => by exfalso; first | omega | simp at hb73 | contradiction) (fun hb73 => ?_)
        refine Ev.iconst d_Mo_layRows_76 ?_
        refine Ev.goto (tgt := 81) d_Mo_layRows_77 rfl ?_
        refine Ev.istore_3 d_Mo_layRows_81 rfl ?_
        refine Ev.iload_n d_Mo_layRows_82 rfl ?_
        refine Ev.if_ne (tgt := 37) d_Mo_layRows_83 rfl (by first | omega | (simp [mu]; done) | (simp [mu]; omega)) (fun hb83 => ?_) (fun hb83 => by exfalso; first | omega | simp at hb83 | contradiction)
        refine Ev.iload_n d_Mo_layRows_37 rfl ?_
        refine Ev.if_le (tgt := 99) d_Mo_layRows_38 rfl (by first | omega | (simp [mu]; done) | (simp [mu]; omega)) (fun hb38 => by exfalso; first | omega | simp at hb38 | contradiction) (fun hb38 => ?_)
        refine Ev.iload_n d_Mo_layRows_41 rfl ?_
        refine Ev.if_ne (tgt := 99) d_Mo_layRows_42 rfl (by first | omega | (simp [mu]; done) | (simp [mu]; omega)) (fun hb42 => ?_) (fun hb42 => by exfalso; first | omega | simp at hb42 | contradiction)
        exact g1
      · have e5 : nxr (q + 1) l = nxr q (l.filter (fun x => decide (x ≠ ((q + 1 : Nat) : Int)))) := by simp only [nxr]; rw [if_neg h5, if_neg ht]
        rw [e5] at c
        have hl3 := FGS_flt (k := ((q + 1 : Nat) : Int)) hl
        have hs3 := tsum_flt ((q + 1 : Nat) : Int) l hl
        obtain ⟨mF, g1, g2⟩ := ih (((q + 1 : Nat) : Int) + -1) _ (mu (mu m 83 ((q + 1 : Nat) : Int) (m 83 ((q + 1 : Nat) : Int) + 1)) 83 ((q + 1 : Nat) : Int) 0) x4 (by omega) (by omega) (R12_clr hR (fun j hj => by rw [mu_n (Or.inr hj), mu_n (Or.inr hj)]) mu_s) hl3 (by omega) (fun m' z fr => c m' z (fun a j ha => (fr a j ha).trans (by rw [mu_a ha, mu_a ha])))
        refine ⟨mF, ?_, g2⟩
        generalize ((q + 1 : Nat) : Int) = k at *
        refine Ev.iload_n d_Mo_layRows_37 rfl ?_
        refine Ev.if_le (tgt := 99) d_Mo_layRows_38 rfl (by first | omega | (simp [mu]; done) | (simp [mu]; omega)) (fun hb38 => by exfalso; first | omega | simp at hb38 | contradiction) (fun hb38 => ?_)
        refine Ev.iload_n d_Mo_layRows_41 rfl ?_
        refine Ev.if_ne (tgt := 99) d_Mo_layRows_42 rfl (by first | omega | (simp [mu]; done) | (simp [mu]; omega)) (fun hb42 => by exfalso; first | omega | simp at hb42 | contradiction) (fun hb42 => ?_)
        refine Ev.iload_n d_Mo_layRows_45 rfl ?_
        refine Ev.bipush d_Mo_layRows_46 rfl ?_
        refine Ev.icmp_ne (tgt := 54) d_Mo_layRows_48 rfl (by first | omega | (simp [mu]; done) | (simp [mu]; omega)) (by first | omega | (simp [mu]; done) | (simp [mu]; omega)) (fun hb48 => ?_) (fun hb48 => by exfalso; first | omega | simp at hb48 | contradiction)
        refine Ev.aload_n d_Mo_layRows_54 rfl ?_
        refine Ev.gr 34 d_Mo_layRows_55 lf_Mo_88 rfl rfl (is_57 hM) (by decide) (rf_57_34 hM) ?_
        refine Ev.iload_n d_Mo_layRows_58 rfl ?_
        refine Ev.dup2 d_Mo_layRows_59 rfl rfl ?_
        refine Ev.iaload d_Mo_layRows_60 (is_83 hM) (by first | omega | (simp [mu]; done) | (simp [mu]; omega)) ?_
        refine Ev.iconst d_Mo_layRows_61 ?_
        refine Ev.iadd d_Mo_layRows_62 ?_
        refine Ev.iastore d_Mo_layRows_63 (is_83 hM) (by decide) (by first | omega | (simp [mu]; done) | (simp [mu]; omega)) ?_
        refine Ev.aload_n d_Mo_layRows_64 rfl ?_
        refine Ev.gr 34 d_Mo_layRows_65 lf_Mo_88 rfl rfl (is_57 hM) (by decide) (rf_57_34 hM) ?_
        refine Ev.iconst d_Mo_layRows_68 ?_
        refine Ev.callS d_Mo_layRows_69 mt_Mo_sumOf lk_Mo_259 st_Mo_sumOf rfl (Nat.le_of_ble_eq_true rfl) rfl (Nat.le_of_ble_eq_true rfl) (by decide) rfl (c_Mo_sumOf hM hR2 hl2) ?_
        refine Ev.iconst d_Mo_layRows_72 ?_
        refine Ev.icmp_gt (tgt := 80) d_Mo_layRows_73 rfl (by first | omega | (simp [mu]; done) | (simp [mu]; omega)) (by first | omega | (simp [mu]; done) | (simp [mu]; omega)) (fun hb73 => ?_) (fun hb73 => by exfalso; first | omega | simp at hb73 | contradiction)
        refine Ev.iconst d_Mo_layRows_80 ?_
        refine Ev.istore_3 d_Mo_layRows_81 rfl ?_
        refine Ev.iload_n d_Mo_layRows_82 rfl ?_
        refine Ev.if_ne (tgt := 37) d_Mo_layRows_83 rfl (by first | omega | (simp [mu]; done) | (simp [mu]; omega)) (fun hb83 => by exfalso; first | omega | simp at hb83 | contradiction) (fun hb83 => ?_)
        refine Ev.aload_n d_Mo_layRows_86 rfl ?_
        refine Ev.gr 34 d_Mo_layRows_87 lf_Mo_88 rfl rfl (is_57 hM) (by decide) (rf_57_34 hM) ?_
        refine Ev.iload_n d_Mo_layRows_90 rfl ?_
        refine Ev.iconst d_Mo_layRows_91 ?_
        refine Ev.iastore d_Mo_layRows_92 (is_83 hM) (by decide) (by first | omega | (simp [mu]; done) | (simp [mu]; omega)) ?_
        refine Ev.iinc_2 d_Mo_layRows_93 rfl ?_
        refine Ev.goto (tgt := 37) d_Mo_layRows_96 rfl ?_
        exact g1
end
