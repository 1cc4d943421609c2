section
variable {σ : Sg} {m : Mm}
/-! the reference's row: how many stairs stand at each spot -/
def cn (j : Int) : List Int → Int
  | [] => 0
  | s :: t => (if s = j then 1 else 0) + cn j t
theorem cn_app (j : Int) : ∀ a b : List Int, cn j (a ++ b) = cn j a + cn j b
  | [], b => by simp [cn]
  | s :: t, b => by simp only [List.cons_append, cn, cn_app j t b]; omega
theorem cn_b (j : Int) : ∀ l : List Int, 0 ≤ cn j l ∧ cn j l ≤ l.length
  | [] => by simp [cn]
  | s :: t => by
    have := cn_b j t
    simp only [cn, List.length_cons]
    split <;> omega
theorem cn_flt (j k : Int) : ∀ l : List Int, cn j (l.filter (fun x => decide (x ≠ k))) = if j = k then 0 else cn j l
  | [] => by simp [cn]
  | s :: t => by
    have ih := cn_flt j k t
    by_cases h : s = k
    · rw [List.filter_cons_of_neg (by simp [h]), ih]
      subst h
      by_cases e : j = s
      · simp [e]
      · rw [if_neg e, if_neg e]
        simp only [cn]
        rw [if_neg (fun z => e z.symm)]; omega
    · rw [List.filter_cons_of_pos (by simp [h])]
      simp only [cn]
      rw [ih]
      by_cases e : j = k
      · subst e
        rw [if_pos rfl, if_pos rfl, if_neg h]; rfl
      · rw [if_neg e, if_neg e]
theorem cn_zero (j : Int) : ∀ l : List Int, (∀ x ∈ l, x ≠ j) → cn j l = 0
  | [], _ => rfl
  | s :: t, h => by
    simp only [cn]
    rw [if_neg (h s List.mem_cons_self), cn_zero j t (fun x hx => h x (List.mem_cons_of_mem _ hx))]; rfl
def RW (m : Mm) (l : List Int) : Prop := ∀ j : Int, 0 ≤ j → j < 24 → m 70 j = cn j l
def Fr70 (m m' : Mm) : Prop := ∀ a j : Int, a ≠ 70 → m' a j = m a j
theorem Fr70.tr {m m1 m2 : Mm} (h : Fr70 m m1) (h2 : Fr70 m1 m2) : Fr70 m m2 := fun a j x => (h2 a j x).trans (h a j x)
def wFs (R : Int → Int) (i : Int) : Nat → Int → Int → Int
  | 0, _, s => s
  | q + 1, j, s => wFs R i q (j + 1) (s + 1 * R (4 * pairS i j + 1 - 1) + (1 + 1) * R (4 * pairS i j + (1 + 1) - 1) + (1 + 1 + 1) * R (4 * pairS i j + (1 + 1 + 1) - 1) + (1 + 1 + 1 + 1) * R (4 * pairS i j + (1 + 1 + 1 + 1) - 1))
def wTs (R : Int → Int) (i : Int) : Nat → Int → Int → Int
  | 0, _, s => s
  | q + 1, j, s => wTs R i q (j + 1) (s + 1 * R (4 * pairS j i + 1 - 1) + (1 + 1) * R (4 * pairS j i + (1 + 1) - 1) + (1 + 1 + 1) * R (4 * pairS j i + (1 + 1 + 1) - 1) + (1 + 1 + 1 + 1) * R (4 * pairS j i + (1 + 1 + 1 + 1) - 1))
theorem pairS_b {i j : Int} (h1 : 0 ≤ i) (h2 : i < j) (h3 : j ≤ 3) : 0 ≤ pairS i j ∧ pairS i j ≤ 5 := by unfold pairS; split <;> (try split) <;> omega
theorem lp_Mo_wF (hM : MoS σ) {i : Int} (hi : 0 ≤ i) : ∀ (q : Nat) (j s : Int) (x4 : Option AV), j + q = 4 → i < j → Ev 2 m_Mo_weighedFrom 6 [some (vr 57), some (vi i), some (vi s), some (vi j), x4] [] σ m (some (vi (wFs (m 70) i q j s))) σ m
  | 0, j, s, x4, hj, h0 => by
    refine Ev.iload_n d_Mo_weighedFrom_6 rfl ?_
    refine Ev.iconst d_Mo_weighedFrom_7 ?_
    refine Ev.icmp_ge (tgt := 55) d_Mo_weighedFrom_8 rfl (by first | omega | (simp [mu]; done) | (simp [mu]; omega)) (by first | omega | (simp [mu]; done) | (simp [mu]; omega)) (fun hb8 => ?_) (fun hb8 => by exfalso; first | omega | simp at hb8 | contradiction)
    refine Ev.iload_n d_Mo_weighedFrom_55 rfl ?_
    exact Ev.to (Ev.ireturn d_Mo_weighedFrom_56 rfl) rfl rfl
  | q + 1, j, s, x4, hj, h0 => by
    have hb := pairS_b hi h0 (by omega)
    refine Ev.iload_n d_Mo_weighedFrom_6 rfl ?_
    refine Ev.iconst d_Mo_weighedFrom_7 ?_
    refine Ev.icmp_ge (tgt := 55) d_Mo_weighedFrom_8 rfl (by first | omega | (simp [mu]; done) | (simp [mu]; omega)) (by first | omega | (simp [mu]; done) | (simp [mu]; omega)) (fun hb8 => by exfalso; first | omega | simp at hb8 | contradiction) (fun hb8 => ?_)
    refine Ev.iconst d_Mo_weighedFrom_11 ?_
    refine Ev.istore_4 d_Mo_weighedFrom_12 rfl ?_
    refine Ev.iload d_Mo_weighedFrom_14 rfl ?_
    refine Ev.iconst d_Mo_weighedFrom_16 ?_
    refine Ev.icmp_gt (tgt := 49) d_Mo_weighedFrom_17 rfl (by first | omega | (simp [mu]; done) | (simp [mu]; omega)) (by first | omega | (simp [mu]; done) | (simp [mu]; omega)) (fun hb17 => by exfalso; first | omega | simp at hb17 | contradiction) (fun hb17 => ?_)
    refine Ev.iload_n d_Mo_weighedFrom_20 rfl ?_
    refine Ev.iload d_Mo_weighedFrom_21 rfl ?_
    refine Ev.aload_n d_Mo_weighedFrom_23 rfl ?_
    refine Ev.gr 15 d_Mo_weighedFrom_24 lf_Mo_48 rfl rfl (is_57 hM) (by decide) (rf_57_15 hM) ?_
    refine Ev.iconst d_Mo_weighedFrom_27 ?_
    refine Ev.iload_n d_Mo_weighedFrom_28 rfl ?_
    refine Ev.iload_n d_Mo_weighedFrom_29 rfl ?_
    refine Ev.callS d_Mo_weighedFrom_30 mt_Mo_pairOf lk_Mo_194 st_Mo_pairOf rfl (Nat.le_of_ble_eq_true rfl) rfl (Nat.le_of_ble_eq_true rfl) (by decide) rfl (c_Mo_pairOf (by omega) (by omega)) ?_
    refine Ev.imul d_Mo_weighedFrom_33 ?_
    refine Ev.iload d_Mo_weighedFrom_34 rfl ?_
    refine Ev.iadd d_Mo_weighedFrom_36 ?_
    refine Ev.iconst d_Mo_weighedFrom_37 ?_
    refine Ev.isub d_Mo_weighedFrom_38 ?_
    refine Ev.iaload d_Mo_weighedFrom_39 (is_70 hM) (by omega) ?_
    refine Ev.imul d_Mo_weighedFrom_40 ?_
    refine Ev.iadd d_Mo_weighedFrom_41 ?_
    refine Ev.istore_2 d_Mo_weighedFrom_42 rfl ?_
    refine Ev.iinc_4 d_Mo_weighedFrom_43 rfl ?_
    refine Ev.goto (tgt := 14) d_Mo_weighedFrom_46 rfl ?_
    refine Ev.iload d_Mo_weighedFrom_14 rfl ?_
    refine Ev.iconst d_Mo_weighedFrom_16 ?_
    refine Ev.icmp_gt (tgt := 49) d_Mo_weighedFrom_17 rfl (by first | omega | (simp [mu]; done) | (simp [mu]; omega)) (by first | omega | (simp [mu]; done) | (simp [mu]; omega)) (fun hb17 => by exfalso; first | omega | simp at hb17 | contradiction) (fun hb17 => ?_)
    refine Ev.iload_n d_Mo_weighedFrom_20 rfl ?_
    refine Ev.iload d_Mo_weighedFrom_21 rfl ?_
    refine Ev.aload_n d_Mo_weighedFrom_23 rfl ?_
    refine Ev.gr 15 d_Mo_weighedFrom_24 lf_Mo_48 rfl rfl (is_57 hM) (by decide) (rf_57_15 hM) ?_
    refine Ev.iconst d_Mo_weighedFrom_27 ?_
    refine Ev.iload_n d_Mo_weighedFrom_28 rfl ?_
    refine Ev.iload_n d_Mo_weighedFrom_29 rfl ?_
    refine Ev.callS d_Mo_weighedFrom_30 mt_Mo_pairOf lk_Mo_194 st_Mo_pairOf rfl (Nat.le_of_ble_eq_true rfl) rfl (Nat.le_of_ble_eq_true rfl) (by decide) rfl (c_Mo_pairOf (by omega) (by omega)) ?_
    refine Ev.imul d_Mo_weighedFrom_33 ?_
    refine Ev.iload d_Mo_weighedFrom_34 rfl ?_
    refine Ev.iadd d_Mo_weighedFrom_36 ?_
    refine Ev.iconst d_Mo_weighedFrom_37 ?_
    refine Ev.isub d_Mo_weighedFrom_38 ?_
    refine Ev.iaload d_Mo_weighedFrom_39 (is_70 hM) (by omega) ?_
    refine Ev.imul d_Mo_weighedFrom_40 ?_
    refine Ev.iadd d_Mo_weighedFrom_41 ?_
    refine Ev.istore_2 d_Mo_weighedFrom_42 rfl ?_
    refine Ev.iinc_4 d_Mo_weighedFrom_43 rfl ?_
    refine Ev.goto (tgt := 14) d_Mo_weighedFrom_46 rfl ?_
    refine Ev.iload d_Mo_weighedFrom_14 rfl ?_
    refine Ev.iconst d_Mo_weighedFrom_16 ?_
    refine Ev.icmp_gt (tgt := 49) d_Mo_weighedFrom_17 rfl (by first | omega | (simp [mu]; done) | (simp [mu]; omega)) (by first | omega | (simp [mu]; done) | (simp [mu]; omega)) (fun hb17 => by exfalso; first | omega | simp at hb17 | contradiction) (fun hb17 => ?_)
    refine Ev.iload_n d_Mo_weighedFrom_20 rfl ?_
    refine Ev.iload d_Mo_weighedFrom_21 rfl ?_
    refine Ev.aload_n d_Mo_weighedFrom_23 rfl ?_
    refine Ev.gr 15 d_Mo_weighedFrom_24 lf_Mo_48 rfl rfl (is_57 hM) (by decide) (rf_57_15 hM) ?_
    refine Ev.iconst d_Mo_weighedFrom_27 ?_
    refine Ev.iload_n d_Mo_weighedFrom_28 rfl ?_
    refine Ev.iload_n d_Mo_weighedFrom_29 rfl ?_
    refine Ev.callS d_Mo_weighedFrom_30 mt_Mo_pairOf lk_Mo_194 st_Mo_pairOf rfl (Nat.le_of_ble_eq_true rfl) rfl (Nat.le_of_ble_eq_true rfl) (by decide) rfl (c_Mo_pairOf (by omega) (by omega)) ?_
    refine Ev.imul d_Mo_weighedFrom_33 ?_
    refine Ev.iload d_Mo_weighedFrom_34 rfl ?_
    refine Ev.iadd d_Mo_weighedFrom_36 ?_
    refine Ev.iconst d_Mo_weighedFrom_37 ?_
    refine Ev.isub d_Mo_weighedFrom_38 ?_
    refine Ev.iaload d_Mo_weighedFrom_39 (is_70 hM) (by omega) ?_
    refine Ev.imul d_Mo_weighedFrom_40 ?_
    refine Ev.iadd d_Mo_weighedFrom_41 ?_
    refine Ev.istore_2 d_Mo_weighedFrom_42 rfl ?_
    refine Ev.iinc_4 d_Mo_weighedFrom_43 rfl ?_
    refine Ev.goto (tgt := 14) d_Mo_weighedFrom_46 rfl ?_
    refine Ev.iload d_Mo_weighedFrom_14 rfl ?_
    refine Ev.iconst d_Mo_weighedFrom_16 ?_
    refine Ev.icmp_gt (tgt := 49) d_Mo_weighedFrom_17 rfl (by first | omega | (simp [mu]; done) | (simp [mu]; omega)) (by first | omega | (simp [mu]; done) | (simp [mu]; omega)) (fun hb17 => by exfalso; first | omega | simp at hb17 | contradiction) (fun hb17 => ?_)
    refine Ev.iload_n d_Mo_weighedFrom_20 rfl ?_
    refine Ev.iload d_Mo_weighedFrom_21 rfl ?_
    refine Ev.aload_n d_Mo_weighedFrom_23 rfl ?_
    refine Ev.gr 15 d_Mo_weighedFrom_24 lf_Mo_48 rfl rfl (is_57 hM) (by decide) (rf_57_15 hM) ?_
    refine Ev.iconst d_Mo_weighedFrom_27 ?_
    refine Ev.iload_n d_Mo_weighedFrom_28 rfl ?_
    refine Ev.iload_n d_Mo_weighedFrom_29 rfl ?_
    refine Ev.callS d_Mo_weighedFrom_30 mt_Mo_pairOf lk_Mo_194 st_Mo_pairOf rfl (Nat.le_of_ble_eq_true rfl) rfl (Nat.le_of_ble_eq_true rfl) (by decide) rfl (c_Mo_pairOf (by omega) (by omega)) ?_
    refine Ev.imul d_Mo_weighedFrom_33 ?_
    refine Ev.iload d_Mo_weighedFrom_34 rfl ?_
    refine Ev.iadd d_Mo_weighedFrom_36 ?_
    refine Ev.iconst d_Mo_weighedFrom_37 ?_
    refine Ev.isub d_Mo_weighedFrom_38 ?_
    refine Ev.iaload d_Mo_weighedFrom_39 (is_70 hM) (by omega) ?_
    refine Ev.imul d_Mo_weighedFrom_40 ?_
    refine Ev.iadd d_Mo_weighedFrom_41 ?_
    refine Ev.istore_2 d_Mo_weighedFrom_42 rfl ?_
    refine Ev.iinc_4 d_Mo_weighedFrom_43 rfl ?_
    refine Ev.goto (tgt := 14) d_Mo_weighedFrom_46 rfl ?_
    refine Ev.iload d_Mo_weighedFrom_14 rfl ?_
    refine Ev.iconst d_Mo_weighedFrom_16 ?_
    refine Ev.icmp_gt (tgt := 49) d_Mo_weighedFrom_17 rfl (by first | omega | (simp [mu]; done) | (simp [mu]; omega)) (by first | omega | (simp [mu]; done) | (simp [mu]; omega)) (fun hb17 => ?_) (fun hb17 => by exfalso; first | omega | simp at hb17 | contradiction)
    refine Ev.iinc_3 d_Mo_weighedFrom_49 rfl ?_
    refine Ev.goto (tgt := 6) d_Mo_weighedFrom_52 rfl ?_
    exact lp_Mo_wF hM hi q (j + 1) _ _ (by omega) (by omega)
theorem lp_Mo_wT (hM : MoS σ) {i : Int} (hi : i ≤ 3) : ∀ (q : Nat) (j s : Int) (x4 : Option AV), j + q = i → 0 ≤ j → Ev 2 m_Mo_weighedTo 4 [some (vr 57), some (vi i), some (vi s), some (vi j), x4] [] σ m (some (vi (wTs (m 70) i q j s))) σ m
  | 0, j, s, x4, hj, h0 => by
    refine Ev.iload_n d_Mo_weighedTo_4 rfl ?_
    refine Ev.iload_n d_Mo_weighedTo_5 rfl ?_
    refine Ev.icmp_ge (tgt := 53) d_Mo_weighedTo_6 rfl (by first | omega | (simp [mu]; done) | (simp [mu]; omega)) (by first | omega | (simp [mu]; done) | (simp [mu]; omega)) (fun hb6 => ?_) (fun hb6 => by exfalso; first | omega | simp at hb6 | contradiction)
    refine Ev.iload_n d_Mo_weighedTo_53 rfl ?_
    exact Ev.to (Ev.ireturn d_Mo_weighedTo_54 rfl) rfl rfl
  | q + 1, j, s, x4, hj, h0 => by
    have hb := pairS_b h0 (show j < i by omega) (by omega)
    refine Ev.iload_n d_Mo_weighedTo_4 rfl ?_
    refine Ev.iload_n d_Mo_weighedTo_5 rfl ?_
    refine Ev.icmp_ge (tgt := 53) d_Mo_weighedTo_6 rfl (by first | omega | (simp [mu]; done) | (simp [mu]; omega)) (by first | omega | (simp [mu]; done) | (simp [mu]; omega)) (fun hb6 => by exfalso; first | omega | simp at hb6 | contradiction) (fun hb6 => ?_)
    refine Ev.iconst d_Mo_weighedTo_9 ?_
    refine Ev.istore_4 d_Mo_weighedTo_10 rfl ?_
    refine Ev.iload d_Mo_weighedTo_12 rfl ?_
    refine Ev.iconst d_Mo_weighedTo_14 ?_
    refine Ev.icmp_gt (tgt := 47) d_Mo_weighedTo_15 rfl (by first | omega | (simp [mu]; done) | (simp [mu]; omega)) (by first | omega | (simp [mu]; done) | (simp [mu]; omega)) (fun hb15 => by exfalso; first | omega | simp at hb15 | contradiction) (fun hb15 => ?_)
    refine Ev.iload_n d_Mo_weighedTo_18 rfl ?_
    refine Ev.iload d_Mo_weighedTo_19 rfl ?_
    refine Ev.aload_n d_Mo_weighedTo_21 rfl ?_
    refine Ev.gr 15 d_Mo_weighedTo_22 lf_Mo_48 rfl rfl (is_57 hM) (by decide) (rf_57_15 hM) ?_
    refine Ev.iconst d_Mo_weighedTo_25 ?_
    refine Ev.iload_n d_Mo_weighedTo_26 rfl ?_
    refine Ev.iload_n d_Mo_weighedTo_27 rfl ?_
    refine Ev.callS d_Mo_weighedTo_28 mt_Mo_pairOf lk_Mo_194 st_Mo_pairOf rfl (Nat.le_of_ble_eq_true rfl) rfl (Nat.le_of_ble_eq_true rfl) (by decide) rfl (c_Mo_pairOf (by omega) (by omega)) ?_
    refine Ev.imul d_Mo_weighedTo_31 ?_
    refine Ev.iload d_Mo_weighedTo_32 rfl ?_
    refine Ev.iadd d_Mo_weighedTo_34 ?_
    refine Ev.iconst d_Mo_weighedTo_35 ?_
    refine Ev.isub d_Mo_weighedTo_36 ?_
    refine Ev.iaload d_Mo_weighedTo_37 (is_70 hM) (by omega) ?_
    refine Ev.imul d_Mo_weighedTo_38 ?_
    refine Ev.iadd d_Mo_weighedTo_39 ?_
    refine Ev.istore_2 d_Mo_weighedTo_40 rfl ?_
    refine Ev.iinc_4 d_Mo_weighedTo_41 rfl ?_
    refine Ev.goto (tgt := 12) d_Mo_weighedTo_44 rfl ?_
    refine Ev.iload d_Mo_weighedTo_12 rfl ?_
    refine Ev.iconst d_Mo_weighedTo_14 ?_
    refine Ev.icmp_gt (tgt := 47) d_Mo_weighedTo_15 rfl (by first | omega | (simp [mu]; done) | (simp [mu]; omega)) (by first | omega | (simp [mu]; done) | (simp [mu]; omega)) (fun hb15 => by exfalso; first | omega | simp at hb15 | contradiction) (fun hb15 => ?_)
    refine Ev.iload_n d_Mo_weighedTo_18 rfl ?_
    refine Ev.iload d_Mo_weighedTo_19 rfl ?_
    refine Ev.aload_n d_Mo_weighedTo_21 rfl ?_
    refine Ev.gr 15 d_Mo_weighedTo_22 lf_Mo_48 rfl rfl (is_57 hM) (by decide) (rf_57_15 hM) ?_
    refine Ev.iconst d_Mo_weighedTo_25 ?_
    refine Ev.iload_n d_Mo_weighedTo_26 rfl ?_
    refine Ev.iload_n d_Mo_weighedTo_27 rfl ?_
    refine Ev.callS d_Mo_weighedTo_28 mt_Mo_pairOf lk_Mo_194 st_Mo_pairOf rfl (Nat.le_of_ble_eq_true rfl) rfl (Nat.le_of_ble_eq_true rfl) (by decide) rfl (c_Mo_pairOf (by omega) (by omega)) ?_
    refine Ev.imul d_Mo_weighedTo_31 ?_
    refine Ev.iload d_Mo_weighedTo_32 rfl ?_
    refine Ev.iadd d_Mo_weighedTo_34 ?_
    refine Ev.iconst d_Mo_weighedTo_35 ?_
    refine Ev.isub d_Mo_weighedTo_36 ?_
    refine Ev.iaload d_Mo_weighedTo_37 (is_70 hM) (by omega) ?_
    refine Ev.imul d_Mo_weighedTo_38 ?_
    refine Ev.iadd d_Mo_weighedTo_39 ?_
    refine Ev.istore_2 d_Mo_weighedTo_40 rfl ?_
    refine Ev.iinc_4 d_Mo_weighedTo_41 rfl ?_
    refine Ev.goto (tgt := 12) d_Mo_weighedTo_44 rfl ?_
    refine Ev.iload d_Mo_weighedTo_12 rfl ?_
    refine Ev.iconst d_Mo_weighedTo_14 ?_
    refine Ev.icmp_gt (tgt := 47) d_Mo_weighedTo_15 rfl (by first | omega | (simp [mu]; done) | (simp [mu]; omega)) (by first | omega | (simp [mu]; done) | (simp [mu]; omega)) (fun hb15 => by exfalso; first | omega | simp at hb15 | contradiction) (fun hb15 => ?_)
    refine Ev.iload_n d_Mo_weighedTo_18 rfl ?_
    refine Ev.iload d_Mo_weighedTo_19 rfl ?_
    refine Ev.aload_n d_Mo_weighedTo_21 rfl ?_
    refine Ev.gr 15 d_Mo_weighedTo_22 lf_Mo_48 rfl rfl (is_57 hM) (by decide) (rf_57_15 hM) ?_
    refine Ev.iconst d_Mo_weighedTo_25 ?_
    refine Ev.iload_n d_Mo_weighedTo_26 rfl ?_
    refine Ev.iload_n d_Mo_weighedTo_27 rfl ?_
    refine Ev.callS d_Mo_weighedTo_28 mt_Mo_pairOf lk_Mo_194 st_Mo_pairOf rfl (Nat.le_of_ble_eq_true rfl) rfl (Nat.le_of_ble_eq_true rfl) (by decide) rfl (c_Mo_pairOf (by omega) (by omega)) ?_
    refine Ev.imul d_Mo_weighedTo_31 ?_
    refine Ev.iload d_Mo_weighedTo_32 rfl ?_
    refine Ev.iadd d_Mo_weighedTo_34 ?_
    refine Ev.iconst d_Mo_weighedTo_35 ?_
    refine Ev.isub d_Mo_weighedTo_36 ?_
    refine Ev.iaload d_Mo_weighedTo_37 (is_70 hM) (by omega) ?_
    refine Ev.imul d_Mo_weighedTo_38 ?_
    refine Ev.iadd d_Mo_weighedTo_39 ?_
    refine Ev.istore_2 d_Mo_weighedTo_40 rfl ?_
    refine Ev.iinc_4 d_Mo_weighedTo_41 rfl ?_
    refine Ev.goto (tgt := 12) d_Mo_weighedTo_44 rfl ?_
    refine Ev.iload d_Mo_weighedTo_12 rfl ?_
    refine Ev.iconst d_Mo_weighedTo_14 ?_
    refine Ev.icmp_gt (tgt := 47) d_Mo_weighedTo_15 rfl (by first | omega | (simp [mu]; done) | (simp [mu]; omega)) (by first | omega | (simp [mu]; done) | (simp [mu]; omega)) (fun hb15 => by exfalso; first | omega | simp at hb15 | contradiction) (fun hb15 => ?_)
    refine Ev.iload_n d_Mo_weighedTo_18 rfl ?_
    refine Ev.iload d_Mo_weighedTo_19 rfl ?_
    refine Ev.aload_n d_Mo_weighedTo_21 rfl ?_
    refine Ev.gr 15 d_Mo_weighedTo_22 lf_Mo_48 rfl rfl (is_57 hM) (by decide) (rf_57_15 hM) ?_
    refine Ev.iconst d_Mo_weighedTo_25 ?_
    refine Ev.iload_n d_Mo_weighedTo_26 rfl ?_
    refine Ev.iload_n d_Mo_weighedTo_27 rfl ?_
    refine Ev.callS d_Mo_weighedTo_28 mt_Mo_pairOf lk_Mo_194 st_Mo_pairOf rfl (Nat.le_of_ble_eq_true rfl) rfl (Nat.le_of_ble_eq_true rfl) (by decide) rfl (c_Mo_pairOf (by omega) (by omega)) ?_
    refine Ev.imul d_Mo_weighedTo_31 ?_
    refine Ev.iload d_Mo_weighedTo_32 rfl ?_
    refine Ev.iadd d_Mo_weighedTo_34 ?_
    refine Ev.iconst d_Mo_weighedTo_35 ?_
    refine Ev.isub d_Mo_weighedTo_36 ?_
    refine Ev.iaload d_Mo_weighedTo_37 (is_70 hM) (by omega) ?_
    refine Ev.imul d_Mo_weighedTo_38 ?_
    refine Ev.iadd d_Mo_weighedTo_39 ?_
    refine Ev.istore_2 d_Mo_weighedTo_40 rfl ?_
    refine Ev.iinc_4 d_Mo_weighedTo_41 rfl ?_
    refine Ev.goto (tgt := 12) d_Mo_weighedTo_44 rfl ?_
    refine Ev.iload d_Mo_weighedTo_12 rfl ?_
    refine Ev.iconst d_Mo_weighedTo_14 ?_
    refine Ev.icmp_gt (tgt := 47) d_Mo_weighedTo_15 rfl (by first | omega | (simp [mu]; done) | (simp [mu]; omega)) (by first | omega | (simp [mu]; done) | (simp [mu]; omega)) (fun hb15 => ?_) (fun hb15 => by exfalso; first | omega | simp at hb15 | contradiction)
    refine Ev.iinc_3 d_Mo_weighedTo_47 rfl ?_
    refine Ev.goto (tgt := 4) d_Mo_weighedTo_50 rfl ?_
    exact lp_Mo_wT hM hi q (j + 1) _ _ (by omega) (by omega)
theorem c_Mo_weighedFrom (hM : MoS σ) {i : Int} (hi : 0 ≤ i ∧ i ≤ 3) : Call 2 m_Mo_weighedFrom [vr 57, vi i] σ m (some (vi (wFs (m 70) i (3 - i).toNat (i + 1) 0))) σ m := by
  show Ev 2 m_Mo_weighedFrom 0 [some (vr 57), some (vi i), none, none, none] [] σ m _ σ m
  refine Ev.iconst d_Mo_weighedFrom_0 ?_
  refine Ev.istore_2 d_Mo_weighedFrom_1 rfl ?_
  refine Ev.iload_n d_Mo_weighedFrom_2 rfl ?_
  refine Ev.iconst d_Mo_weighedFrom_3 ?_
  refine Ev.iadd d_Mo_weighedFrom_4 ?_
  refine Ev.istore_3 d_Mo_weighedFrom_5 rfl ?_
  exact lp_Mo_wF hM hi.1 (3 - i).toNat (i + 1) 0 none (by omega) (by omega)
theorem c_Mo_weighedTo (hM : MoS σ) {i : Int} (hi : 0 ≤ i ∧ i ≤ 3) : Call 2 m_Mo_weighedTo [vr 57, vi i] σ m (some (vi (wTs (m 70) i i.toNat 0 0))) σ m := by
  show Ev 2 m_Mo_weighedTo 0 [some (vr 57), some (vi i), none, none, none] [] σ m _ σ m
  refine Ev.iconst d_Mo_weighedTo_0 ?_
  refine Ev.istore_2 d_Mo_weighedTo_1 rfl ?_
  refine Ev.iconst d_Mo_weighedTo_2 ?_
  refine Ev.istore_3 d_Mo_weighedTo_3 rfl ?_
  exact lp_Mo_wT hM hi.2 i.toNat 0 0 none (by omega) (by omega)
theorem wF_0 (R : Int → Int) : wFs R 0 (3 - 0 : Int).toNat (0 + 1) 0 = 1 * R 0 + 2 * R 1 + 3 * R 2 + 4 * R 3 + 1 * R 4 + 2 * R 5 + 3 * R 6 + 4 * R 7 + 1 * R 8 + 2 * R 9 + 3 * R 10 + 4 * R 11 := by simp [wFs, pairS]
theorem wT_0 (R : Int → Int) : wTs R 0 (0 : Int).toNat 0 0 = 0 := by simp [wTs, pairS]
theorem wF_1 (R : Int → Int) : wFs R 1 (3 - 1 : Int).toNat (1 + 1) 0 = 1 * R 12 + 2 * R 13 + 3 * R 14 + 4 * R 15 + 1 * R 16 + 2 * R 17 + 3 * R 18 + 4 * R 19 := by simp [wFs, pairS]
theorem wT_1 (R : Int → Int) : wTs R 1 (1 : Int).toNat 0 0 = 1 * R 0 + 2 * R 1 + 3 * R 2 + 4 * R 3 := by simp [wTs, pairS]
theorem wF_2 (R : Int → Int) : wFs R 2 (3 - 2 : Int).toNat (2 + 1) 0 = 1 * R 20 + 2 * R 21 + 3 * R 22 + 4 * R 23 := by simp [wFs, pairS]
theorem wT_2 (R : Int → Int) : wTs R 2 (2 : Int).toNat 0 0 = 1 * R 4 + 2 * R 5 + 3 * R 6 + 4 * R 7 + 1 * R 12 + 2 * R 13 + 3 * R 14 + 4 * R 15 := by simp [wTs, pairS]
theorem wO_0 : ∀ l : List Int, (∀ x ∈ l, 0 ≤ x ∧ x < 24) → (1 * cn 0 l + 2 * cn 1 l + 3 * cn 2 l + 4 * cn 3 l + 1 * cn 4 l + 2 * cn 5 l + 3 * cn 6 l + 4 * cn 7 l + 1 * cn 8 l + 2 * cn 9 l + 3 * cn 10 l + 4 * cn 11 l) - (0) = outL 0 l ∧ (0 ≤ 1 * cn 0 l + 2 * cn 1 l + 3 * cn 2 l + 4 * cn 3 l + 1 * cn 4 l + 2 * cn 5 l + 3 * cn 6 l + 4 * cn 7 l + 1 * cn 8 l + 2 * cn 9 l + 3 * cn 10 l + 4 * cn 11 l ∧ 1 * cn 0 l + 2 * cn 1 l + 3 * cn 2 l + 4 * cn 3 l + 1 * cn 4 l + 2 * cn 5 l + 3 * cn 6 l + 4 * cn 7 l + 1 * cn 8 l + 2 * cn 9 l + 3 * cn 10 l + 4 * cn 11 l ≤ 4 * (l.length : Int)) ∧ (0 : Int) ≤ 0 ∧ 0 ≤ 4 * (l.length : Int)
  | [], _ => by simp [cn, outL]
  | s :: l, h => by
    have ih := wO_0 l (fun x hx => h x (List.mem_cons_of_mem _ hx))
    have hs := h s List.mem_cons_self
    simp only [outL, List.length_cons]
    rcases (show s = 0 ∨ s = 1 ∨ s = 2 ∨ s = 3 ∨ s = 4 ∨ s = 5 ∨ s = 6 ∨ s = 7 ∨ s = 8 ∨ s = 9 ∨ s = 10 ∨ s = 11 ∨ s = 12 ∨ s = 13 ∨ s = 14 ∨ s = 15 ∨ s = 16 ∨ s = 17 ∨ s = 18 ∨ s = 19 ∨ s = 20 ∨ s = 21 ∨ s = 22 ∨ s = 23 by omega) with rfl | rfl | rfl | rfl | rfl | rfl | rfl | rfl | rfl | rfl | rfl | rfl | rfl | rfl | rfl | rfl | rfl | rfl | rfl | rfl | rfl | rfl | rfl | rfl <;> simp [cn, oc, fS, tS, wS] <;> omega
theorem wO_1 : ∀ l : List Int, (∀ x ∈ l, 0 ≤ x ∧ x < 24) → (1 * cn 12 l + 2 * cn 13 l + 3 * cn 14 l + 4 * cn 15 l + 1 * cn 16 l + 2 * cn 17 l + 3 * cn 18 l + 4 * cn 19 l) - (1 * cn 0 l + 2 * cn 1 l + 3 * cn 2 l + 4 * cn 3 l) = outL 1 l ∧ (0 ≤ 1 * cn 12 l + 2 * cn 13 l + 3 * cn 14 l + 4 * cn 15 l + 1 * cn 16 l + 2 * cn 17 l + 3 * cn 18 l + 4 * cn 19 l ∧ 1 * cn 12 l + 2 * cn 13 l + 3 * cn 14 l + 4 * cn 15 l + 1 * cn 16 l + 2 * cn 17 l + 3 * cn 18 l + 4 * cn 19 l ≤ 4 * (l.length : Int)) ∧ (0 : Int) ≤ 1 * cn 0 l + 2 * cn 1 l + 3 * cn 2 l + 4 * cn 3 l ∧ 1 * cn 0 l + 2 * cn 1 l + 3 * cn 2 l + 4 * cn 3 l ≤ 4 * (l.length : Int)
  | [], _ => by simp [cn, outL]
  | s :: l, h => by
    have ih := wO_1 l (fun x hx => h x (List.mem_cons_of_mem _ hx))
    have hs := h s List.mem_cons_self
    simp only [outL, List.length_cons]
    rcases (show s = 0 ∨ s = 1 ∨ s = 2 ∨ s = 3 ∨ s = 4 ∨ s = 5 ∨ s = 6 ∨ s = 7 ∨ s = 8 ∨ s = 9 ∨ s = 10 ∨ s = 11 ∨ s = 12 ∨ s = 13 ∨ s = 14 ∨ s = 15 ∨ s = 16 ∨ s = 17 ∨ s = 18 ∨ s = 19 ∨ s = 20 ∨ s = 21 ∨ s = 22 ∨ s = 23 by omega) with rfl | rfl | rfl | rfl | rfl | rfl | rfl | rfl | rfl | rfl | rfl | rfl | rfl | rfl | rfl | rfl | rfl | rfl | rfl | rfl | rfl | rfl | rfl | rfl <;> simp [cn, oc, fS, tS, wS] <;> omega
theorem wO_2 : ∀ l : List Int, (∀ x ∈ l, 0 ≤ x ∧ x < 24) → (1 * cn 20 l + 2 * cn 21 l + 3 * cn 22 l + 4 * cn 23 l) - (1 * cn 4 l + 2 * cn 5 l + 3 * cn 6 l + 4 * cn 7 l + 1 * cn 12 l + 2 * cn 13 l + 3 * cn 14 l + 4 * cn 15 l) = outL 2 l ∧ (0 ≤ 1 * cn 20 l + 2 * cn 21 l + 3 * cn 22 l + 4 * cn 23 l ∧ 1 * cn 20 l + 2 * cn 21 l + 3 * cn 22 l + 4 * cn 23 l ≤ 4 * (l.length : Int)) ∧ (0 : Int) ≤ 1 * cn 4 l + 2 * cn 5 l + 3 * cn 6 l + 4 * cn 7 l + 1 * cn 12 l + 2 * cn 13 l + 3 * cn 14 l + 4 * cn 15 l ∧ 1 * cn 4 l + 2 * cn 5 l + 3 * cn 6 l + 4 * cn 7 l + 1 * cn 12 l + 2 * cn 13 l + 3 * cn 14 l + 4 * cn 15 l ≤ 4 * (l.length : Int)
  | [], _ => by simp [cn, outL]
  | s :: l, h => by
    have ih := wO_2 l (fun x hx => h x (List.mem_cons_of_mem _ hx))
    have hs := h s List.mem_cons_self
    simp only [outL, List.length_cons]
    rcases (show s = 0 ∨ s = 1 ∨ s = 2 ∨ s = 3 ∨ s = 4 ∨ s = 5 ∨ s = 6 ∨ s = 7 ∨ s = 8 ∨ s = 9 ∨ s = 10 ∨ s = 11 ∨ s = 12 ∨ s = 13 ∨ s = 14 ∨ s = 15 ∨ s = 16 ∨ s = 17 ∨ s = 18 ∨ s = 19 ∨ s = 20 ∨ s = 21 ∨ s = 22 ∨ s = 23 by omega) with rfl | rfl | rfl | rfl | rfl | rfl | rfl | rfl | rfl | rfl | rfl | rfl | rfl | rfl | rfl | rfl | rfl | rfl | rfl | rfl | rfl | rfl | rfl | rfl <;> simp [cn, oc, fS, tS, wS] <;> omega
theorem wOut {l : List Int} {i : Int} (hR : RW m l) (hl : ∀ x ∈ l, 0 ≤ x ∧ x < 24) (hi : 0 ≤ i ∧ i ≤ 2) : wFs (m 70) i (3 - i).toNat (i + 1) 0 - wTs (m 70) i i.toNat 0 0 = outL i l ∧ (0 ≤ wFs (m 70) i (3 - i).toNat (i + 1) 0 ∧ wFs (m 70) i (3 - i).toNat (i + 1) 0 ≤ 4 * (l.length : Int)) ∧ 0 ≤ wTs (m 70) i i.toNat 0 0 ∧ wTs (m 70) i i.toNat 0 0 ≤ 4 * (l.length : Int) := by
  rcases (show i = 0 ∨ i = 1 ∨ i = 2 by omega) with rfl | rfl | rfl
  · rw [wF_0, wT_0, hR 0 (by decide) (by decide), hR 1 (by decide) (by decide), hR 2 (by decide) (by decide), hR 3 (by decide) (by decide), hR 4 (by decide) (by decide), hR 5 (by decide) (by decide), hR 6 (by decide) (by decide), hR 7 (by decide) (by decide), hR 8 (by decide) (by decide), hR 9 (by decide) (by decide), hR 10 (by decide) (by decide), hR 11 (by decide) (by decide)]; exact wO_0 l hl
  · rw [wF_1, wT_1, hR 0 (by decide) (by decide), hR 1 (by decide) (by decide), hR 2 (by decide) (by decide), hR 3 (by decide) (by decide), hR 12 (by decide) (by decide), hR 13 (by decide) (by decide), hR 14 (by decide) (by decide), hR 15 (by decide) (by decide), hR 16 (by decide) (by decide), hR 17 (by decide) (by decide), hR 18 (by decide) (by decide), hR 19 (by decide) (by decide)]; exact wO_1 l hl
  · rw [wF_2, wT_2, hR 4 (by decide) (by decide), hR 5 (by decide) (by decide), hR 6 (by decide) (by decide), hR 7 (by decide) (by decide), hR 12 (by decide) (by decide), hR 13 (by decide) (by decide), hR 14 (by decide) (by decide), hR 15 (by decide) (by decide), hR 20 (by decide) (by decide), hR 21 (by decide) (by decide), hR 22 (by decide) (by decide), hR 23 (by decide) (by decide)]; exact wO_2 l hl
theorem RW_add {l : List Int} {k : Int} (h : RW m l) (hk : 0 ≤ k ∧ k < 24) : RW (mu m 70 k (m 70 k + 1)) (l ++ [k]) := fun j h0 h1 => by
  rw [cn_app]
  by_cases e : j = k
  · subst e
    rw [mu_s, h j h0 h1]
    simp [cn]
  · rw [mu_n (Or.inr e), h j h0 h1]
    simp only [cn]
    rw [if_neg (fun z => e z.symm)]; omega
theorem RW_clr {l : List Int} {k : Int} {m' : Mm} (h : RW m l) (he : ∀ j, j ≠ k → m' 70 j = m 70 j) (hk : m' 70 k = 0) : RW m' (l.filter (fun x => decide (x ≠ k))) := fun j h0 h1 => by
  rw [cn_flt]
  by_cases e : j = k
  · rw [if_pos e, e, hk]
  · rw [if_neg e, he j e, h j h0 h1]
def nxk (d : Int) : Nat → List Int → Option (List Int)
  | 0, _ => none
  | q + 1, l => if tS (q : Int) < d ∧ outL (fS (q : Int)) (l ++ [(q : Int)]) ≤ 1 then some (l ++ [(q : Int)]) else nxk d q (l.filter (fun x => decide (x ≠ (q : Int))))
theorem lp_Mo_nextRow (hM : MoS σ) {d : Int} (hd : 1 ≤ d ∧ d ≤ 4) : ∀ (q : Nat) (k : Int) (m : Mm) (l : List Int) (x3 : Option AV), k + 1 = q → q ≤ 24 → RW m l → (∀ x ∈ l, 0 ≤ x ∧ x < q) → l.length ≤ 6 → ∃ m', Ev 3 m_Mo_nextRow 3 [some (vr 57), some (vi d), some (vi k), x3] [] σ m (some (vi (b01 ((nxk d q l).isSome = true)))) σ m' ∧ (∀ l', nxk d q l = some l' → RW m' l') ∧ Fr70 m m'
  | 0, k, m, l, x3, hk, hq, hR, hl, h6 => by
    refine ⟨m, ?_, fun l' h => by simp [nxk] at h, fun _ _ _ => rfl⟩
    refine Ev.iload_n d_Mo_nextRow_3 rfl ?_
    refine Ev.if_lt (tgt := 60) d_Mo_nextRow_4 rfl (by first | omega | (simp [mu]; done) | (simp [mu]; omega)) (fun hb4 => ?_) (fun hb4 => by exfalso; first | omega | simp at hb4 | contradiction)
    refine Ev.iconst d_Mo_nextRow_60 ?_
    exact Ev.to (Ev.zreturn d_Mo_nextRow_61 rfl (by first | omega | exact b01_01)) (r0 (by simp [nxk])) rfl
  | q + 1, k, m, l, x3, hk, hq, hR, hl, h6 => by
    obtain rfl : k = (q : Int) := by omega
    have hf := fS_b (q : Int)
    have ht := tS_b (q : Int)
    have hl2 : ∀ x ∈ l ++ [(q : Int)], 0 ≤ x ∧ x < 24 := fun x hx => by
      rcases List.mem_append.mp hx with h | h
      · have := hl x h; omega
      · have := List.mem_singleton.mp h; omega
    have hR2 := RW_add (k := (q : Int)) hR (by omega)
    have hlen : (l ++ [(q : Int)]).length = l.length + 1 := by simp
    obtain ⟨o1, o2, o3⟩ := wOut hR2 hl2 hf
    have hfl : ∀ x ∈ l.filter (fun x => decide (x ≠ (q : Int))), 0 ≤ x ∧ x < (q : Int) := fun x hx => by
      obtain ⟨a1, a2⟩ := List.mem_filter.mp hx
      have := hl x a1
      have a3 : x ≠ q := by simpa using a2
      omega
    have hfn : (l.filter (fun x => decide (x ≠ (q : Int)))).length ≤ 6 := Nat.le_trans (List.length_filter_le _ _) h6
    by_cases hc : tS (q : Int) < d ∧ outL (fS (q : Int)) (l ++ [(q : Int)]) ≤ 1
    · have hn : nxk d (q + 1) l = some (l ++ [(q : Int)]) := if_pos hc
      refine ⟨mu m 70 q (m 70 q + 1), ?_, fun l' h => by rw [hn] at h; cases h; exact hR2, fun a j ha => mu_a ha⟩
      refine Ev.iload_n d_Mo_nextRow_3 rfl ?_
      refine Ev.if_lt (tgt := 60) d_Mo_nextRow_4 rfl (by first | omega | (simp [mu]; done) | (simp [mu]; omega)) (fun hb4 => by exfalso; first | omega | simp at hb4 | contradiction) (fun hb4 => ?_)
      refine Ev.iload_n d_Mo_nextRow_7 rfl ?_
      refine Ev.callS d_Mo_nextRow_8 mt_Mo_toOf lk_Mo_197 st_Mo_toOf rfl (Nat.le_of_ble_eq_true rfl) rfl (Nat.le_of_ble_eq_true rfl) (by decide) rfl (c_Mo_toOf (by omega)) ?_
      refine Ev.iload_n d_Mo_nextRow_11 rfl ?_
      refine Ev.icmp_ge (tgt := 47) d_Mo_nextRow_12 rfl (by first | omega | (simp [mu]; done) | (simp [mu]; omega)) (by first | omega | (simp [mu]; done) | (simp [mu]; omega)) (fun hb12 => by exfalso; first | omega | simp at hb12 | contradiction) (fun hb12 => ?_)
      refine Ev.aload_n d_Mo_nextRow_15 rfl ?_
      refine Ev.gr 15 d_Mo_nextRow_16 lf_Mo_48 rfl rfl (is_57 hM) (by decide) (rf_57_15 hM) ?_
      refine Ev.iload_n d_Mo_nextRow_19 rfl ?_
      refine Ev.dup2 d_Mo_nextRow_20 rfl rfl ?_
      refine Ev.iaload d_Mo_nextRow_21 (is_70 hM) (by first | omega | (simp [mu]; done) | (simp [mu]; omega)) ?_
      refine Ev.iconst d_Mo_nextRow_22 ?_
      refine Ev.iadd d_Mo_nextRow_23 ?_
      refine Ev.iastore d_Mo_nextRow_24 (is_70 hM) (by decide) (by first | omega | (simp [mu]; done) | (simp [mu]; omega)) ?_
      refine Ev.iload_n d_Mo_nextRow_25 rfl ?_
      refine Ev.callS d_Mo_nextRow_26 mt_Mo_fromOf lk_Mo_200 st_Mo_fromOf rfl (Nat.le_of_ble_eq_true rfl) rfl (Nat.le_of_ble_eq_true rfl) (by decide) rfl (c_Mo_fromOf (by omega)) ?_
      refine Ev.istore_3 d_Mo_nextRow_29 rfl ?_
      refine Ev.aload_n d_Mo_nextRow_30 rfl ?_
      refine Ev.iload_n d_Mo_nextRow_31 rfl ?_
      refine Ev.callV d_Mo_nextRow_32 mt_Mo_weighedFrom lk_Mo_203 in_Mo_weighedFrom se_Mo_weighedFrom rfl (Nat.le_of_ble_eq_true rfl) rfl (Nat.le_of_ble_eq_true rfl) (by decide) (is_57 hM) (by decide) rfl rfl (c_Mo_weighedFrom hM (by omega)) ?_
      refine Ev.iconst d_Mo_nextRow_35 ?_
      refine Ev.aload_n d_Mo_nextRow_36 rfl ?_
      refine Ev.iload_n d_Mo_nextRow_37 rfl ?_
      refine Ev.callV d_Mo_nextRow_38 mt_Mo_weighedTo lk_Mo_206 in_Mo_weighedTo se_Mo_weighedTo rfl (Nat.le_of_ble_eq_true rfl) rfl (Nat.le_of_ble_eq_true rfl) (by decide) (is_57 hM) (by decide) rfl rfl (c_Mo_weighedTo hM (by omega)) ?_
      refine Ev.iadd d_Mo_nextRow_41 ?_
      refine Ev.icmp_gt (tgt := 47) d_Mo_nextRow_42 rfl (by first | omega | (simp [mu]; done) | (simp [mu]; omega)) (by first | omega | (simp [mu]; done) | (simp [mu]; omega)) (fun hb42 => by exfalso; first | omega | simp at hb42 | contradiction) (fun hb42 => ?_)
      refine Ev.iconst d_Mo_nextRow_45 ?_
      exact Ev.to (Ev.zreturn d_Mo_nextRow_46 rfl (by first | omega | exact b01_01)) (r1 (by rw [hn]; rfl)) rfl
    · have hn : nxk d (q + 1) l = nxk d q (l.filter (fun x => decide (x ≠ (q : Int)))) := if_neg hc
      rw [hn]
      by_cases ht2 : tS (q : Int) < d
      · obtain ⟨m', g1, g2, g3⟩ := lp_Mo_nextRow hM hd q ((q : Int) + -1) (mu (mu m 70 q (m 70 q + 1)) 70 q 0) (l.filter (fun x => decide (x ≠ (q : Int)))) (some (vi (fS (q : Int)))) (by omega) (by omega) (RW_clr hR (fun j hj => by rw [mu_n (Or.inr hj), mu_n (Or.inr hj)]) mu_s) hfl hfn
        refine ⟨m', ?_, g2, fun a j ha => (g3 a j ha).trans (by rw [mu_a ha, mu_a ha])⟩
        refine Ev.iload_n d_Mo_nextRow_3 rfl ?_
        refine Ev.if_lt (tgt := 60) d_Mo_nextRow_4 rfl (by first | omega | (simp [mu]; done) | (simp [mu]; omega)) (fun hb4 => by exfalso; first | omega | simp at hb4 | contradiction) (fun hb4 => ?_)
        refine Ev.iload_n d_Mo_nextRow_7 rfl ?_
        refine Ev.callS d_Mo_nextRow_8 mt_Mo_toOf lk_Mo_197 st_Mo_toOf rfl (Nat.le_of_ble_eq_true rfl) rfl (Nat.le_of_ble_eq_true rfl) (by decide) rfl (c_Mo_toOf (by omega)) ?_
        refine Ev.iload_n d_Mo_nextRow_11 rfl ?_
        refine Ev.icmp_ge (tgt := 47) d_Mo_nextRow_12 rfl (by first | omega | (simp [mu]; done) | (simp [mu]; omega)) (by first | omega | (simp [mu]; done) | (simp [mu]; omega)) (fun hb12 => by exfalso; first | omega | simp at hb12 | contradiction) (fun hb12 => ?_)
        refine Ev.aload_n d_Mo_nextRow_15 rfl ?_
        refine Ev.gr 15 d_Mo_nextRow_16 lf_Mo_48 rfl rfl (is_57 hM) (by decide) (rf_57_15 hM) ?_
        refine Ev.iload_n d_Mo_nextRow_19 rfl ?_
        refine Ev.dup2 d_Mo_nextRow_20 rfl rfl ?_
        refine Ev.iaload d_Mo_nextRow_21 (is_70 hM) (by first | omega | (simp [mu]; done) | (simp [mu]; omega)) ?_
        refine Ev.iconst d_Mo_nextRow_22 ?_
        refine Ev.iadd d_Mo_nextRow_23 ?_
        refine Ev.iastore d_Mo_nextRow_24 (is_70 hM) (by decide) (by first | omega | (simp [mu]; done) | (simp [mu]; omega)) ?_
        refine Ev.iload_n d_Mo_nextRow_25 rfl ?_
        refine Ev.callS d_Mo_nextRow_26 mt_Mo_fromOf lk_Mo_200 st_Mo_fromOf rfl (Nat.le_of_ble_eq_true rfl) rfl (Nat.le_of_ble_eq_true rfl) (by decide) rfl (c_Mo_fromOf (by omega)) ?_
        refine Ev.istore_3 d_Mo_nextRow_29 rfl ?_
        refine Ev.aload_n d_Mo_nextRow_30 rfl ?_
        refine Ev.iload_n d_Mo_nextRow_31 rfl ?_
        refine Ev.callV d_Mo_nextRow_32 mt_Mo_weighedFrom lk_Mo_203 in_Mo_weighedFrom se_Mo_weighedFrom rfl (Nat.le_of_ble_eq_true rfl) rfl (Nat.le_of_ble_eq_true rfl) (by decide) (is_57 hM) (by decide) rfl rfl (c_Mo_weighedFrom hM (by omega)) ?_
        refine Ev.iconst d_Mo_nextRow_35 ?_
        refine Ev.aload_n d_Mo_nextRow_36 rfl ?_
        refine Ev.iload_n d_Mo_nextRow_37 rfl ?_
        refine Ev.callV d_Mo_nextRow_38 mt_Mo_weighedTo lk_Mo_206 in_Mo_weighedTo se_Mo_weighedTo rfl (Nat.le_of_ble_eq_true rfl) rfl (Nat.le_of_ble_eq_true rfl) (by decide) (is_57 hM) (by decide) rfl rfl (c_Mo_weighedTo hM (by omega)) ?_
        refine Ev.iadd d_Mo_nextRow_41 ?_
        refine Ev.icmp_gt (tgt := 47) d_Mo_nextRow_42 rfl (by first | omega | (simp [mu]; done) | (simp [mu]; omega)) (by first | omega | (simp [mu]; done) | (simp [mu]; omega)) (fun hb42 => ?_) (fun hb42 => by exfalso; first | omega | simp at hb42 | contradiction)
        refine Ev.aload_n d_Mo_nextRow_47 rfl ?_
        refine Ev.gr 15 d_Mo_nextRow_48 lf_Mo_48 rfl rfl (is_57 hM) (by decide) (rf_57_15 hM) ?_
        refine Ev.iload_n d_Mo_nextRow_51 rfl ?_
        refine Ev.iconst d_Mo_nextRow_52 ?_
        refine Ev.iastore d_Mo_nextRow_53 (is_70 hM) (by decide) (by first | omega | (simp [mu]; done) | (simp [mu]; omega)) ?_
        refine Ev.iinc_2 d_Mo_nextRow_54 rfl ?_
        refine Ev.goto (tgt := 3) d_Mo_nextRow_57 rfl ?_
        exact g1
      · obtain ⟨m', g1, g2, g3⟩ := lp_Mo_nextRow hM hd q ((q : Int) + -1) (mu m 70 q 0) (l.filter (fun x => decide (x ≠ (q : Int)))) x3 (by omega) (by omega) (RW_clr hR (fun j hj => mu_n (Or.inr hj)) mu_s) hfl hfn
        refine ⟨m', ?_, g2, fun a j ha => (g3 a j ha).trans (mu_a ha)⟩
        refine Ev.iload_n d_Mo_nextRow_3 rfl ?_
        refine Ev.if_lt (tgt := 60) d_Mo_nextRow_4 rfl (by first | omega | (simp [mu]; done) | (simp [mu]; omega)) (fun hb4 => by exfalso; first | omega | simp at hb4 | contradiction) (fun hb4 => ?_)
        refine Ev.iload_n d_Mo_nextRow_7 rfl ?_
        refine Ev.callS d_Mo_nextRow_8 mt_Mo_toOf lk_Mo_197 st_Mo_toOf rfl (Nat.le_of_ble_eq_true rfl) rfl (Nat.le_of_ble_eq_true rfl) (by decide) rfl (c_Mo_toOf (by omega)) ?_
        refine Ev.iload_n d_Mo_nextRow_11 rfl ?_
        refine Ev.icmp_ge (tgt := 47) d_Mo_nextRow_12 rfl (by first | omega | (simp [mu]; done) | (simp [mu]; omega)) (by first | omega | (simp [mu]; done) | (simp [mu]; omega)) (fun hb12 => ?_) (fun hb12 => by exfalso; first | omega | simp at hb12 | contradiction)
        refine Ev.aload_n d_Mo_nextRow_47 rfl ?_
        refine Ev.gr 15 d_Mo_nextRow_48 lf_Mo_48 rfl rfl (is_57 hM) (by decide) (rf_57_15 hM) ?_
        refine Ev.iload_n d_Mo_nextRow_51 rfl ?_
        refine Ev.iconst d_Mo_nextRow_52 ?_
        refine Ev.iastore d_Mo_nextRow_53 (is_70 hM) (by decide) (by first | omega | (simp [mu]; done) | (simp [mu]; omega)) ?_
        refine Ev.iinc_2 d_Mo_nextRow_54 rfl ?_
        refine Ev.goto (tgt := 3) d_Mo_nextRow_57 rfl ?_
        exact g1
theorem c_Mo_nextRow (hM : MoS σ) {d : Int} {l : List Int} (hd : 1 ≤ d ∧ d ≤ 4) (hR : RW m l) (hl : ∀ x ∈ l, 0 ≤ x ∧ x < 24) (h6 : l.length ≤ 6) : ∃ m', Call 3 m_Mo_nextRow [vr 57, vi d] σ m (some (vi (b01 ((nxk d 24 l).isSome = true)))) σ m' ∧ (∀ l', nxk d 24 l = some l' → RW m' l') ∧ Fr70 m m' := by
  obtain ⟨m', g1, g2, g3⟩ := lp_Mo_nextRow hM hd 24 23 m l none (by decide) (by decide) hR hl h6
  refine ⟨m', ?_, g2, g3⟩
  show Ev 3 m_Mo_nextRow 0 [some (vr 57), some (vi d), none, none] [] σ m _ σ m'
  refine Ev.bipush d_Mo_nextRow_0 rfl ?_
  refine Ev.istore_2 d_Mo_nextRow_2 rfl ?_
  exact g1
def sm (R : Int → Int) : Nat → Int → Int → Int
  | 0, _, s => s
  | q + 1, k, s => sm R q (k + 1) (s + R k)
theorem lp_Mo_rowMany (hM : MoS σ) : ∀ (q : Nat) (k s : Int), k + q = 24 → 0 ≤ k → Ev 1 m_Mo_rowMany 4 [some (vr 57), some (vi s), some (vi k)] [] σ m (some (vi (sm (m 70) q k s))) σ m
  | 0, k, s, hk, h0 => by
    refine Ev.iload_n d_Mo_rowMany_4 rfl ?_
    refine Ev.bipush d_Mo_rowMany_5 rfl ?_
    refine Ev.icmp_ge (tgt := 25) d_Mo_rowMany_7 rfl (by first | omega | (simp [mu]; done) | (simp [mu]; omega)) (by first | omega | (simp [mu]; done) | (simp [mu]; omega)) (fun hb7 => ?_) (fun hb7 => by exfalso; first | omega | simp at hb7 | contradiction)
    refine Ev.iload_n d_Mo_rowMany_25 rfl ?_
    exact Ev.to (Ev.ireturn d_Mo_rowMany_26 rfl) rfl rfl
  | q + 1, k, s, hk, h0 => by
    refine Ev.iload_n d_Mo_rowMany_4 rfl ?_
    refine Ev.bipush d_Mo_rowMany_5 rfl ?_
    refine Ev.icmp_ge (tgt := 25) d_Mo_rowMany_7 rfl (by first | omega | (simp [mu]; done) | (simp [mu]; omega)) (by first | omega | (simp [mu]; done) | (simp [mu]; omega)) (fun hb7 => by exfalso; first | omega | simp at hb7 | contradiction) (fun hb7 => ?_)
    refine Ev.iload_n d_Mo_rowMany_10 rfl ?_
    refine Ev.aload_n d_Mo_rowMany_11 rfl ?_
    refine Ev.gr 15 d_Mo_rowMany_12 lf_Mo_48 rfl rfl (is_57 hM) (by decide) (rf_57_15 hM) ?_
    refine Ev.iload_n d_Mo_rowMany_15 rfl ?_
    refine Ev.iaload d_Mo_rowMany_16 (is_70 hM) (by first | omega | (simp [mu]; done) | (simp [mu]; omega)) ?_
    refine Ev.iadd d_Mo_rowMany_17 ?_
    refine Ev.istore_1 d_Mo_rowMany_18 rfl ?_
    refine Ev.iinc_2 d_Mo_rowMany_19 rfl ?_
    refine Ev.goto (tgt := 4) d_Mo_rowMany_22 rfl ?_
    exact lp_Mo_rowMany hM q (k + 1) _ (by omega) (by omega)
theorem sm_cn : ∀ (l : List Int) (q : Nat) (k s : Int), (∀ x ∈ l, k ≤ x ∧ x < k + q) → sm (fun j => cn j l) q k s = s + l.length
  | [], q, k, s, _ => by
    have : ∀ (q : Nat) (k s : Int), sm (fun j => cn j []) q k s = s := by
      intro q
      induction q with
      | zero => intro k s; rfl
      | succ q ih => intro k s; simp only [sm]; rw [ih]; simp [cn]
    rw [this]; simp
  | a :: l, q, k, s, h => by
    have lin : ∀ (q : Nat) (k s s2 : Int), sm (fun j => cn j (a :: l)) q k (s + s2) = sm (fun j => if a = j then 1 else 0) q k s + sm (fun j => cn j l) q k s2 := by
      intro q
      induction q with
      | zero => intro k s s2; rfl
      | succ q ih =>
        intro k s s2
        simp only [sm, cn]
        rw [← ih]; congr 1; omega
    have z : ∀ (q : Nat) (k s : Int), a < k → sm (fun j => if a = j then 1 else 0) q k s = s := by
      intro q
      induction q with
      | zero => intro k s _; rfl
      | succ q ih => intro k s hk; simp only [sm]; rw [ih _ _ (by omega), if_neg (by omega)]; omega
    have on : ∀ (q : Nat) (k s : Int), k ≤ a → a < k + q → sm (fun j => if a = j then 1 else 0) q k s = s + 1 := by
      intro q
      induction q with
      | zero => intro k s h1 h2; omega
      | succ q ih =>
        intro k s h1 h2
        simp only [sm]
        by_cases e : a = k
        · rw [z _ _ _ (by omega), if_pos e]
        · rw [ih _ _ (by omega) (by omega), if_neg e]; omega
    have ha := h a List.mem_cons_self
    have := lin q k 0 s
    rw [Int.zero_add] at this
    rw [this, on q k 0 ha.1 ha.2, sm_cn l q k s (fun x hx => h x (List.mem_cons_of_mem _ hx))]
    simp only [List.length_cons]
    omega
theorem sm_RW : ∀ (q : Nat) (k s : Int) {l : List Int}, RW m l → 0 ≤ k → k + q = 24 → sm (m 70) q k s = sm (fun j => cn j l) q k s
  | 0, k, s, l, _, _, _ => rfl
  | q + 1, k, s, l, h, h0, hk => by
    simp only [sm]
    rw [h k h0 (by omega)]
    exact sm_RW q (k + 1) _ h (by omega) (by omega)
theorem c_Mo_rowMany (hM : MoS σ) {l : List Int} (hR : RW m l) (hl : ∀ x ∈ l, 0 ≤ x ∧ x < 24) : Call 1 m_Mo_rowMany [vr 57] σ m (some (vi l.length)) σ m := by
  have e : sm (m 70) 24 0 0 = (l.length : Int) := by
    rw [sm_RW 24 0 0 hR (by decide) (by decide), sm_cn l 24 0 0 (fun x hx => by have := hl x hx; omega)]; omega
  rw [← e]
  show Ev 1 m_Mo_rowMany 0 [some (vr 57), none, none] [] σ m _ σ m
  refine Ev.iconst d_Mo_rowMany_0 ?_
  refine Ev.istore_1 d_Mo_rowMany_1 rfl ?_
  refine Ev.iconst d_Mo_rowMany_2 ?_
  refine Ev.istore_2 d_Mo_rowMany_3 rfl ?_
  exact lp_Mo_rowMany hM 24 0 0 (by decide) (by decide)
theorem lp_Mo_clearRow (hM : MoS σ) : ∀ (q : Nat) (k : Int) (m : Mm), k + q = 24 → 0 ≤ k → (∀ j, 0 ≤ j → j < k → m 70 j = 0) → ∃ m', Ev 1 m_Mo_clearRow 2 [some (vr 57), some (vi k)] [] σ m none σ m' ∧ RW m' [] ∧ Fr70 m m'
  | 0, k, m, hk, h0, hz => by
    refine ⟨m, ?_, fun j h1 h2 => hz j h1 (by omega), fun _ _ _ => rfl⟩
    refine Ev.iload_n d_Mo_clearRow_2 rfl ?_
    refine Ev.bipush d_Mo_clearRow_3 rfl ?_
    refine Ev.icmp_ge (tgt := 21) d_Mo_clearRow_5 rfl (by first | omega | (simp [mu]; done) | (simp [mu]; omega)) (by first | omega | (simp [mu]; done) | (simp [mu]; omega)) (fun hb5 => ?_) (fun hb5 => by exfalso; first | omega | simp at hb5 | contradiction)
    exact Ev.to (Ev.return d_Mo_clearRow_21 rfl) rfl rfl
  | q + 1, k, m, hk, h0, hz => by
    obtain ⟨m', g1, g2, g3⟩ := lp_Mo_clearRow hM q (k + 1) (mu m 70 k 0) (by omega) (by omega) (fun j h1 h2 => by
      by_cases e : j = k
      · subst e; exact mu_s
      · rw [mu_n (Or.inr e)]; exact hz j h1 (by omega))
    refine ⟨m', ?_, g2, fun a j ha => (g3 a j ha).trans (mu_a ha)⟩
    refine Ev.iload_n d_Mo_clearRow_2 rfl ?_
    refine Ev.bipush d_Mo_clearRow_3 rfl ?_
    refine Ev.icmp_ge (tgt := 21) d_Mo_clearRow_5 rfl (by first | omega | (simp [mu]; done) | (simp [mu]; omega)) (by first | omega | (simp [mu]; done) | (simp [mu]; omega)) (fun hb5 => by exfalso; first | omega | simp at hb5 | contradiction) (fun hb5 => ?_)
    refine Ev.aload_n d_Mo_clearRow_8 rfl ?_
    refine Ev.gr 15 d_Mo_clearRow_9 lf_Mo_48 rfl rfl (is_57 hM) (by decide) (rf_57_15 hM) ?_
    refine Ev.iload_n d_Mo_clearRow_12 rfl ?_
    refine Ev.iconst d_Mo_clearRow_13 ?_
    refine Ev.iastore d_Mo_clearRow_14 (is_70 hM) (by decide) (by first | omega | (simp [mu]; done) | (simp [mu]; omega)) ?_
    refine Ev.iinc_1 d_Mo_clearRow_15 rfl ?_
    refine Ev.goto (tgt := 2) d_Mo_clearRow_18 rfl ?_
    exact g1
theorem c_Mo_clearRow (hM : MoS σ) : ∃ m', Call 1 m_Mo_clearRow [vr 57] σ m none σ m' ∧ RW m' [] ∧ Fr70 m m' := by
  obtain ⟨m', g1, g2, g3⟩ := lp_Mo_clearRow hM 24 0 m (by decide) (by decide) (fun j h1 h2 => by omega)
  refine ⟨m', ?_, g2, g3⟩
  show Ev 1 m_Mo_clearRow 0 [some (vr 57), none] [] σ m _ σ m'
  refine Ev.iconst d_Mo_clearRow_0 ?_
  refine Ev.istore_1 d_Mo_clearRow_1 rfl ?_
  exact g1
end
