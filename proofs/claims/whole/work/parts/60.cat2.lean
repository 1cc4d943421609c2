/-! the catalogue filled -/
def efR (F : List Int → List (List Int)) (s : Int) (l : List Int) : Nat → Nat → List (List Int)
  | 0, _ => []
  | n + 1, j => F (l ++ List.replicate (j + 1) s) ++ efR F s l n (j + 1)
def ef (d : Int) : Nat → Int → List Int → List (List Int)
  | 0, _, l => [l]
  | q + 1, s, l => ef d q (s + 1) l ++ (if tS s < d then efR (ef d q (s + 1)) s l ((1 - outL (fS s) l) / wS s).toNat 0 else [])
theorem ef_RL {d : Int} (hd : 1 ≤ d ∧ d ≤ 4) : ef d 24 0 [] = RL d :=
  dcase (p := fun d => ef d 24 0 [] = RL d) hd (by decide +kernel) (by decide +kernel) (by decide +kernel) (by decide +kernel)
theorem ef_self (d : Int) : ∀ (q : Nat) (s : Int) (l : List Int), l ∈ ef d q s l
  | 0, _, l => List.mem_singleton.mpr rfl
  | q + 1, s, l => List.mem_append.mpr (Or.inl (ef_self d q (s + 1) l))
theorem Adds_app (x : Int) (l : List Int) : Adds x l (l ++ [x]) := ⟨by simp, fun s => by
  rw [cn_app]
  simp only [cn]
  by_cases e : s = x
  · rw [if_pos e, if_pos e.symm]; omega
  · rw [if_neg e, if_neg (fun h => e h.symm)]; omega, fun f => by rw [outL_app]; simp only [outL]; omega⟩
theorem rep_app (s : Int) (l : List Int) (j : Nat) : l ++ List.replicate (j + 1) s = (l ++ List.replicate j s) ++ [s] := by
  rw [List.replicate_succ', List.append_assoc]
theorem CatM_fr {m m' : Mm} {c d : Int} {L : List (List Int)} (h : CatM m c d L) (f : ∀ b j : Int, (b = c ∨ (c + 12 ≤ b ∧ b ≤ c + 17)) → m' b j = m b j) : CatM m' c d L := ⟨(f _ _ (by omega)).trans h.1, (f _ _ (by omega)).trans h.2.1, fun i hi => ⟨(f _ _ (by omega)).trans (h.2.2.1 i hi).1, (f _ _ (by omega)).trans (h.2.2.1 i hi).2⟩, fun n x y => ⟨(f _ _ (by omega)).trans (h.2.2.2 n x y).1, (f _ _ (by omega)).trans (h.2.2.2 n x y).2.1, (f _ _ (by omega)).trans (h.2.2.2 n x y).2.2.1, fun j a b => (f _ _ (by omega)).trans ((h.2.2.2 n x y).2.2.2 j a b)⟩⟩
section
variable {σ : Sg} {m : Mm}
theorem lpr_Cat_fill {D : Nat} (hD : 4 ≤ D) {c d s most : Int} (hC : CatS σ c) (hs : 0 ≤ s ∧ s < 24) (hmo : most ≤ 1000) {L : List (List Int)} {l : List Int} : ∀ (n : Nat) (j : Int) (m : Mm), j + n = most → 0 ≤ j → SR σ m → CatM m c d L → PicM m (c + 1) d (l ++ List.replicate n s) → ∃ mF, Ev D m_Cat_fillFrom 79 [some (vr c), some (vi s), some (vi most), some (vi j)] [] σ m none σ mF ∧ CatM mF c d L ∧ PicM mF (c + 1) d l ∧ FrQ2 c m mF
  | 0, j, m, hj, h0, hS, hM, hm => by
    rw [List.replicate_zero, List.append_nil] at hm
    refine ⟨m, ?_, hM, hm, FrQ2.rf⟩
    refine Ev.iload_n d_Cat_fillFrom_79 rfl ?_
    refine Ev.iload_n d_Cat_fillFrom_80 rfl ?_
    refine Ev.icmp_ge (tgt := 98) d_Cat_fillFrom_81 rfl (by first | omega | (simp [mu]; done) | (simp [mu]; omega)) (by first | omega | (simp [mu]; done) | (simp [mu]; omega)) (fun hb81 => ?_) (fun hb81 => by exfalso; first | omega | simp at hb81 | contradiction)
    exact Ev.to (Ev.return d_Cat_fillFrom_98 rfl) rfl rfl
  | n + 1, j, m, hj, h0, hS, hM, hm => by
    have h3 := hC.1.1
    rw [rep_app] at hm
    obtain ⟨m1, q1, q2, q3⟩ := c_Pic_remove hS hC.2.1.1 hm hs (Adds_app s _)
    have hM1 := CatM_fr hM (fun b j h => q3 b j (by omega) (by omega) (by omega))
    obtain ⟨mF, g1, g2, g3, g4⟩ := lpr_Cat_fill hD hC hs hmo n (j + 1) m1 (by omega) (by omega) (SR_fr hS (fun b j h => q3 b j (by omega) (by omega) (by omega))) hM1 q2
    refine ⟨mF, ?_, g2, g3, fun b j h => (g4 b j h).trans (q3 b j (by omega) (by omega) (by omega))⟩
    refine Ev.iload_n d_Cat_fillFrom_79 rfl ?_
    refine Ev.iload_n d_Cat_fillFrom_80 rfl ?_
    refine Ev.icmp_ge (tgt := 98) d_Cat_fillFrom_81 rfl (by first | omega | (simp [mu]; done) | (simp [mu]; omega)) (by first | omega | (simp [mu]; done) | (simp [mu]; omega)) (fun hb81 => by exfalso; first | omega | simp at hb81 | contradiction) (fun hb81 => ?_)
    refine Ev.aload_n d_Cat_fillFrom_84 rfl ?_
    refine Ev.gr 1 d_Cat_fillFrom_85 lf_Cat_12 rfl rfl hC.1.2 (by decide) hC.2.2.2.1.1 ?_
    refine Ev.iload_n d_Cat_fillFrom_88 rfl ?_
    refine Ev.callVv d_Cat_fillFrom_89 mt_Pic_remove lk_Cat_82 in_Pic_remove se_Pic_remove rfl (Nat.le_of_ble_eq_true rfl) rfl (Nat.le_of_ble_eq_true rfl) (by omega) hC.2.1.1.2.1 (by decide) rfl rfl q1 ?_
    refine Ev.iinc_3 d_Cat_fillFrom_92 rfl ?_
    refine Ev.goto (tgt := 79) d_Cat_fillFrom_95 rfl ?_
    exact g1
theorem lpa_Cat_fill {D : Nat} (hD : 4 ≤ D) {c d s : Int} (hC : CatS σ c) (hs : 0 ≤ s ∧ s < 24) {F : List Int → List (List Int)} {l : List Int} {most : Nat} (hmo : (most : Int) ≤ 1000) (H : ∀ (l : List Int) (L : List (List Int)) (m : Mm), SR σ m → CatM m c d L → PicM m (c + 1) d l → (∀ x ∈ F l, x ∈ RL d) → L.length + (F l).length ≤ 61 → ∃ m', Call D m_Cat_fillFrom [vr c, vi (s + 1)] σ m none σ m' ∧ CatM m' c d (L ++ F l) ∧ PicM m' (c + 1) d l ∧ FrQ2 c m m') {Post : Mm → Prop} : ∀ (n j : Nat) (L : List (List Int)) (m : Mm), j + n = most → SR σ m → CatM m c d L → PicM m (c + 1) d (l ++ List.replicate j s) → (∀ x ∈ efR F s l n j, x ∈ RL d) → L.length + (efR F s l n j).length ≤ 61 → (∀ m' : Mm, SR σ m' → CatM m' c d (L ++ efR F s l n j) → PicM m' (c + 1) d (l ++ List.replicate most s) → FrQ2 c m m' → ∃ mF, Ev (D + 1) m_Cat_fillFrom 77 [some (vr c), some (vi s), some (vi most), some (vi most)] [] σ m' none σ mF ∧ Post mF) → ∃ mF, Ev (D + 1) m_Cat_fillFrom 51 [some (vr c), some (vi s), some (vi most), some (vi j)] [] σ m none σ mF ∧ Post mF
  | 0, j, L, m, hj, hS, hM, hm, hx, hl, cont => by
    have e : j = most := by omega
    subst e
    simp only [efR, List.append_nil] at cont
    obtain ⟨mF, g1, g2⟩ := cont m hS hM hm FrQ2.rf
    refine ⟨mF, ?_, g2⟩
    refine Ev.iload_n d_Cat_fillFrom_51 rfl ?_
    refine Ev.iload_n d_Cat_fillFrom_52 rfl ?_
    refine Ev.icmp_ge (tgt := 77) d_Cat_fillFrom_53 rfl (by first | omega | (simp [mu]; done) | (simp [mu]; omega)) (by first | omega | (simp [mu]; done) | (simp [mu]; omega)) (fun hb53 => ?_) (fun hb53 => by exfalso; first | omega | simp at hb53 | contradiction)
    exact g1
  | n + 1, j, L, m, hj, hS, hM, hm, hx, hl, cont => by
    have h3 := hC.1.1
    simp only [efR] at hx hl cont
    rw [List.length_append] at hl
    rw [← List.append_assoc] at cont
    obtain ⟨m1, q1, q2, q3⟩ := c_Pic_add hS hC.2.1.1 hm hs (Adds_app s _)
    rw [← rep_app] at q2
    have hM1 := CatM_fr hM (fun b j h => q3 b j (by omega) (by omega) (by omega))
    have hS1 : SR σ m1 := SR_fr hS (fun b j h => q3 b j (by omega) (by omega) (by omega))
    obtain ⟨m2, k1, k2, k3, k4⟩ := H (l ++ List.replicate (j + 1) s) L m1 hS1 hM1 q2 (fun x h => hx x (List.mem_append.mpr (Or.inl h))) (by omega)
    have hS2 : SR σ m2 := SR_fr hS1 (fun b j h => k4 b j (by omega))
    have F2 : FrQ2 c m m2 := fun b j h => (k4 b j h).trans (q3 b j (by omega) (by omega) (by omega))
    obtain ⟨mF, g1, g2⟩ := lpa_Cat_fill hD hC hs hmo H (Post := Post) n (j + 1) _ m2 (by omega) hS2 k2 k3 (fun x h => hx x (List.mem_append.mpr (Or.inr h))) (by rw [List.length_append]; omega) (fun m' s' a b f => cont m' s' a b (F2.tr f))
    refine ⟨mF, ?_, g2⟩
    refine Ev.iload_n d_Cat_fillFrom_51 rfl ?_
    refine Ev.iload_n d_Cat_fillFrom_52 rfl ?_
    refine Ev.icmp_ge (tgt := 77) d_Cat_fillFrom_53 rfl (by first | omega | (simp [mu]; done) | (simp [mu]; omega)) (by first | omega | (simp [mu]; done) | (simp [mu]; omega)) (fun hb53 => by exfalso; first | omega | simp at hb53 | contradiction) (fun hb53 => ?_)
    refine Ev.aload_n d_Cat_fillFrom_56 rfl ?_
    refine Ev.gr 1 d_Cat_fillFrom_57 lf_Cat_12 rfl rfl hC.1.2 (by decide) hC.2.2.2.1.1 ?_
    refine Ev.iload_n d_Cat_fillFrom_60 rfl ?_
    refine Ev.callVv d_Cat_fillFrom_61 mt_Pic_add lk_Cat_79 in_Pic_add se_Pic_add rfl (Nat.le_of_ble_eq_true rfl) rfl (Nat.le_of_ble_eq_true rfl) (by omega) hC.2.1.1.2.1 (by decide) rfl rfl q1 ?_
    refine Ev.aload_n d_Cat_fillFrom_64 rfl ?_
    refine Ev.iload_n d_Cat_fillFrom_65 rfl ?_
    refine Ev.iconst d_Cat_fillFrom_66 ?_
    refine Ev.iadd d_Cat_fillFrom_67 ?_
    refine Ev.callVv d_Cat_fillFrom_68 mt_Cat_fillFrom lk_Cat_60 in_Cat_fillFrom se_Cat_fillFrom rfl (Nat.le_of_ble_eq_true rfl) rfl (Nat.le_of_ble_eq_true rfl) (by omega) hC.1.2 (by decide) rfl rfl k1 ?_
    refine Ev.iinc_3 d_Cat_fillFrom_71 rfl ?_
    refine Ev.goto (tgt := 51) d_Cat_fillFrom_74 rfl ?_
    exact g1
theorem c_Cat_fill {c d : Int} (hC : CatS σ c) (hd : 1 ≤ d ∧ d ≤ 4) : ∀ (q : Nat) (s : Int) (l : List Int) (L : List (List Int)) (m : Mm), s + q = 24 → 0 ≤ s → SR σ m → CatM m c d L → PicM m (c + 1) d l → (∀ x ∈ ef d q s l, x ∈ RL d) → L.length + (ef d q s l).length ≤ 61 → ∃ m', Call (64 + q) m_Cat_fillFrom [vr c, vi s] σ m none σ m' ∧ CatM m' c d (L ++ ef d q s l) ∧ PicM m' (c + 1) d l ∧ FrQ2 c m m' := by
  intro q
  induction q with
  | zero =>
    intro s l L m hs h0 hS hM hm hx hl
    simp only [ef, List.length_cons, List.length_nil] at hl
    obtain ⟨m1, q1, q2, q3, q4⟩ := c_Cat_enter hC hS hd (hx l (ef_self d 0 s l)) hM (by omega) hm
    refine ⟨m1, ?_, q2, q3, q4⟩
    show Ev 64 m_Cat_fillFrom 0 [some (vr c), some (vi s), none, none] [] σ m _ σ m1
    refine Ev.iload_n d_Cat_fillFrom_0 rfl ?_
    refine Ev.bipush d_Cat_fillFrom_1 rfl ?_
    refine Ev.icmp_lt (tgt := 11) d_Cat_fillFrom_3 rfl (by first | omega | (simp [mu]; done) | (simp [mu]; omega)) (by first | omega | (simp [mu]; done) | (simp [mu]; omega)) (fun hb3 => by exfalso; first | omega | simp at hb3 | contradiction) (fun hb3 => ?_)
    refine Ev.aload_n d_Cat_fillFrom_6 rfl ?_
    refine Ev.callVv d_Cat_fillFrom_7 mt_Cat_enter lk_Cat_63 in_Cat_enter se_Cat_enter rfl (Nat.le_of_ble_eq_true rfl) rfl (Nat.le_of_ble_eq_true rfl) (by decide) hC.1.2 (by decide) rfl rfl q1 ?_
    exact Ev.to (Ev.return d_Cat_fillFrom_10 rfl) rfl rfl
  | succ q ih =>
    intro s l L m hs h0 hS hM hm hx hl
    have h3 := hC.1.1
    have hs' : 0 ≤ s ∧ s < 24 := by omega
    have bt := tS_b s
    have bf := fS_b s
    have bw := wS_b s
    have hlt := fS_lt hs'
    have hlR := hx l (ef_self d (q + 1) s l)
    simp only [ef] at hx hl ⊢
    rw [List.length_append] at hl
    obtain ⟨m1, q1, q2, q3, q4⟩ := ih (s + 1) l L m (by omega) (by omega) hS hM hm (fun x h => hx x (List.mem_append.mpr (Or.inl h))) (by omega)
    have hS1 : SR σ m1 := SR_fr hS (fun b j h => q4 b j (by omega))
    by_cases ht : tS s < d
    · rw [if_pos ht] at hx hl ⊢
      have hK := (RL_ok hd l hlR).1
      have hout := rgt_at d.toNat 0 (fS s) (RL_ok hd l hlR).2.1 (by omega) (by omega)
      have hob := outL_b (fS s) l
      have h6 := hK.2.1
      have hmost : (((1 - outL (fS s) l) / wS s).toNat : Int) = (1 - outL (fS s) l) / wS s := Int.toNat_of_nonneg (Int.ediv_nonneg (by omega) (by omega))
      have hml : (1 - outL (fS s) l) / wS s ≤ 1000 := by
        have := Int.ediv_le_self (wS s) (show 0 ≤ 1 - outL (fS s) l by omega)
        omega
      generalize ((1 - outL (fS s) l) / wS s).toNat = most at hmost hx hl
      have e0 : m1 c 0 = d := q2.1
      obtain ⟨mF, g1, g2⟩ := lpa_Cat_fill (D := 64 + q) (by omega) hC hs' (F := ef d q (s + 1)) (l := l) (most := most) (by omega) (fun l L m a1 a2 a3 a4 a5 => ih (s + 1) l L m (by omega) (by omega) a1 a2 a3 a4 a5) (Post := fun mF => CatM mF c d (L ++ (ef d q (s + 1) l ++ efR (ef d q (s + 1)) s l most 0)) ∧ PicM mF (c + 1) d l ∧ FrQ2 c m mF) most 0 (L ++ ef d q (s + 1) l) m1 (by omega) hS1 q2 (by rw [List.replicate_zero, List.append_nil]; exact q3) (fun x h => hx x (List.mem_append.mpr (Or.inr h))) (by rw [List.length_append]; omega) (fun m2 s2 a2 b2 f2 => by
        rw [List.append_assoc] at a2
        obtain ⟨mF, g1, g2, g3, g4⟩ := lpr_Cat_fill (D := 64 + q + 1) (by omega) hC hs' (most := most) (by omega) (l := l) most 0 m2 (by omega) (by decide) s2 a2 b2
        refine ⟨mF, ?_, g2, g3, (q4.tr f2).tr g4⟩
        refine Ev.iconst d_Cat_fillFrom_77 ?_
        refine Ev.istore_3 d_Cat_fillFrom_78 rfl ?_
        exact g1)
      refine ⟨mF, ?_, g2⟩
      show Ev (64 + (q + 1)) m_Cat_fillFrom 0 [some (vr c), some (vi s), none, none] [] σ m _ σ mF
      refine Ev.iload_n d_Cat_fillFrom_0 rfl ?_
      refine Ev.bipush d_Cat_fillFrom_1 rfl ?_
      refine Ev.icmp_lt (tgt := 11) d_Cat_fillFrom_3 rfl (by first | omega | (simp [mu]; done) | (simp [mu]; omega)) (by first | omega | (simp [mu]; done) | (simp [mu]; omega)) (fun hb3 => ?_) (fun hb3 => by exfalso; first | omega | simp at hb3 | contradiction)
      refine Ev.aload_n d_Cat_fillFrom_11 rfl ?_
      refine Ev.iload_n d_Cat_fillFrom_12 rfl ?_
      refine Ev.iconst d_Cat_fillFrom_13 ?_
      refine Ev.iadd d_Cat_fillFrom_14 ?_
      refine Ev.callVv d_Cat_fillFrom_15 mt_Cat_fillFrom lk_Cat_60 in_Cat_fillFrom se_Cat_fillFrom rfl (Nat.le_of_ble_eq_true rfl) rfl (Nat.le_of_ble_eq_true rfl) (by omega) hC.1.2 (by decide) rfl rfl q1 ?_
      refine Ev.iload_n d_Cat_fillFrom_18 rfl ?_
      refine Ev.callSN d_Cat_fillFrom_19 mt_FC_toOf lk_Cat_66 st_FC_toOf rfl (Nat.le_of_ble_eq_true rfl) rfl (Nat.le_of_ble_eq_true rfl) (by omega) rfl (c_FC_toOf hS1 hs') ?_
      refine Ev.aload_n d_Cat_fillFrom_22 rfl ?_
      refine Ev.gf 0 d_Cat_fillFrom_23 lf_Cat_52 rfl rfl hC.1.2 (by decide) ?_
      rw [e0]
      refine Ev.icmp_lt (tgt := 30) d_Cat_fillFrom_26 rfl (by first | omega | (simp [mu]; done) | (simp [mu]; omega)) (by first | omega | (simp [mu]; done) | (simp [mu]; omega)) (fun hb26 => ?_) (fun hb26 => by exfalso; first | omega | simp at hb26 | contradiction)
      refine Ev.iconst d_Cat_fillFrom_30 ?_
      refine Ev.aload_n d_Cat_fillFrom_31 rfl ?_
      refine Ev.gr 1 d_Cat_fillFrom_32 lf_Cat_12 rfl rfl hC.1.2 (by decide) hC.2.2.2.1.1 ?_
      refine Ev.iload_n d_Cat_fillFrom_35 rfl ?_
      refine Ev.callSN d_Cat_fillFrom_36 mt_FC_fromOf lk_Cat_70 st_FC_fromOf rfl (Nat.le_of_ble_eq_true rfl) rfl (Nat.le_of_ble_eq_true rfl) (by omega) rfl (c_FC_fromOf hS1 hs') ?_
      refine Ev.callV d_Cat_fillFrom_39 mt_Pic_outOf lk_Cat_73 in_Pic_outOf se_Pic_outOf rfl (Nat.le_of_ble_eq_true rfl) rfl (Nat.le_of_ble_eq_true rfl) (by omega) hC.2.1.1.2.1 (by decide) rfl rfl (c_Pic_outOf hC.2.1.1 q3 hd (by omega)) ?_
      refine Ev.isub d_Cat_fillFrom_42 ?_
      refine Ev.iload_n d_Cat_fillFrom_43 rfl ?_
      refine Ev.callSN d_Cat_fillFrom_44 mt_FC_weightOf lk_Cat_76 st_FC_weightOf rfl (Nat.le_of_ble_eq_true rfl) rfl (Nat.le_of_ble_eq_true rfl) (by omega) rfl (c_FC_weightOf hs') ?_
      refine Ev.idiv d_Cat_fillFrom_47 (by first | omega | (simp [mu]; done) | (simp [mu]; omega)) (by first | omega | (simp [mu]; done) | (simp [mu]; omega)) ?_
      rw [← hmost]
      refine Ev.istore_2 d_Cat_fillFrom_48 rfl ?_
      refine Ev.iconst d_Cat_fillFrom_49 ?_
      refine Ev.istore_3 d_Cat_fillFrom_50 rfl ?_
      exact g1
    · rw [if_neg ht, List.append_nil]
      have e0 : m1 c 0 = d := q2.1
      refine ⟨m1, ?_, q2, q3, q4⟩
      show Ev (64 + (q + 1)) m_Cat_fillFrom 0 [some (vr c), some (vi s), none, none] [] σ m _ σ m1
      refine Ev.iload_n d_Cat_fillFrom_0 rfl ?_
      refine Ev.bipush d_Cat_fillFrom_1 rfl ?_
      refine Ev.icmp_lt (tgt := 11) d_Cat_fillFrom_3 rfl (by first | omega | (simp [mu]; done) | (simp [mu]; omega)) (by first | omega | (simp [mu]; done) | (simp [mu]; omega)) (fun hb3 => ?_) (fun hb3 => by exfalso; first | omega | simp at hb3 | contradiction)
      refine Ev.aload_n d_Cat_fillFrom_11 rfl ?_
      refine Ev.iload_n d_Cat_fillFrom_12 rfl ?_
      refine Ev.iconst d_Cat_fillFrom_13 ?_
      refine Ev.iadd d_Cat_fillFrom_14 ?_
      refine Ev.callVv d_Cat_fillFrom_15 mt_Cat_fillFrom lk_Cat_60 in_Cat_fillFrom se_Cat_fillFrom rfl (Nat.le_of_ble_eq_true rfl) rfl (Nat.le_of_ble_eq_true rfl) (by omega) hC.1.2 (by decide) rfl rfl q1 ?_
      refine Ev.iload_n d_Cat_fillFrom_18 rfl ?_
      refine Ev.callSN d_Cat_fillFrom_19 mt_FC_toOf lk_Cat_66 st_FC_toOf rfl (Nat.le_of_ble_eq_true rfl) rfl (Nat.le_of_ble_eq_true rfl) (by omega) rfl (c_FC_toOf hS1 hs') ?_
      refine Ev.aload_n d_Cat_fillFrom_22 rfl ?_
      refine Ev.gf 0 d_Cat_fillFrom_23 lf_Cat_52 rfl rfl hC.1.2 (by decide) ?_
      rw [e0]
      refine Ev.icmp_lt (tgt := 30) d_Cat_fillFrom_26 rfl (by first | omega | (simp [mu]; done) | (simp [mu]; omega)) (by first | omega | (simp [mu]; done) | (simp [mu]; omega)) (fun hb26 => by exfalso; first | omega | simp at hb26 | contradiction) (fun hb26 => ?_)
      exact Ev.to (Ev.return d_Cat_fillFrom_29 rfl) rfl rfl
theorem c_Cat_howMany {c d : Int} (hC : CatS σ c) {L : List (List Int)} (hM : CatM m c d L) {n : Int} (hn : 0 ≤ n ∧ n ≤ 6) : Call 2 m_Cat_howMany [vr c, vi n] σ m (some (vi (fo g1 (nst d n) L 0))) σ m := by
  show Ev 2 m_Cat_howMany 0 [some (vr c), some (vi n)] [] σ m _ σ m
  have e := (hM.2.2.2 n hn.1 hn.2).1
  refine Ev.iload_n d_Cat_howMany_0 rfl ?_
  refine Ev.callS d_Cat_howMany_1 mt_Cat_isKnots lk_Cat_89 st_Cat_isKnots rfl (Nat.le_of_ble_eq_true rfl) rfl (Nat.le_of_ble_eq_true rfl) (by decide) rfl (c_Cat_isKnots (by omega)) ?_
  refine Ev.if_eq (tgt := 16) d_Cat_howMany_4 rfl b01_b (fun hb4 => by exfalso; (first | rw [b01_ne] at hb4 | rw [b01_eq] at hb4); omega) (fun hb4 => ?_)
  rw [b01_ne] at hb4
  refine Ev.aload_n d_Cat_howMany_7 rfl ?_
  refine Ev.gr 6 d_Cat_howMany_8 lf_Cat_40 rfl rfl hC.1.2 (by decide) hC.2.2.2.2.2.2.1 ?_
  refine Ev.iload_n d_Cat_howMany_11 rfl ?_
  refine Ev.iaload d_Cat_howMany_12 hC.2.2.1.2.2.1 (by first | omega | (simp [mu]; done) | (simp [mu]; omega)) ?_
  rw [e]
  refine Ev.goto (tgt := 17) d_Cat_howMany_13 rfl ?_
  exact Ev.to (Ev.ireturn d_Cat_howMany_17 rfl) rfl rfl
theorem c_Cat_counted {c d : Int} (hC : CatS σ c) {L : List (List Int)} (hM : CatM m c d L) {n : Int} (hn : 0 ≤ n ∧ n ≤ 6) : Call 2 m_Cat_counted [vr c, vi n] σ m (some (vl (fo (gC d) (nst d n) L 0))) σ m := by
  show Ev 2 m_Cat_counted 0 [some (vr c), some (vi n)] [] σ m _ σ m
  have e := (hM.2.2.2 n hn.1 hn.2).2.1
  refine Ev.iload_n d_Cat_counted_0 rfl ?_
  refine Ev.callS d_Cat_counted_1 mt_Cat_isKnots lk_Cat_89 st_Cat_isKnots rfl (Nat.le_of_ble_eq_true rfl) rfl (Nat.le_of_ble_eq_true rfl) (by decide) rfl (c_Cat_isKnots (by omega)) ?_
  refine Ev.if_eq (tgt := 16) d_Cat_counted_4 rfl b01_b (fun hb4 => by exfalso; (first | rw [b01_ne] at hb4 | rw [b01_eq] at hb4); omega) (fun hb4 => ?_)
  rw [b01_ne] at hb4
  refine Ev.aload_n d_Cat_counted_7 rfl ?_
  refine Ev.gr 7 d_Cat_counted_8 lf_Cat_43 rfl rfl hC.1.2 (by decide) hC.2.2.2.2.2.2.2.1 ?_
  refine Ev.iload_n d_Cat_counted_11 rfl ?_
  refine Ev.laload d_Cat_counted_12 hC.2.2.1.2.2.2.1 (by first | omega | (simp [mu]; done) | (simp [mu]; omega)) ?_
  rw [e]
  refine Ev.goto (tgt := 17) d_Cat_counted_13 rfl ?_
  exact Ev.to (Ev.lreturn d_Cat_counted_17 rfl) rfl rfl
theorem c_Cat_countedBySign {c d : Int} (hC : CatS σ c) {L : List (List Int)} (hM : CatM m c d L) {n : Int} (hn : 0 ≤ n ∧ n ≤ 6) : Call 2 m_Cat_countedBySign [vr c, vi n] σ m (some (vl (fo (gS d) (nst d n) L 0))) σ m := by
  show Ev 2 m_Cat_countedBySign 0 [some (vr c), some (vi n)] [] σ m _ σ m
  have e := (hM.2.2.2 n hn.1 hn.2).2.2.1
  refine Ev.iload_n d_Cat_countedBySign_0 rfl ?_
  refine Ev.callS d_Cat_countedBySign_1 mt_Cat_isKnots lk_Cat_89 st_Cat_isKnots rfl (Nat.le_of_ble_eq_true rfl) rfl (Nat.le_of_ble_eq_true rfl) (by decide) rfl (c_Cat_isKnots (by omega)) ?_
  refine Ev.if_eq (tgt := 16) d_Cat_countedBySign_4 rfl b01_b (fun hb4 => by exfalso; (first | rw [b01_ne] at hb4 | rw [b01_eq] at hb4); omega) (fun hb4 => ?_)
  rw [b01_ne] at hb4
  refine Ev.aload_n d_Cat_countedBySign_7 rfl ?_
  refine Ev.gr 8 d_Cat_countedBySign_8 lf_Cat_46 rfl rfl hC.1.2 (by decide) hC.2.2.2.2.2.2.2.2.1 ?_
  refine Ev.iload_n d_Cat_countedBySign_11 rfl ?_
  refine Ev.laload d_Cat_countedBySign_12 hC.2.2.1.2.2.2.2.1 (by first | omega | (simp [mu]; done) | (simp [mu]; omega)) ?_
  rw [e]
  refine Ev.goto (tgt := 17) d_Cat_countedBySign_13 rfl ?_
  exact Ev.to (Ev.lreturn d_Cat_countedBySign_17 rfl) rfl rfl
theorem c_Cat_countedByPower {c d : Int} (hC : CatS σ c) {L : List (List Int)} (hM : CatM m c d L) {n k : Int} (hn : 0 ≤ n ∧ n ≤ 6) (hk : -2147483648 ≤ k ∧ k ≤ 2147483647) : Call 2 m_Cat_countedByPower [vr c, vi n, vi k] σ m (some (vl (if -18 ≤ k ∧ k ≤ 18 then fo (gP d (18 + k)) (nst d n) L 0 else 0))) σ m := by
  show Ev 2 m_Cat_countedByPower 0 [some (vr c), some (vi n), some (vi k)] [] σ m _ σ m
  by_cases h : -18 ≤ k ∧ k ≤ 18
  · have e := (hM.2.2.2 n hn.1 hn.2).2.2.2 (18 + k) (by omega) (by omega)
    rw [show 37 * n + (18 + k) = n * 37 + 18 + k by omega] at e
    rw [if_pos h]
    refine Ev.iload_n d_Cat_countedByPower_0 rfl ?_
    refine Ev.callS d_Cat_countedByPower_1 mt_Cat_isKnots lk_Cat_89 st_Cat_isKnots rfl (Nat.le_of_ble_eq_true rfl) rfl (Nat.le_of_ble_eq_true rfl) (by decide) rfl (c_Cat_isKnots (by omega)) ?_
    refine Ev.if_eq (tgt := 19) d_Cat_countedByPower_4 rfl b01_b (fun hb4 => by exfalso; (first | rw [b01_ne] at hb4 | rw [b01_eq] at hb4); omega) (fun hb4 => ?_)
    rw [b01_ne] at hb4
    refine Ev.iload_n d_Cat_countedByPower_7 rfl ?_
    refine Ev.bipush d_Cat_countedByPower_8 rfl ?_
    refine Ev.icmp_lt (tgt := 19) d_Cat_countedByPower_10 rfl (by first | omega | (simp [mu]; done) | (simp [mu]; omega)) (by first | omega | (simp [mu]; done) | (simp [mu]; omega)) (fun hb10 => by exfalso; first | omega | simp at hb10 | contradiction) (fun hb10 => ?_)
    refine Ev.iload_n d_Cat_countedByPower_13 rfl ?_
    refine Ev.bipush d_Cat_countedByPower_14 rfl ?_
    refine Ev.icmp_le (tgt := 21) d_Cat_countedByPower_16 rfl (by first | omega | (simp [mu]; done) | (simp [mu]; omega)) (by first | omega | (simp [mu]; done) | (simp [mu]; omega)) (fun hb16 => ?_) (fun hb16 => by exfalso; first | omega | simp at hb16 | contradiction)
    refine Ev.aload_n d_Cat_countedByPower_21 rfl ?_
    refine Ev.gr 9 d_Cat_countedByPower_22 lf_Cat_49 rfl rfl hC.1.2 (by decide) hC.2.2.2.2.2.2.2.2.2 ?_
    refine Ev.iload_n d_Cat_countedByPower_25 rfl ?_
    refine Ev.bipush d_Cat_countedByPower_26 rfl ?_
    refine Ev.imul d_Cat_countedByPower_28 ?_
    refine Ev.bipush d_Cat_countedByPower_29 rfl ?_
    refine Ev.iadd d_Cat_countedByPower_31 ?_
    refine Ev.iload_n d_Cat_countedByPower_32 rfl ?_
    refine Ev.iadd d_Cat_countedByPower_33 ?_
    refine Ev.laload d_Cat_countedByPower_34 hC.2.2.1.2.2.2.2.2 (by omega) ?_
    rw [e]
    exact Ev.to (Ev.lreturn d_Cat_countedByPower_35 rfl) rfl rfl
  · rw [if_neg h]
    refine Ev.iload_n d_Cat_countedByPower_0 rfl ?_
    refine Ev.callS d_Cat_countedByPower_1 mt_Cat_isKnots lk_Cat_89 st_Cat_isKnots rfl (Nat.le_of_ble_eq_true rfl) rfl (Nat.le_of_ble_eq_true rfl) (by decide) rfl (c_Cat_isKnots (by omega)) ?_
    refine Ev.if_eq (tgt := 19) d_Cat_countedByPower_4 rfl b01_b (fun hb4 => by exfalso; (first | rw [b01_ne] at hb4 | rw [b01_eq] at hb4); omega) (fun hb4 => ?_)
    rw [b01_ne] at hb4
    refine Ev.iload_n d_Cat_countedByPower_7 rfl ?_
    refine Ev.bipush d_Cat_countedByPower_8 rfl ?_
    refine Ev.icmp_lt (tgt := 19) d_Cat_countedByPower_10 rfl (by first | omega | (simp [mu]; done) | (simp [mu]; omega)) (by first | omega | (simp [mu]; done) | (simp [mu]; omega)) (fun hb10 => ?_) (fun hb10 => ?_)
    · refine Ev.lconst (x := 0) d_Cat_countedByPower_19 rfl ?_
      exact Ev.to (Ev.lreturn d_Cat_countedByPower_20 rfl) rfl rfl
    · refine Ev.iload_n d_Cat_countedByPower_13 rfl ?_
      refine Ev.bipush d_Cat_countedByPower_14 rfl ?_
      refine Ev.icmp_le (tgt := 21) d_Cat_countedByPower_16 rfl (by first | omega | (simp [mu]; done) | (simp [mu]; omega)) (by first | omega | (simp [mu]; done) | (simp [mu]; omega)) (fun hb16 => by exfalso; first | omega | simp at hb16 | contradiction) (fun hb16 => ?_)
      refine Ev.lconst (x := 0) d_Cat_countedByPower_19 rfl ?_
      exact Ev.to (Ev.lreturn d_Cat_countedByPower_20 rfl) rfl rfl
def rAt (d n i : Int) : List (List Int) → Int → Int
  | [], _ => 0
  | l :: t, p => if d * (d - 1) / 2 - (l.length : Int) = n then (if p = i then pk l else rAt d n i t (p + 1)) else rAt d n i t p
def hmB (d n row : Int) : List (List Int) → Int → Int
  | [], b => b
  | l :: t, b => hmB d n row t (if d * (d - 1) / 2 - (l.length : Int) = n ∧ pk l < row then b + 1 else b)
theorem drop_get {L : List (List Int)} {l : List Int} {t : List (List Int)} {i : Nat} (h : L.drop i = l :: t) : i < L.length ∧ L.getD i [] = l ∧ L.drop (i + 1) = t := by
  refine ⟨?_, ?_, ?_⟩
  · have := congrArg List.length h
    rw [List.length_drop] at this
    simp only [List.length_cons] at this
    omega
  · have h1 : L[i]? = some l := by
      have h2 : (L.drop i)[0]? = some l := by rw [h]; rfl
      rw [List.getElem?_drop] at h2
      exact h2
    rw [List.getD_eq_getElem?_getD, h1]; rfl
  · have : (L.drop i).drop 1 = t := by rw [h]; rfl
    rwa [List.drop_drop] at this
theorem drop_end {L : List (List Int)} {i : Nat} (h : L.drop i = []) : L.length ≤ i := List.drop_eq_nil_iff.mp h
theorem lp_Cat_rowAt {c d : Int} (hC : CatS σ c) {L : List (List Int)} (hM : CatM m c d L) (hd : 1 ≤ d ∧ d ≤ 4) (hL : L.length ≤ 61) (hL6 : ∀ l ∈ L, l.length ≤ 6) {n i : Int} (hn : 0 ≤ n ∧ n ≤ 6) (hi : -2147483648 ≤ i ∧ i ≤ 2147483647) : ∀ (t : List (List Int)) (r : Nat) (p : Int), L.drop r = t → r ≤ L.length → 0 ≤ p ∧ p ≤ r → Ev 1 m_Cat_rowAt 5 [some (vr c), some (vi n), some (vi i), some (vi p), some (vi r)] [] σ m (some (vl (rAt d n i t p))) σ m
  | [], r, p, ht, hr, hp => by
    have h1 := drop_end ht
    have e10 := hM.2.1
    simp only [rAt]
    refine Ev.iload d_Cat_rowAt_5 rfl ?_
    refine Ev.aload_n d_Cat_rowAt_7 rfl ?_
    refine Ev.gf 10 d_Cat_rowAt_8 lf_Cat_93 rfl rfl hC.1.2 (by decide) ?_
    rw [e10]
    refine Ev.icmp_ge (tgt := 54) d_Cat_rowAt_11 rfl (by first | omega | (simp [mu]; done) | (simp [mu]; omega)) (by first | omega | (simp [mu]; done) | (simp [mu]; omega)) (fun hb11 => ?_) (fun hb11 => by exfalso; first | omega | simp at hb11 | contradiction)
    refine Ev.lconst (x := 0) d_Cat_rowAt_54 rfl ?_
    exact Ev.to (Ev.lreturn d_Cat_rowAt_55 rfl) rfl rfl
  | l :: t, r, p, ht, hr, hp => by
    obtain ⟨h1, h2, h3⟩ := drop_get ht
    have e10 := hM.2.1
    obtain ⟨e12, e13⟩ := hM.2.2.1 r h1
    have hl6 := hL6 l (by rw [← h2, List.getD_eq_getElem?_getD, List.getElem?_eq_getElem h1]; exact List.getElem_mem h1)
    rw [h2] at e12 e13
    have hdd : 0 ≤ d * (d - 1) / 2 ∧ d * (d - 1) / 2 ≤ 6 := by rcases (show d = 1 ∨ d = 2 ∨ d = 3 ∨ d = 4 by omega) with rfl | rfl | rfl | rfl <;> decide
    by_cases hk : d * (d - 1) / 2 - (l.length : Int) = n
    · by_cases hp2 : p = i
      · have e : rAt d n i (l :: t) p = pk l := (if_pos hk).trans (if_pos hp2)
        rw [e]
        refine Ev.iload d_Cat_rowAt_5 rfl ?_
        refine Ev.aload_n d_Cat_rowAt_7 rfl ?_
        refine Ev.gf 10 d_Cat_rowAt_8 lf_Cat_93 rfl rfl hC.1.2 (by decide) ?_
        rw [e10]
        refine Ev.icmp_ge (tgt := 54) d_Cat_rowAt_11 rfl (by first | omega | (simp [mu]; done) | (simp [mu]; omega)) (by first | omega | (simp [mu]; done) | (simp [mu]; omega)) (fun hb11 => by exfalso; first | omega | simp at hb11 | contradiction) (fun hb11 => ?_)
        refine Ev.iload d_Cat_rowAt_14 rfl ?_
        refine Ev.bipush d_Cat_rowAt_16 rfl ?_
        refine Ev.icmp_ge (tgt := 54) d_Cat_rowAt_18 rfl (by first | omega | (simp [mu]; done) | (simp [mu]; omega)) (by first | omega | (simp [mu]; done) | (simp [mu]; omega)) (fun hb18 => by exfalso; first | omega | simp at hb18 | contradiction) (fun hb18 => ?_)
        refine Ev.aload_n d_Cat_rowAt_21 rfl ?_
        refine Ev.gr 5 d_Cat_rowAt_22 lf_Cat_36 rfl rfl hC.1.2 (by decide) hC.2.2.2.2.2.1 ?_
        refine Ev.iload d_Cat_rowAt_25 rfl ?_
        refine Ev.iaload d_Cat_rowAt_27 hC.2.2.1.2.1 (by first | omega | (simp [mu]; done) | (simp [mu]; omega)) ?_
        rw [e13]
        refine Ev.iload_n d_Cat_rowAt_28 rfl ?_
        refine Ev.icmp_ne (tgt := 48) d_Cat_rowAt_29 rfl (by first | omega | (simp [mu]; done) | (simp [mu]; omega)) (by first | omega | (simp [mu]; done) | (simp [mu]; omega)) (fun hb29 => by exfalso; first | omega | simp at hb29 | contradiction) (fun hb29 => ?_)
        refine Ev.iload_n d_Cat_rowAt_32 rfl ?_
        refine Ev.iload_n d_Cat_rowAt_33 rfl ?_
        refine Ev.icmp_ne (tgt := 45) d_Cat_rowAt_34 rfl (by first | omega | (simp [mu]; done) | (simp [mu]; omega)) (by first | omega | (simp [mu]; done) | (simp [mu]; omega)) (fun hb34 => by exfalso; first | omega | simp at hb34 | contradiction) (fun hb34 => ?_)
        refine Ev.aload_n d_Cat_rowAt_37 rfl ?_
        refine Ev.gr 4 d_Cat_rowAt_38 lf_Cat_32 rfl rfl hC.1.2 (by decide) hC.2.2.2.2.1 ?_
        refine Ev.iload d_Cat_rowAt_41 rfl ?_
        refine Ev.laload d_Cat_rowAt_43 hC.2.2.1.1 (by first | omega | (simp [mu]; done) | (simp [mu]; omega)) ?_
        rw [e12]
        exact Ev.to (Ev.lreturn d_Cat_rowAt_44 rfl) rfl rfl
      · have e : rAt d n i (l :: t) p = rAt d n i t (p + 1) := (if_pos hk).trans (if_neg hp2)
        rw [e]
        refine Ev.iload d_Cat_rowAt_5 rfl ?_
        refine Ev.aload_n d_Cat_rowAt_7 rfl ?_
        refine Ev.gf 10 d_Cat_rowAt_8 lf_Cat_93 rfl rfl hC.1.2 (by decide) ?_
        rw [e10]
        refine Ev.icmp_ge (tgt := 54) d_Cat_rowAt_11 rfl (by first | omega | (simp [mu]; done) | (simp [mu]; omega)) (by first | omega | (simp [mu]; done) | (simp [mu]; omega)) (fun hb11 => by exfalso; first | omega | simp at hb11 | contradiction) (fun hb11 => ?_)
        refine Ev.iload d_Cat_rowAt_14 rfl ?_
        refine Ev.bipush d_Cat_rowAt_16 rfl ?_
        refine Ev.icmp_ge (tgt := 54) d_Cat_rowAt_18 rfl (by first | omega | (simp [mu]; done) | (simp [mu]; omega)) (by first | omega | (simp [mu]; done) | (simp [mu]; omega)) (fun hb18 => by exfalso; first | omega | simp at hb18 | contradiction) (fun hb18 => ?_)
        refine Ev.aload_n d_Cat_rowAt_21 rfl ?_
        refine Ev.gr 5 d_Cat_rowAt_22 lf_Cat_36 rfl rfl hC.1.2 (by decide) hC.2.2.2.2.2.1 ?_
        refine Ev.iload d_Cat_rowAt_25 rfl ?_
        refine Ev.iaload d_Cat_rowAt_27 hC.2.2.1.2.1 (by first | omega | (simp [mu]; done) | (simp [mu]; omega)) ?_
        rw [e13]
        refine Ev.iload_n d_Cat_rowAt_28 rfl ?_
        refine Ev.icmp_ne (tgt := 48) d_Cat_rowAt_29 rfl (by first | omega | (simp [mu]; done) | (simp [mu]; omega)) (by first | omega | (simp [mu]; done) | (simp [mu]; omega)) (fun hb29 => by exfalso; first | omega | simp at hb29 | contradiction) (fun hb29 => ?_)
        refine Ev.iload_n d_Cat_rowAt_32 rfl ?_
        refine Ev.iload_n d_Cat_rowAt_33 rfl ?_
        refine Ev.icmp_ne (tgt := 45) d_Cat_rowAt_34 rfl (by first | omega | (simp [mu]; done) | (simp [mu]; omega)) (by first | omega | (simp [mu]; done) | (simp [mu]; omega)) (fun hb34 => ?_) (fun hb34 => by exfalso; first | omega | simp at hb34 | contradiction)
        refine Ev.iinc_3 d_Cat_rowAt_45 rfl ?_
        refine Ev.iinc_4 d_Cat_rowAt_48 rfl ?_
        refine Ev.goto (tgt := 5) d_Cat_rowAt_51 rfl ?_
        exact lp_Cat_rowAt hC hM hd hL hL6 hn hi t (r + 1) _ h3 (by omega) (by omega)
    · have e : rAt d n i (l :: t) p = rAt d n i t p := if_neg hk
      rw [e]
      refine Ev.iload d_Cat_rowAt_5 rfl ?_
      refine Ev.aload_n d_Cat_rowAt_7 rfl ?_
      refine Ev.gf 10 d_Cat_rowAt_8 lf_Cat_93 rfl rfl hC.1.2 (by decide) ?_
      rw [e10]
      refine Ev.icmp_ge (tgt := 54) d_Cat_rowAt_11 rfl (by first | omega | (simp [mu]; done) | (simp [mu]; omega)) (by first | omega | (simp [mu]; done) | (simp [mu]; omega)) (fun hb11 => by exfalso; first | omega | simp at hb11 | contradiction) (fun hb11 => ?_)
      refine Ev.iload d_Cat_rowAt_14 rfl ?_
      refine Ev.bipush d_Cat_rowAt_16 rfl ?_
      refine Ev.icmp_ge (tgt := 54) d_Cat_rowAt_18 rfl (by first | omega | (simp [mu]; done) | (simp [mu]; omega)) (by first | omega | (simp [mu]; done) | (simp [mu]; omega)) (fun hb18 => by exfalso; first | omega | simp at hb18 | contradiction) (fun hb18 => ?_)
      refine Ev.aload_n d_Cat_rowAt_21 rfl ?_
      refine Ev.gr 5 d_Cat_rowAt_22 lf_Cat_36 rfl rfl hC.1.2 (by decide) hC.2.2.2.2.2.1 ?_
      refine Ev.iload d_Cat_rowAt_25 rfl ?_
      refine Ev.iaload d_Cat_rowAt_27 hC.2.2.1.2.1 (by first | omega | (simp [mu]; done) | (simp [mu]; omega)) ?_
      rw [e13]
      refine Ev.iload_n d_Cat_rowAt_28 rfl ?_
      refine Ev.icmp_ne (tgt := 48) d_Cat_rowAt_29 rfl (by first | omega | (simp [mu]; done) | (simp [mu]; omega)) (by first | omega | (simp [mu]; done) | (simp [mu]; omega)) (fun hb29 => ?_) (fun hb29 => by exfalso; first | omega | simp at hb29 | contradiction)
      refine Ev.iinc_4 d_Cat_rowAt_48 rfl ?_
      refine Ev.goto (tgt := 5) d_Cat_rowAt_51 rfl ?_
      exact lp_Cat_rowAt hC hM hd hL hL6 hn hi t (r + 1) _ h3 (by omega) (by omega)
theorem c_Cat_rowAt {c d : Int} (hC : CatS σ c) {L : List (List Int)} (hM : CatM m c d L) (hd : 1 ≤ d ∧ d ≤ 4) (hL : L.length ≤ 61) (hL6 : ∀ l ∈ L, l.length ≤ 6) {n i : Int} (hn : 0 ≤ n ∧ n ≤ 6) (hi : -2147483648 ≤ i ∧ i ≤ 2147483647) : Call 1 m_Cat_rowAt [vr c, vi n, vi i] σ m (some (vl (rAt d n i L 0))) σ m := by
  show Ev 1 m_Cat_rowAt 0 [some (vr c), some (vi n), some (vi i), none, none] [] σ m _ σ m
  refine Ev.iconst d_Cat_rowAt_0 ?_
  refine Ev.istore_3 d_Cat_rowAt_1 rfl ?_
  refine Ev.iconst d_Cat_rowAt_2 ?_
  refine Ev.istore_4 d_Cat_rowAt_3 rfl ?_
  exact lp_Cat_rowAt hC hM hd hL hL6 hn hi L 0 0 rfl (by omega) (by omega)
theorem lp_Cat_before {c d : Int} (hC : CatS σ c) {L : List (List Int)} (hM : CatM m c d L) (hd : 1 ≤ d ∧ d ≤ 4) (hL : L.length ≤ 61) (hL6 : ∀ l ∈ L, l.length ≤ 6 ∧ -9223372036854775808 ≤ pk l ∧ pk l ≤ 9223372036854775807) {n row : Int} (hn : 0 ≤ n ∧ n ≤ 6) (hr : -9223372036854775808 ≤ row ∧ row ≤ 9223372036854775807) : ∀ (t : List (List Int)) (r : Nat) (b : Int), L.drop r = t → r ≤ L.length → Ev 1 m_Cat_howManyBefore 6 [some (vr c), some (vi n), some (vl row), none, some (vi b), some (vi r)] [] σ m (some (vi (hmB d n row t b))) σ m
  | [], r, p, ht, hr => by
    have h1 := drop_end ht
    have e10 := hM.2.1
    simp only [hmB]
    refine Ev.iload d_Cat_howManyBefore_6 rfl ?_
    refine Ev.aload_n d_Cat_howManyBefore_8 rfl ?_
    refine Ev.gf 10 d_Cat_howManyBefore_9 lf_Cat_93 rfl rfl hC.1.2 (by decide) ?_
    rw [e10]
    refine Ev.icmp_ge (tgt := 54) d_Cat_howManyBefore_12 rfl (by first | omega | (simp [mu]; done) | (simp [mu]; omega)) (by first | omega | (simp [mu]; done) | (simp [mu]; omega)) (fun hb12 => ?_) (fun hb12 => by exfalso; first | omega | simp at hb12 | contradiction)
    refine Ev.iload d_Cat_howManyBefore_54 rfl ?_
    exact Ev.to (Ev.ireturn d_Cat_howManyBefore_56 rfl) rfl rfl
  | l :: t, r, b, ht, hr2 => by
    obtain ⟨h1, h2, h3⟩ := drop_get ht
    have e10 := hM.2.1
    obtain ⟨e12, e13⟩ := hM.2.2.1 r h1
    have hl6 := hL6 l (by rw [← h2, List.getD_eq_getElem?_getD, List.getElem?_eq_getElem h1]; exact List.getElem_mem h1)
    rw [h2] at e12 e13
    have hdd : 0 ≤ d * (d - 1) / 2 ∧ d * (d - 1) / 2 ≤ 6 := by rcases (show d = 1 ∨ d = 2 ∨ d = 3 ∨ d = 4 by omega) with rfl | rfl | rfl | rfl <;> decide
    simp only [hmB]
    by_cases hk : d * (d - 1) / 2 - (l.length : Int) = n
    · by_cases hp2 : pk l < row
      · rw [if_pos ⟨hk, hp2⟩]
        refine Ev.iload d_Cat_howManyBefore_6 rfl ?_
        refine Ev.aload_n d_Cat_howManyBefore_8 rfl ?_
        refine Ev.gf 10 d_Cat_howManyBefore_9 lf_Cat_93 rfl rfl hC.1.2 (by decide) ?_
        rw [e10]
        refine Ev.icmp_ge (tgt := 54) d_Cat_howManyBefore_12 rfl (by first | omega | (simp [mu]; done) | (simp [mu]; omega)) (by first | omega | (simp [mu]; done) | (simp [mu]; omega)) (fun hb12 => by exfalso; first | omega | simp at hb12 | contradiction) (fun hb12 => ?_)
        refine Ev.iload d_Cat_howManyBefore_15 rfl ?_
        refine Ev.bipush d_Cat_howManyBefore_17 rfl ?_
        refine Ev.icmp_ge (tgt := 54) d_Cat_howManyBefore_19 rfl (by first | omega | (simp [mu]; done) | (simp [mu]; omega)) (by first | omega | (simp [mu]; done) | (simp [mu]; omega)) (fun hb19 => by exfalso; first | omega | simp at hb19 | contradiction) (fun hb19 => ?_)
        refine Ev.aload_n d_Cat_howManyBefore_22 rfl ?_
        refine Ev.gr 5 d_Cat_howManyBefore_23 lf_Cat_36 rfl rfl hC.1.2 (by decide) hC.2.2.2.2.2.1 ?_
        refine Ev.iload d_Cat_howManyBefore_26 rfl ?_
        refine Ev.iaload d_Cat_howManyBefore_28 hC.2.2.1.2.1 (by first | omega | (simp [mu]; done) | (simp [mu]; omega)) ?_
        rw [e13]
        refine Ev.iload_n d_Cat_howManyBefore_29 rfl ?_
        refine Ev.icmp_ne (tgt := 48) d_Cat_howManyBefore_30 rfl (by first | omega | (simp [mu]; done) | (simp [mu]; omega)) (by first | omega | (simp [mu]; done) | (simp [mu]; omega)) (fun hb30 => by exfalso; first | omega | simp at hb30 | contradiction) (fun hb30 => ?_)
        refine Ev.aload_n d_Cat_howManyBefore_33 rfl ?_
        refine Ev.gr 4 d_Cat_howManyBefore_34 lf_Cat_32 rfl rfl hC.1.2 (by decide) hC.2.2.2.2.1 ?_
        refine Ev.iload d_Cat_howManyBefore_37 rfl ?_
        refine Ev.laload d_Cat_howManyBefore_39 hC.2.2.1.1 (by first | omega | (simp [mu]; done) | (simp [mu]; omega)) ?_
        rw [e12]
        refine Ev.lload_n d_Cat_howManyBefore_40 rfl ?_
        refine Ev.lcmp d_Cat_howManyBefore_41 (by first | omega | (simp [mu]; done) | (simp [mu]; omega)) (by first | omega | (simp [mu]; done) | (simp [mu]; omega)) ?_
        refine Ev.if_ge (tgt := 48) d_Cat_howManyBefore_42 rfl lcm_b (fun hb42 => by exfalso; (try rw [lcm_ge] at hb42); omega) (fun hb42 => ?_)
        rw [lcm_ge] at hb42
        refine Ev.iinc_4 d_Cat_howManyBefore_45 rfl ?_
        refine Ev.iinc_5 d_Cat_howManyBefore_48 rfl ?_
        refine Ev.goto (tgt := 6) d_Cat_howManyBefore_51 rfl ?_
        exact lp_Cat_before hC hM hd hL hL6 hn hr t (r + 1) _ h3 (by omega)
      · rw [if_neg (fun h => hp2 h.2)]
        refine Ev.iload d_Cat_howManyBefore_6 rfl ?_
        refine Ev.aload_n d_Cat_howManyBefore_8 rfl ?_
        refine Ev.gf 10 d_Cat_howManyBefore_9 lf_Cat_93 rfl rfl hC.1.2 (by decide) ?_
        rw [e10]
        refine Ev.icmp_ge (tgt := 54) d_Cat_howManyBefore_12 rfl (by first | omega | (simp [mu]; done) | (simp [mu]; omega)) (by first | omega | (simp [mu]; done) | (simp [mu]; omega)) (fun hb12 => by exfalso; first | omega | simp at hb12 | contradiction) (fun hb12 => ?_)
        refine Ev.iload d_Cat_howManyBefore_15 rfl ?_
        refine Ev.bipush d_Cat_howManyBefore_17 rfl ?_
        refine Ev.icmp_ge (tgt := 54) d_Cat_howManyBefore_19 rfl (by first | omega | (simp [mu]; done) | (simp [mu]; omega)) (by first | omega | (simp [mu]; done) | (simp [mu]; omega)) (fun hb19 => by exfalso; first | omega | simp at hb19 | contradiction) (fun hb19 => ?_)
        refine Ev.aload_n d_Cat_howManyBefore_22 rfl ?_
        refine Ev.gr 5 d_Cat_howManyBefore_23 lf_Cat_36 rfl rfl hC.1.2 (by decide) hC.2.2.2.2.2.1 ?_
        refine Ev.iload d_Cat_howManyBefore_26 rfl ?_
        refine Ev.iaload d_Cat_howManyBefore_28 hC.2.2.1.2.1 (by first | omega | (simp [mu]; done) | (simp [mu]; omega)) ?_
        rw [e13]
        refine Ev.iload_n d_Cat_howManyBefore_29 rfl ?_
        refine Ev.icmp_ne (tgt := 48) d_Cat_howManyBefore_30 rfl (by first | omega | (simp [mu]; done) | (simp [mu]; omega)) (by first | omega | (simp [mu]; done) | (simp [mu]; omega)) (fun hb30 => by exfalso; first | omega | simp at hb30 | contradiction) (fun hb30 => ?_)
        refine Ev.aload_n d_Cat_howManyBefore_33 rfl ?_
        refine Ev.gr 4 d_Cat_howManyBefore_34 lf_Cat_32 rfl rfl hC.1.2 (by decide) hC.2.2.2.2.1 ?_
        refine Ev.iload d_Cat_howManyBefore_37 rfl ?_
        refine Ev.laload d_Cat_howManyBefore_39 hC.2.2.1.1 (by first | omega | (simp [mu]; done) | (simp [mu]; omega)) ?_
        rw [e12]
        refine Ev.lload_n d_Cat_howManyBefore_40 rfl ?_
        refine Ev.lcmp d_Cat_howManyBefore_41 (by first | omega | (simp [mu]; done) | (simp [mu]; omega)) (by first | omega | (simp [mu]; done) | (simp [mu]; omega)) ?_
        refine Ev.if_ge (tgt := 48) d_Cat_howManyBefore_42 rfl lcm_b (fun hb42 => ?_) (fun hb42 => by exfalso; (try rw [lcm_ge] at hb42); omega)
        rw [lcm_ge] at hb42
        refine Ev.iinc_5 d_Cat_howManyBefore_48 rfl ?_
        refine Ev.goto (tgt := 6) d_Cat_howManyBefore_51 rfl ?_
        exact lp_Cat_before hC hM hd hL hL6 hn hr t (r + 1) _ h3 (by omega)
    · rw [if_neg (fun h => hk h.1)]
      refine Ev.iload d_Cat_howManyBefore_6 rfl ?_
      refine Ev.aload_n d_Cat_howManyBefore_8 rfl ?_
      refine Ev.gf 10 d_Cat_howManyBefore_9 lf_Cat_93 rfl rfl hC.1.2 (by decide) ?_
      rw [e10]
      refine Ev.icmp_ge (tgt := 54) d_Cat_howManyBefore_12 rfl (by first | omega | (simp [mu]; done) | (simp [mu]; omega)) (by first | omega | (simp [mu]; done) | (simp [mu]; omega)) (fun hb12 => by exfalso; first | omega | simp at hb12 | contradiction) (fun hb12 => ?_)
      refine Ev.iload d_Cat_howManyBefore_15 rfl ?_
      refine Ev.bipush d_Cat_howManyBefore_17 rfl ?_
      refine Ev.icmp_ge (tgt := 54) d_Cat_howManyBefore_19 rfl (by first | omega | (simp [mu]; done) | (simp [mu]; omega)) (by first | omega | (simp [mu]; done) | (simp [mu]; omega)) (fun hb19 => by exfalso; first | omega | simp at hb19 | contradiction) (fun hb19 => ?_)
      refine Ev.aload_n d_Cat_howManyBefore_22 rfl ?_
      refine Ev.gr 5 d_Cat_howManyBefore_23 lf_Cat_36 rfl rfl hC.1.2 (by decide) hC.2.2.2.2.2.1 ?_
      refine Ev.iload d_Cat_howManyBefore_26 rfl ?_
      refine Ev.iaload d_Cat_howManyBefore_28 hC.2.2.1.2.1 (by first | omega | (simp [mu]; done) | (simp [mu]; omega)) ?_
      rw [e13]
      refine Ev.iload_n d_Cat_howManyBefore_29 rfl ?_
      refine Ev.icmp_ne (tgt := 48) d_Cat_howManyBefore_30 rfl (by first | omega | (simp [mu]; done) | (simp [mu]; omega)) (by first | omega | (simp [mu]; done) | (simp [mu]; omega)) (fun hb30 => ?_) (fun hb30 => by exfalso; first | omega | simp at hb30 | contradiction)
      refine Ev.iinc_5 d_Cat_howManyBefore_48 rfl ?_
      refine Ev.goto (tgt := 6) d_Cat_howManyBefore_51 rfl ?_
      exact lp_Cat_before hC hM hd hL hL6 hn hr t (r + 1) _ h3 (by omega)
theorem c_Cat_before {c d : Int} (hC : CatS σ c) {L : List (List Int)} (hM : CatM m c d L) (hd : 1 ≤ d ∧ d ≤ 4) (hL : L.length ≤ 61) (hL6 : ∀ l ∈ L, l.length ≤ 6 ∧ -9223372036854775808 ≤ pk l ∧ pk l ≤ 9223372036854775807) {n row : Int} (hn : 0 ≤ n ∧ n ≤ 6) (hr : -9223372036854775808 ≤ row ∧ row ≤ 9223372036854775807) : Call 1 m_Cat_howManyBefore [vr c, vi n, vl row] σ m (some (vi (hmB d n row L 0))) σ m := by
  show Ev 1 m_Cat_howManyBefore 0 [some (vr c), some (vi n), some (vl row), none, none, none] [] σ m _ σ m
  refine Ev.iconst d_Cat_howManyBefore_0 ?_
  refine Ev.istore_4 d_Cat_howManyBefore_1 rfl ?_
  refine Ev.iconst d_Cat_howManyBefore_3 ?_
  refine Ev.istore_5 d_Cat_howManyBefore_4 rfl ?_
  exact lp_Cat_before hC hM hd hL hL6 hn hr L 0 0 rfl (by omega)
end
