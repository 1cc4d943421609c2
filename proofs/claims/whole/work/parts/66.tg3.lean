/-! tangents of the class: all degrees -/
def rowV (d r : Nat) : Int → Int := spS d r (fst_ d - fst_ (d - 1)) (fst_ (d - 1)) (mvS d r 5 1 (fun _ => 0))
def rowOk (d r : Nat) : Bool := if d = 1 then (List.range 11).all (fun n => (if n = 0 then (1 : Int) else 0) == cv r n) else mvC d r 5 1 && spC d r (fst_ d - fst_ (d - 1)) (fst_ (d - 1)) && (List.range 11).all (fun n => rowV d r n == cv r n)
def segOk (d : Nat) : Bool := (CRl.take (fst_ d) ++ er 10 d 0 == CRl.take (fst_ (d + 1))) && (List.range (fst_ (d + 1) - fst_ d)).all (fun i => rowOk d (fst_ d + i))
theorem seg_ok : ∀ d : Nat, d < 6 → 1 ≤ d → segOk d = true := by decide +kernel
def pkA (i : Nat) : Int := pkF (fun j => cn j (rT i))
def askOk (i : Nat) : Bool := decide (dgR (pkA i) = tsum (rT i)) && decide (1 ≤ pkA i ∧ pkA i ≤ 1073741823) && decide (0 ≤ ixC (tsum (rT i)).toNat (pkA i) ∧ ixC (tsum (rT i)).toNat (pkA i) < fst_ ((tsum (rT i)).toNat + 1)) && (pil.getD (ixC (tsum (rT i)).toNat (pkA i)).toNat 0 == i)
theorem ask_ok : ∀ i : Nat, i < 73 → askOk i = true := by decide +kernel
theorem row_ok {d r : Nat} (hd : 1 ≤ d ∧ d ≤ 5) (hr : fst_ d ≤ r ∧ r < fst_ (d + 1)) : rowOk d r = true := by
  have h := seg_ok d (by omega) hd.1
  unfold segOk at h
  rw [Bool.and_eq_true] at h
  have := List.all_eq_true.mp h.2 (r - fst_ d) (List.mem_range.mpr (by omega))
  rwa [show fst_ d + (r - fst_ d) = r by omega] at this
theorem seg_er {d : Nat} (hd : 1 ≤ d ∧ d ≤ 5) : CRl.take (fst_ d) ++ er 10 d 0 = CRl.take (fst_ (d + 1)) := by
  have h := seg_ok d (by omega) hd.1
  unfold segOk at h
  rw [Bool.and_eq_true] at h
  exact beq_iff_eq.mp h.1
theorem CRl_len : CRl.length = 73 := by decide +kernel
theorem take_len {N : Nat} (h : N ≤ 73) : (CRl.take N).length = N := by rw [List.length_take, CRl_len]; omega
theorem RWl_RC {m : Mm} {N : Nat} (h : N ≤ 73) (hR : RWl m (CRl.take N)) : m 19 3 = N ∧ RC m N := by
  refine ⟨by rw [hR.1, take_len h], fun i hi => ?_⟩
  rw [hR.2 i (by rw [take_len h]; exact hi)]
  unfold cr
  rw [List.getD_eq_getElem?_getD, List.getD_eq_getElem?_getD, List.getElem?_take_of_lt hi]
def TGS (m : Mm) (K : Nat) : Prop := K ≤ 5 ∧ m 19 4 = K ∧ RWl m (CRl.take (fst_ (K + 1))) ∧ RF m (K + 1) ∧ VA m (fst_ (K + 1))
def FrZ (m m' : Mm) : Prop := ∀ b j : Int, (b < 19 ∨ 22 < b) → m' b j = m b j
theorem FrZ.tr {m m1 m2 : Mm} (h : FrZ m m1) (g : FrZ m1 m2) : FrZ m m2 := fun b j x => (g b j x).trans (h b j x)
theorem TGS_fr {m m' : Mm} {K : Nat} (h : TGS m K) (f : ∀ b j : Int, 19 ≤ b → b ≤ 22 → m' b j = m b j) : TGS m' K := ⟨h.1, (f _ _ (by decide) (by decide)).trans h.2.1, ⟨(f _ _ (by decide) (by decide)).trans h.2.2.1.1, fun i hi => (f _ _ (by decide) (by decide)).trans (h.2.2.1.2 i hi)⟩, RF_fr h.2.2.2.1 (fun j => f _ _ (by decide) (by decide)), ⟨fun i hi j a b => (f _ _ (by decide) (by decide)).trans (h.2.2.2.2.1 i hi j a b), fun i hi h7 j a b => (f _ _ (by decide) (by decide)).trans (h.2.2.2.2.2 i hi h7 j a b)⟩⟩
section
variable {σ : Sg} {m : Mm}
theorem lp_Tg_learn (hF : FcS σ) {d : Nat} (hd : 1 ≤ d ∧ d ≤ 5) : ∀ (q r : Nat) (m : Mm), r + q = fst_ (d + 1) → fst_ d ≤ r → m 19 3 = fst_ (d + 1) → RF m (d + 1) → RC m (fst_ (d + 1)) → VA m r → ∃ mF, Ev 14 m_Tg_learn 48 [some (vr 19), some (vi d), some (vi r)] [] σ m none σ mF ∧ mF 19 4 = d ∧ VA mF (fst_ (d + 1)) ∧ (∀ b j : Int, ¬ (b = 19 ∧ j = 4) → b ≠ 21 → mF b j = m b j)
  | 0, r, m, hq, hr, h3, hf, hR, hV => by
    have hfb := fst_b (d + 1) (by omega)
    have e : r = fst_ (d + 1) := by omega
    subst e
    refine ⟨mu m 19 4 d, ?_, mu_s, ⟨fun i hi j a b => (mu_a (by decide)).trans (hV.1 i hi j a b), fun i hi h7 j a b => (mu_a (by decide)).trans (hV.2 i hi h7 j a b)⟩, fun b j x y => mu_n (by omega)⟩
    refine Ev.iload_n d_Tg_learn_48 rfl ?_
    refine Ev.aload_n d_Tg_learn_49 rfl ?_
    refine Ev.gf 3 d_Tg_learn_50 lf_Tg_40 rfl rfl (fi_19 hF) (by decide) ?_
    rw [h3]
    refine Ev.icmp_ge (tgt := 92) d_Tg_learn_53 rfl (by first | omega | (simp [mu]; done) | (simp [mu]; omega)) (by first | omega | (simp [mu]; done) | (simp [mu]; omega)) (fun hb53 => ?_) (fun hb53 => by exfalso; first | omega | simp at hb53 | contradiction)
    refine Ev.aload_n d_Tg_learn_92 rfl ?_
    refine Ev.iload_n d_Tg_learn_93 rfl ?_
    refine Ev.pf 4 d_Tg_learn_94 lf_Tg_28 rfl rfl rfl rfl (fi_19 hF) (by decide) ?_
    exact Ev.to (Ev.return d_Tg_learn_97 rfl) rfl rfl
  | q + 1, r, m, hq, hr, h3, hf, hR, hV => by
    have hfb := fst_b (d + 1) (by omega)
    have hok := row_ok hd (r := r) (by omega)
    unfold rowOk at hok
    by_cases h1 : d = 1
    · rw [if_pos h1] at hok
      have hV1 := VS_VA (VS_row (m' := mu m 21 ((r : Int) * 11) 1) (V' := fun j => if j = 0 then 1 else 0) (VA_VS hV (by omega)) (fun j a b => by
        show _ = if j = 0 then (1 : Int) else 0
        by_cases e : j = 0
        · rw [e, Int.add_zero, mu_s, if_pos rfl]
        · rw [mu_n (Or.inr (by omega)), if_neg e]; exact hV.2 r (Nat.le_refl _) (by omega) j a b) (fun b j x => mu_n (by omega))) (fun j a b => by
        have := List.all_eq_true.mp hok j.toNat (List.mem_range.mpr (by omega))
        rw [beq_iff_eq] at this
        show (if j = 0 then (1 : Int) else 0) = cv r j.toNat
        rw [← this]
        by_cases e : j = 0
        · rw [if_pos e, if_pos (by omega)]
        · rw [if_neg e, if_neg (by omega)])
      obtain ⟨mF, g1, g2, g3, g4⟩ := lp_Tg_learn hF hd q (r + 1) (mu m 21 ((r : Int) * 11) 1) (by omega) (by omega) (by rw [mu_a (by decide)]; exact h3) (RF_fr hf (fun j => mu_a (by decide))) (RC_fr hR (fun j => mu_a (by decide))) hV1
      refine ⟨mF, ?_, g2, g3, fun b j x y => (g4 b j x y).trans (mu_a y)⟩
      refine Ev.iload_n d_Tg_learn_48 rfl ?_
      refine Ev.aload_n d_Tg_learn_49 rfl ?_
      refine Ev.gf 3 d_Tg_learn_50 lf_Tg_40 rfl rfl (fi_19 hF) (by decide) ?_
      rw [h3]
      refine Ev.icmp_ge (tgt := 92) d_Tg_learn_53 rfl (by first | omega | (simp [mu]; done) | (simp [mu]; omega)) (by first | omega | (simp [mu]; done) | (simp [mu]; omega)) (fun hb53 => by exfalso; first | omega | simp at hb53 | contradiction) (fun hb53 => ?_)
      refine Ev.iload_n d_Tg_learn_56 rfl ?_
      refine Ev.iconst d_Tg_learn_57 ?_
      refine Ev.icmp_ne (tgt := 74) d_Tg_learn_58 rfl (by first | omega | (simp [mu]; done) | (simp [mu]; omega)) (by first | omega | (simp [mu]; done) | (simp [mu]; omega)) (fun hb58 => by exfalso; first | omega | simp at hb58 | contradiction) (fun hb58 => ?_)
      refine Ev.aload_n d_Tg_learn_61 rfl ?_
      refine Ev.gr 1 d_Tg_learn_62 lf_Tg_15 rfl rfl (fi_19 hF) (by decide) (fr_19_1 hF) ?_
      refine Ev.iload_n d_Tg_learn_65 rfl ?_
      refine Ev.bipush d_Tg_learn_66 rfl ?_
      refine Ev.imul d_Tg_learn_68 ?_
      refine Ev.lconst (x := 1) d_Tg_learn_69 rfl ?_
      refine Ev.lastore d_Tg_learn_70 (fi_21 hF) (by decide) (by first | omega | (simp [mu]; done) | (simp [mu]; omega)) ?_
      refine Ev.goto (tgt := 86) d_Tg_learn_71 rfl ?_
      refine Ev.iinc_2 d_Tg_learn_86 rfl ?_
      refine Ev.goto (tgt := 48) d_Tg_learn_89 rfl ?_
      exact g1
    · rw [if_neg h1] at hok
      simp only [Bool.and_eq_true] at hok
      obtain ⟨m1, q1, q2, q3⟩ := c_Tg_moves hF hd (r := r) (by omega) hf hR (VA_VS hV (by omega)) hok.1.1
      obtain ⟨m2, k1, k2, k3⟩ := c_Tg_splits hF (d := d) (by omega) (r := r) (by omega) (RF_fr hf (fun j => q3 _ _ (by omega))) (RC_fr hR (fun j => q3 _ _ (by omega))) q2 hok.1.2
      have hV2 := VS_VA k2 (fun j a b => by
        have := List.all_eq_true.mp hok.2 j.toNat (List.mem_range.mpr (by omega))
        rw [beq_iff_eq, Int.toNat_of_nonneg a] at this
        exact this)
      have F2 := Fr21.tr q3 k3
      obtain ⟨mF, g1, g2, g3, g4⟩ := lp_Tg_learn hF hd q (r + 1) m2 (by omega) (by omega) ((F2 _ _ (by omega)).trans h3) (RF_fr hf (fun j => F2 _ _ (by omega))) (RC_fr hR (fun j => F2 _ _ (by omega))) hV2
      refine ⟨mF, ?_, g2, g3, fun b j x y => (g4 b j x y).trans (F2 b j (by omega))⟩
      refine Ev.iload_n d_Tg_learn_48 rfl ?_
      refine Ev.aload_n d_Tg_learn_49 rfl ?_
      refine Ev.gf 3 d_Tg_learn_50 lf_Tg_40 rfl rfl (fi_19 hF) (by decide) ?_
      rw [h3]
      refine Ev.icmp_ge (tgt := 92) d_Tg_learn_53 rfl (by first | omega | (simp [mu]; done) | (simp [mu]; omega)) (by first | omega | (simp [mu]; done) | (simp [mu]; omega)) (fun hb53 => by exfalso; first | omega | simp at hb53 | contradiction) (fun hb53 => ?_)
      refine Ev.iload_n d_Tg_learn_56 rfl ?_
      refine Ev.iconst d_Tg_learn_57 ?_
      refine Ev.icmp_ne (tgt := 74) d_Tg_learn_58 rfl (by first | omega | (simp [mu]; done) | (simp [mu]; omega)) (by first | omega | (simp [mu]; done) | (simp [mu]; omega)) (fun hb58 => ?_) (fun hb58 => by exfalso; first | omega | simp at hb58 | contradiction)
      refine Ev.aload_n d_Tg_learn_74 rfl ?_
      refine Ev.iload_n d_Tg_learn_75 rfl ?_
      refine Ev.iload_n d_Tg_learn_76 rfl ?_
      refine Ev.callVv d_Tg_learn_77 mt_Tg_addMoves lk_Tg_47 in_Tg_addMoves se_Tg_addMoves rfl (Nat.le_of_ble_eq_true rfl) rfl (Nat.le_of_ble_eq_true rfl) (by decide) (fi_19 hF) (by decide) rfl rfl q1 ?_
      refine Ev.aload_n d_Tg_learn_80 rfl ?_
      refine Ev.iload_n d_Tg_learn_81 rfl ?_
      refine Ev.iload_n d_Tg_learn_82 rfl ?_
      refine Ev.callVv d_Tg_learn_83 mt_Tg_addSplits lk_Tg_51 in_Tg_addSplits se_Tg_addSplits rfl (Nat.le_of_ble_eq_true rfl) rfl (Nat.le_of_ble_eq_true rfl) (by decide) (fi_19 hF) (by decide) rfl rfl k1 ?_
      refine Ev.iinc_2 d_Tg_learn_86 rfl ?_
      refine Ev.goto (tgt := 48) d_Tg_learn_89 rfl ?_
      exact g1
theorem c_Tg_learn (hF : FcS σ) {K : Nat} (hK : K < 5) (h : TGS m K) : ∃ m', Call 14 m_Tg_learn [vr 19, vi ((K : Int) + 1)] σ m none σ m' ∧ TGS m' (K + 1) ∧ FrZ m m' := by
  obtain ⟨_, h4, hW, hf, hV⟩ := h
  have hfa := fst_b (K + 1) (by omega)
  have hfb := fst_b (K + 1 + 1) (by omega)
  have h3 : m 19 3 = fst_ (K + 1) := (RWl_RC hfa.1 hW).1
  have e22 : m 22 ((K : Int) + 1) = fst_ (K + 1) := by have := hf (K + 1) (by omega) (Nat.le_refl _); push_cast at this; exact this
  have hid : mu m 22 ((K : Int) + 1) (fst_ (K + 1) : Nat) = m := mu_id e22
  have hse := seg_er (d := K + 1) (by omega)
  obtain ⟨m1, q1, q2, q3⟩ := c_Tg_enter hF 10 ((K : Int) + 1) 0 (CRl.take (fst_ (K + 1))) m (Nat.le_refl _) (by omega) hW (by
    have := congrArg List.length hse
    rw [List.length_append, take_len hfb.1] at this
    push_cast at this
    omega)
  push_cast at hse
  rw [hse] at q2
  rw [show ((10 : Nat) : Int) - 1 = 9 from rfl] at q1
  obtain ⟨h3', hR'⟩ := RWl_RC hfb.1 q2
  have hRF : RF (mu m1 22 ((K : Int) + 1 + 1) (fst_ (K + 1 + 1) : Nat)) (K + 1 + 1) := fun d a b => by
    by_cases e : d = K + 1 + 1
    · rw [e, show ((K + 1 + 1 : Nat) : Int) = (K : Int) + 1 + 1 by omega, mu_s]
    · rw [mu_n (Or.inr (by omega)), q3 _ _ (by omega) (by decide)]; exact hf d a (by omega)
  have e22' : mu m1 22 ((K : Int) + 1 + 1) (fst_ (K + 1 + 1) : Nat) 22 ((K : Int) + 1) = fst_ (K + 1) := by
    rw [mu_n (Or.inr (by omega)), q3 _ _ (by omega) (by decide)]; exact e22
  obtain ⟨mF, g1, g2, g3, g4⟩ := lp_Tg_learn hF (d := K + 1) (by omega) (fst_ (K + 1 + 1) - fst_ (K + 1)) (fst_ (K + 1)) (mu m1 22 ((K : Int) + 1 + 1) (fst_ (K + 1 + 1) : Nat)) (by have := hfa.2 (by omega); omega) (Nat.le_refl _) (by rw [mu_a (by decide)]; exact h3') hRF (RC_fr hR' (fun j => mu_a (by decide))) ⟨fun i hi j a b => by rw [mu_a (by decide), q3 _ _ (by omega) (by decide)]; exact hV.1 i hi j a b, fun i hi h7 j a b => by rw [mu_a (by decide), q3 _ _ (by omega) (by decide)]; exact hV.2 i hi h7 j a b⟩
  refine ⟨mF, ?_, ⟨by omega, g2, ⟨by rw [g4 _ _ (by decide) (by decide), mu_a (by decide)]; exact q2.1, fun i hi => by rw [g4 _ _ (by omega) (by decide), mu_a (by decide)]; exact q2.2 i hi⟩, RF_fr hRF (fun j => g4 _ _ (by omega) (by decide)), g3⟩, fun b j x => by rw [g4 b j (by omega) (by omega), mu_a (by omega)]; exact q3 b j (by omega) (by omega)⟩
  push_cast at g1
  show Ev 14 m_Tg_learn 0 [some (vr 19), some (vi ((K : Int) + 1)), none] [] σ m _ σ mF
  refine Ev.iload_n d_Tg_learn_0 rfl ?_
  refine Ev.iconst d_Tg_learn_1 ?_
  refine Ev.icmp_lt (tgt := 10) d_Tg_learn_2 rfl (by first | omega | (simp [mu]; done) | (simp [mu]; omega)) (by first | omega | (simp [mu]; done) | (simp [mu]; omega)) (fun hb2 => by exfalso; first | omega | simp at hb2 | contradiction) (fun hb2 => ?_)
  refine Ev.iload_n d_Tg_learn_5 rfl ?_
  refine Ev.iconst d_Tg_learn_6 ?_
  refine Ev.icmp_le (tgt := 11) d_Tg_learn_7 rfl (by first | omega | (simp [mu]; done) | (simp [mu]; omega)) (by first | omega | (simp [mu]; done) | (simp [mu]; omega)) (fun hb7 => ?_) (fun hb7 => by exfalso; first | omega | simp at hb7 | contradiction)
  refine Ev.aload_n d_Tg_learn_11 rfl ?_
  refine Ev.gr 2 d_Tg_learn_12 lf_Tg_19 rfl rfl (fi_19 hF) (by decide) (fr_19_2 hF) ?_
  refine Ev.iload_n d_Tg_learn_15 rfl ?_
  refine Ev.aload_n d_Tg_learn_16 rfl ?_
  refine Ev.gf 3 d_Tg_learn_17 lf_Tg_40 rfl rfl (fi_19 hF) (by decide) ?_
  rw [h3]
  refine Ev.iastore d_Tg_learn_20 (fi_22 hF) (by decide) (by first | omega | (simp [mu]; done) | (simp [mu]; omega)) ?_
  rw [hid]
  refine Ev.aload_n d_Tg_learn_21 rfl ?_
  refine Ev.bipush d_Tg_learn_22 rfl ?_
  refine Ev.iload_n d_Tg_learn_24 rfl ?_
  refine Ev.iconst d_Tg_learn_25 ?_
  refine Ev.callVv d_Tg_learn_26 mt_Tg_enterRows lk_Tg_43 in_Tg_enterRows se_Tg_enterRows rfl (Nat.le_of_ble_eq_true rfl) rfl (Nat.le_of_ble_eq_true rfl) (by decide) (fi_19 hF) (by decide) rfl rfl q1 ?_
  refine Ev.aload_n d_Tg_learn_29 rfl ?_
  refine Ev.gr 2 d_Tg_learn_30 lf_Tg_19 rfl rfl (fi_19 hF) (by decide) (fr_19_2 hF) ?_
  refine Ev.iload_n d_Tg_learn_33 rfl ?_
  refine Ev.iconst d_Tg_learn_34 ?_
  refine Ev.iadd d_Tg_learn_35 ?_
  refine Ev.aload_n d_Tg_learn_36 rfl ?_
  refine Ev.gf 3 d_Tg_learn_37 lf_Tg_40 rfl rfl (fi_19 hF) (by decide) ?_
  rw [h3']
  refine Ev.iastore d_Tg_learn_40 (fi_22 hF) (by decide) (by first | omega | (simp [mu]; done) | (simp [mu]; omega)) ?_
  refine Ev.aload_n d_Tg_learn_41 rfl ?_
  refine Ev.gr 2 d_Tg_learn_42 lf_Tg_19 rfl rfl (fi_19 hF) (by decide) (fr_19_2 hF) ?_
  refine Ev.iload_n d_Tg_learn_45 rfl ?_
  refine Ev.iaload d_Tg_learn_46 (fi_22 hF) (by first | omega | (simp [mu]; done) | (simp [mu]; omega)) ?_
  rw [e22']
  refine Ev.istore_2 d_Tg_learn_47 rfl ?_
  exact g1
theorem lp_Tg_value (hF : FcS σ) {asked n : Int} {d : Nat} (hd : 1 ≤ d ∧ d ≤ 5) {r : Option AV} {Post : Mm → Prop} : ∀ (q K : Nat) (m : Mm), (K + q = d ∨ (q = 0 ∧ d ≤ K)) → TGS m K → (∀ (m' : Mm) (K' : Nat), TGS m' K' → d ≤ K' → FrZ m m' → ∃ mF, Ev 15 m_Tg_valueOf 53 [some (vr 19), some (vi asked), some (vi n), some (vi d), some (vi ((K' : Int) + 1))] [] σ m' r σ mF ∧ Post mF) → ∃ mF, Ev 15 m_Tg_valueOf 35 [some (vr 19), some (vi asked), some (vi n), some (vi d), some (vi ((K : Int) + 1))] [] σ m r σ mF ∧ Post mF
  | 0, K, m, hq, h, c => by
    have hK := h.1
    obtain ⟨mF, g1, g2⟩ := c m K h (by omega) (fun _ _ _ => rfl)
    refine ⟨mF, ?_, g2⟩
    refine Ev.iload d_Tg_valueOf_35 rfl ?_
    refine Ev.iload_n d_Tg_valueOf_37 rfl ?_
    refine Ev.icmp_gt (tgt := 53) d_Tg_valueOf_38 rfl (by first | omega | (simp [mu]; done) | (simp [mu]; omega)) (by first | omega | (simp [mu]; done) | (simp [mu]; omega)) (fun hb38 => ?_) (fun hb38 => by exfalso; first | omega | simp at hb38 | contradiction)
    exact g1
  | q + 1, K, m, hq, h, c => by
    have hK := h.1
    obtain ⟨m1, q1, q2, q3⟩ := c_Tg_learn hF (K := K) (by omega) h
    obtain ⟨mF, g1, g2⟩ := lp_Tg_value hF hd (Post := Post) q (K + 1) m1 (by omega) q2 (fun m' K' a b f => c m' K' a b (q3.tr f))
    refine ⟨mF, ?_, g2⟩
    push_cast at g1
    refine Ev.iload d_Tg_valueOf_35 rfl ?_
    refine Ev.iload_n d_Tg_valueOf_37 rfl ?_
    refine Ev.icmp_gt (tgt := 53) d_Tg_valueOf_38 rfl (by first | omega | (simp [mu]; done) | (simp [mu]; omega)) (by first | omega | (simp [mu]; done) | (simp [mu]; omega)) (fun hb38 => by exfalso; first | omega | simp at hb38 | contradiction) (fun hb38 => ?_)
    refine Ev.aload_n d_Tg_valueOf_41 rfl ?_
    refine Ev.iload d_Tg_valueOf_42 rfl ?_
    refine Ev.callVv d_Tg_valueOf_44 mt_Tg_learn lk_Tg_32 in_Tg_learn se_Tg_learn rfl (Nat.le_of_ble_eq_true rfl) rfl (Nat.le_of_ble_eq_true rfl) (by decide) (fi_19 hF) (by decide) rfl rfl q1 ?_
    refine Ev.iinc_4 d_Tg_valueOf_47 rfl ?_
    refine Ev.goto (tgt := 35) d_Tg_valueOf_50 rfl ?_
    exact g1
theorem c_Tg_valueOf (hF : FcS σ) {K : Nat} (h : TGS m K) {i : Nat} (hi : i < 73) {n : Int} (hn : 0 ≤ n ∧ n ≤ 10) : ∃ m', Call 15 m_Tg_valueOf [vr 19, vi (pkA i), vi n] σ m (some (vl (wtI i n))) σ m' ∧ (∃ K', TGS m' K') ∧ FrZ m m' := by
  have ha := ask_ok i hi
  unfold askOk at ha
  simp only [Bool.and_eq_true, decide_eq_true_eq, beq_iff_eq] at ha
  obtain ⟨⟨⟨a1, a2⟩, a3⟩, a4⟩ := ha
  have hb := rT_b i hi
  have cd := c_Rows_degreeOf (σ := σ) (m := m) (r := pkA i) (by omega)
  rw [a1] at cd
  obtain ⟨d, hd⟩ := Int.eq_ofNat_of_zero_le (show 0 ≤ tsum (rT i) by omega)
  rw [hd] at cd a3 a4 hb
  rw [Int.toNat_natCast] at a3 a4
  have hk := h.1
  have h4 := h.2.1
  obtain ⟨mF, g1, g2⟩ := lp_Tg_value hF (asked := pkA i) (n := n) (d := d) (by omega) (r := some (vl (wtI i n))) (Post := fun mF => (∃ K', TGS mF K') ∧ FrZ m mF) (d - K) K m (by omega) h (fun m1 K1 t1 hK1 f1 => by
    have hfm : fst_ (d + 1) ≤ fst_ (K1 + 1) := by
      have hmono : ∀ a : Nat, a < 6 → ∀ b : Nat, b < 6 → a ≤ b → fst_ (a + 1) ≤ fst_ (b + 1) := by decide +kernel
      exact hmono d (by omega) K1 (by have := t1.1; omega) hK1
    have hfb := fst_b (K1 + 1) (by have := t1.1; omega)
    have hRC := (RWl_RC hfb.1 t1.2.2.1).2
    have ci := c_Tg_indexOf hF (m := m1) (d := d) (a := pkA i) (by omega) (by omega) (fun e x y => t1.2.2.2.1 e x (by omega)) (fun j hj => hRC j (by omega))
    generalize ixC d (pkA i) = x at ci a3 a4
    obtain ⟨x, rfl⟩ := Int.eq_ofNat_of_zero_le a3.1
    rw [Int.toNat_natCast] at a4
    have hv := t1.2.2.2.2.1 x (by omega) n hn.1 (by omega)
    have ev : cvI x n = wtI i n := by
      unfold cvI cv wtI
      rw [a4, Int.toNat_natCast]
    rw [ev] at hv
    refine ⟨m1, ?_, ⟨K1, t1⟩, f1⟩
    refine Ev.aload_n d_Tg_valueOf_53 rfl ?_
    refine Ev.iload_n d_Tg_valueOf_54 rfl ?_
    refine Ev.iload_n d_Tg_valueOf_55 rfl ?_
    refine Ev.callV d_Tg_valueOf_56 mt_Tg_indexOf lk_Tg_36 in_Tg_indexOf se_Tg_indexOf rfl (Nat.le_of_ble_eq_true rfl) rfl (Nat.le_of_ble_eq_true rfl) (by decide) (fi_19 hF) (by decide) rfl rfl ci ?_
    refine Ev.istore_4 d_Tg_valueOf_59 rfl ?_
    refine Ev.iload d_Tg_valueOf_61 rfl ?_
    refine Ev.if_ge (tgt := 70) d_Tg_valueOf_63 rfl (by first | omega | (simp [mu]; done) | (simp [mu]; omega)) (fun hb63 => ?_) (fun hb63 => by exfalso; first | omega | simp at hb63 | contradiction)
    refine Ev.aload_n d_Tg_valueOf_70 rfl ?_
    refine Ev.gr 1 d_Tg_valueOf_71 lf_Tg_15 rfl rfl (fi_19 hF) (by decide) (fr_19_1 hF) ?_
    refine Ev.iload d_Tg_valueOf_74 rfl ?_
    refine Ev.bipush d_Tg_valueOf_76 rfl ?_
    refine Ev.imul d_Tg_valueOf_78 ?_
    refine Ev.iload_n d_Tg_valueOf_79 rfl ?_
    refine Ev.iadd d_Tg_valueOf_80 ?_
    refine Ev.laload d_Tg_valueOf_81 (fi_21 hF) (by first | omega | (simp [mu]; done) | (simp [mu]; omega)) ?_
    rw [hv]
    exact Ev.to (Ev.lreturn d_Tg_valueOf_82 rfl) rfl rfl)
  refine ⟨mF, ?_, g2⟩
  show Ev 15 m_Tg_valueOf 0 [some (vr 19), some (vi (pkA i)), some (vi n), none, none] [] σ m _ σ mF
  refine Ev.iload_n d_Tg_valueOf_0 rfl ?_
  refine Ev.callS d_Tg_valueOf_1 mt_Rows_degreeOf lk_Tg_22 st_Rows_degreeOf rfl (Nat.le_of_ble_eq_true rfl) rfl (Nat.le_of_ble_eq_true rfl) (by decide) rfl cd ?_
  refine Ev.istore_3 d_Tg_valueOf_4 rfl ?_
  refine Ev.iload_n d_Tg_valueOf_5 rfl ?_
  refine Ev.iconst d_Tg_valueOf_6 ?_
  refine Ev.icmp_lt (tgt := 25) d_Tg_valueOf_7 rfl (by first | omega | (simp [mu]; done) | (simp [mu]; omega)) (by first | omega | (simp [mu]; done) | (simp [mu]; omega)) (fun hb7 => by exfalso; first | omega | simp at hb7 | contradiction) (fun hb7 => ?_)
  refine Ev.iload_n d_Tg_valueOf_10 rfl ?_
  refine Ev.iconst d_Tg_valueOf_11 ?_
  refine Ev.icmp_gt (tgt := 25) d_Tg_valueOf_12 rfl (by first | omega | (simp [mu]; done) | (simp [mu]; omega)) (by first | omega | (simp [mu]; done) | (simp [mu]; omega)) (fun hb12 => by exfalso; first | omega | simp at hb12 | contradiction) (fun hb12 => ?_)
  refine Ev.iload_n d_Tg_valueOf_15 rfl ?_
  refine Ev.if_lt (tgt := 25) d_Tg_valueOf_16 rfl (by first | omega | (simp [mu]; done) | (simp [mu]; omega)) (fun hb16 => by exfalso; first | omega | simp at hb16 | contradiction) (fun hb16 => ?_)
  refine Ev.iload_n d_Tg_valueOf_19 rfl ?_
  refine Ev.bipush d_Tg_valueOf_20 rfl ?_
  refine Ev.icmp_lt (tgt := 27) d_Tg_valueOf_22 rfl (by first | omega | (simp [mu]; done) | (simp [mu]; omega)) (by first | omega | (simp [mu]; done) | (simp [mu]; omega)) (fun hb22 => ?_) (fun hb22 => by exfalso; first | omega | simp at hb22 | contradiction)
  refine Ev.aload_n d_Tg_valueOf_27 rfl ?_
  refine Ev.gf 4 d_Tg_valueOf_28 lf_Tg_28 rfl rfl (fi_19 hF) (by decide) ?_
  rw [h4]
  refine Ev.iconst d_Tg_valueOf_31 ?_
  refine Ev.iadd d_Tg_valueOf_32 ?_
  refine Ev.istore_4 d_Tg_valueOf_33 rfl ?_
  exact g1
end
