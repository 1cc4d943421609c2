/-! the run as a whole -/
def q_pF (j : Int) : Int := if j < 3 then 0 else if j < 5 then 1 else 2
def q_pT (j : Int) : Int := if j = 0 then 1 else if j = 1 then 2 else if j = 2 then 3 else if j = 3 then 2 else 3
def q_s0 (L : Int) : Sg := (3, 0, fun _ => 100, fun a => if a = 0 then L else 6, fun _ _ => -1)
def q_m0 (xs : Int → Int) : Mm := fun a j => if a = 0 then xs j else if a = 1 then q_pF j else q_pT j
/-- what the law's run must give -/
def q_law (L : Nat) (xs : Nat → Int32) : Prop := ∃ (σ' : Sg) (m' : Mm), Ev 2048 m_law 0 [some (vr 0), none, none, none] [] (q_s0 L) (q_m0 (fun j => (xs j.toNat).toInt)) (some (vi 1)) σ' m' ∧ σ'.1 ≤ 600000 ∧ σ'.2.1 ≤ 7302250
def lT1 : List (Int × Nat × Int) := [(56, 100, 60), (55, 4, 0), (54, 100, 60), (53, 4, 0), (52, 100, 60), (51, 4, 0), (50, 100, 60), (49, 4, 0), (48, 100, 4), (47, 100, 24), (46, 2, 0), (45, 100, 4), (44, 100, 24), (43, 2, 0), (42, 100, 4), (41, 100, 24), (40, 2, 0), (39, 100, 4), (38, 100, 24), (37, 2, 0), (36, 100, 4), (35, 100, 24), (34, 2, 0), (33, 100, 4), (32, 100, 24), (31, 2, 0), (30, 100, 4), (29, 100, 24), (28, 2, 0), (27, 100, 4), (26, 100, 24), (25, 2, 0), (24, 204, 4), (23, 101, 8), (22, 100, 7), (21, 101, 803), (20, 100, 73), (19, 5, 0), (18, 102, 80), (17, 6, 0), (16, 200, 5), (15, 101, 37), (14, 101, 37), (13, 3, 0), (12, 100, 4), (11, 100, 10), (10, 100, 10), (9, 100, 10), (8, 1, 0), (7, 100, 4), (6, 100, 24), (5, 2, 0), (4, 202, 8), (3, 7, 0)]
def lR1 : List (Int × Int × Int) := [(24, 3, 55), (55, 0, 56), (24, 2, 53), (53, 0, 54), (24, 1, 51), (51, 0, 52), (24, 0, 49), (49, 0, 50), (4, 7, 46), (46, 3, 48), (46, 2, 47), (4, 6, 43), (43, 3, 45), (43, 2, 44), (4, 5, 40), (40, 3, 42), (40, 2, 41), (4, 4, 37), (37, 3, 39), (37, 2, 38), (4, 3, 34), (34, 3, 36), (34, 2, 35), (4, 2, 31), (31, 3, 33), (31, 2, 32), (4, 1, 28), (28, 3, 30), (28, 2, 29), (4, 0, 25), (25, 3, 27), (25, 2, 26), (3, 8, 24), (3, 7, 23), (3, 6, 19), (19, 2, 22), (19, 1, 21), (19, 0, 20), (3, 5, 17), (17, 0, 18), (3, 4, 16), (3, 3, 13), (13, 1, 15), (13, 0, 14), (3, 2, 8), (8, 3, 12), (8, 2, 11), (8, 1, 10), (8, 0, 9), (3, 1, 5), (5, 3, 7), (5, 2, 6), (3, 0, 4)]
def lT2 : List (Int × Nat × Int) := [(87, 100, 240), (86, 100, 4), (85, 100, 4), (84, 101, 8), (83, 100, 12), (82, 101, 1100), (81, 100, 1200), (80, 100, 100), (79, 100, 100), (78, 100, 12), (77, 100, 12), (76, 100, 80), (75, 101, 1295), (74, 100, 35), (73, 101, 35), (72, 101, 35), (71, 103, 35), (70, 100, 24), (69, 101, 60000), (68, 100, 10), (67, 100, 10), (66, 100, 10), (65, 100, 10), (64, 101, 37), (63, 101, 37), (62, 100, 54), (61, 100, 54), (60, 100, 54), (59, 100, 9), (58, 100, 9), (57, 8, 0)]
def lR2 : List (Int × Int × Int) := [(57, 38, 87), (57, 37, 86), (57, 36, 85), (57, 35, 84), (57, 34, 83), (57, 31, 82), (57, 30, 81), (57, 29, 80), (57, 28, 79), (57, 26, 78), (57, 25, 77), (57, 21, 76), (57, 20, 75), (57, 19, 74), (57, 18, 73), (57, 17, 72), (57, 16, 71), (57, 15, 70), (57, 14, 69), (57, 12, 68), (57, 11, 67), (57, 10, 66), (57, 9, 65), (57, 7, 64), (57, 6, 63), (57, 5, 62), (57, 4, 61), (57, 3, 60), (57, 2, 59), (57, 1, 58)]
def lE1 : Mm := mu (mu (mu (mu (mu (mu (mu (mu (mu (mu (mu (mu (mu (mu zf (0 + 5) 0 1) (0 + 17) 2 0) (0 + 25) 0 1) (0 + 28) 0 1) (0 + 31) 0 1) (0 + 34) 0 1) (0 + 37) 0 1) (0 + 40) 0 1) (0 + 43) 0 1) (0 + 46) 0 1) (0 + 49) 1 (-1)) (0 + 51) 1 (-1)) (0 + 53) 1 (-1)) (0 + 55) 1 (-1)
def lE2 : Mm := mu (mu (mu (mu zf (0 + 85) 0 (-4)) (0 + 85) 1 (-4)) (0 + 85) 2 (-4)) (0 + 85) 3 (-4)
theorem lT1_ok : fcT.all (fun q => lT1.contains q) = true := by decide +kernel
theorem lR1_ok : fcR.all (fun q => lR1.contains q) = true := by decide +kernel
theorem lT2_ok : moT.all (fun q => lT2.contains q) = true := by decide +kernel
theorem lR2_ok : moR.all (fun q => lR2.contains (57, q.1, q.2)) = true := by decide +kernel
def S0 : PS := (0, fun _ => 0, fun _ => [])
def H0 : SHt := (fun _ => -4, fun _ => 0, fun _ _ => 0)
def T0 : TPt := (0, fun _ => 0)
def D0 : TDt := (0, fun _ => 0)
theorem start_inv {L : Int} {xs : Int → Int} {σ1 σ2 : Sg} {m1 m2 : Mm} {C1 C2 : Int} (hL : 0 ≤ L)
  (g1 : Gd (0 + 3) 0 (q_s0 L) lT1 lR1 57 C1 σ1) (hC1 : C1 ≤ 6000) (z1 : MZ (0 + 3) (0 + 57) (q_m0 xs) lE1 m1) (ng : ∀ i, σ1.2.2.2.2 (0 + 16) i = -1)
  (g2 : Gd (0 + 57) 0 σ1 lT2 lR2 88 C2 σ2) (hC2 : C2 ≤ 80000) (z2 : MZ (0 + 57) (0 + 88) m1 lE2 m2) : Inv L xs σ2 m2 := by
  have s1 : σ2.1 = 88 := by rw [g2.1]; rfl
  have s0 : σ1.1 = 57 := by rw [g1.1]; rfl
  have ol2 : ∀ b, b < 57 → σ2.2.2.1 b = σ1.2.2.1 b ∧ σ2.2.2.2.1 b = σ1.2.2.2.1 b ∧ ∀ i, σ2.2.2.2.2 b i = σ1.2.2.2.2 b i := fun b hb => g2.2.2.2.2 b (by omega)
  have ol1 : ∀ b, b < 3 → σ1.2.2.1 b = (q_s0 L).2.2.1 b ∧ σ1.2.2.2.1 b = (q_s0 L).2.2.2.1 b := fun b hb => ⟨(g1.2.2.2.2 b (by omega)).1, (g1.2.2.2.2 b (by omega)).2.1⟩
  have isO : ∀ (a n : Int) (t : Nat), Is σ1 a t n → Is σ2 a t n := fun a n t h => Is_old h (by omega) ⟨(ol2 a (by have := h.2.1; omega)).1, (ol2 a (by have := h.2.1; omega)).2.1⟩
  have hF : FcS σ2 := ⟨fun q hq => isO _ _ _ (by
    have := g1.is (List.contains_iff_mem.mp (List.all_eq_true.mp lT1_ok q hq))
    rwa [Int.zero_add] at this), fun q hq => by
    have hlt := of_decide_eq_true (List.all_eq_true.mp fcR_lt q hq)
    have hr := g1.rf (List.contains_iff_mem.mp (List.all_eq_true.mp lR1_ok q hq))
    rw [Int.zero_add, Int.zero_add] at hr
    have hq57 : q.1 < 57 := by
      have h57 : fcR.all (fun q => decide (q.1 < 57)) = true := by decide +kernel
      exact of_decide_eq_true (List.all_eq_true.mp h57 q hq)
    rw [(ol2 q.1 hq57).2.2]; exact hr⟩
  have hMo : MoS σ2 := ⟨fun q hq => by
    have := g2.is (List.contains_iff_mem.mp (List.all_eq_true.mp lT2_ok q hq))
    rwa [Int.zero_add] at this, fun q hq => by
    have hr := g2.rf (List.contains_iff_mem.mp (List.all_eq_true.mp lR2_ok q hq))
    rw [Int.zero_add, Int.zero_add] at hr
    exact hr⟩
  have i0 : ∀ (a n : Int), 0 ≤ a → a < 3 → (q_s0 L).2.2.2.1 a = n → Is σ2 a 100 n := fun a n h1 h2 h3 => isO _ _ _ ⟨h1, by omega, (ol1 a h2).1, (ol1 a h2).2.trans h3⟩
  have n16 : ∀ d, σ2.2.2.2.2 16 d = -1 := fun d => by rw [(ol2 16 (by decide)).2.2]; exact ng d
  have hcnt : cnt σ2 = 0 := by
    have e : ∀ d, c1 σ2 d = 0 := fun d => if_pos (n16 d)
    unfold cnt
    rw [e 1, e 2, e 3, e 4]; rfl
  have M1 : ∀ b j : Int, b < 3 → m2 b j = q_m0 xs b j := fun b j h => (z2.1 b j (by omega)).trans (z1.1 b j (by omega))
  have M2 : ∀ b j : Int, 3 ≤ b → b < 57 → m2 b j = lE1 b j := fun b j h h2 => (z2.1 b j (by omega)).trans (z1.2 b j (by omega) (by omega))
  have M3 : ∀ b j : Int, 57 ≤ b → b < 88 → m2 b j = lE2 b j := fun b j h h2 => z2.2 b j (by omega) (by omega)
  have hS1 : CS m2 S0 := ⟨(M2 3 9 (by decide) (by decide)).trans rfl, by decide, fun p a b => by
    have b : p < 0 := b
    omega⟩
  have hH1 : CH m2 H0 := fun k a b => by
    rcases (show k = 0 ∨ k = 1 ∨ k = 2 ∨ k = 3 by omega) with rfl | rfl | rfl | rfl
    · exact ⟨(M2 _ 1 (by decide) (by decide)).trans rfl, (M2 _ 2 (by decide) (by decide)).trans rfl, fun i x y => (M2 _ i (by decide) (by decide)).trans rfl⟩
    · exact ⟨(M2 _ 1 (by decide) (by decide)).trans rfl, (M2 _ 2 (by decide) (by decide)).trans rfl, fun i x y => (M2 _ i (by decide) (by decide)).trans rfl⟩
    · exact ⟨(M2 _ 1 (by decide) (by decide)).trans rfl, (M2 _ 2 (by decide) (by decide)).trans rfl, fun i x y => (M2 _ i (by decide) (by decide)).trans rfl⟩
    · exact ⟨(M2 _ 1 (by decide) (by decide)).trans rfl, (M2 _ 2 (by decide) (by decide)).trans rfl, fun i x y => (M2 _ i (by decide) (by decide)).trans rfl⟩
  have hT1 : TpM m2 T0 := ⟨(M2 17 1 (by decide) (by decide)).trans rfl, fun i a b => by
    have b : i < 0 := b
    omega⟩
  have hD1 : TPD m2 D0 := ⟨fun _ => (M2 17 2 (by decide) (by decide)).trans rfl, fun h => absurd (show (0 : Int) = 1 from h) (by decide)⟩
  have hG1 : TGS m2 0 := ⟨by decide, (M2 19 4 (by decide) (by decide)).trans rfl, ⟨(M2 19 3 (by decide) (by decide)).trans rfl, fun i hi => by
    have hi : i < 0 := hi
    omega⟩, fun d a b => by
    have e : d = 1 := by omega
    rw [e]; exact (M2 22 1 (by decide) (by decide)).trans rfl, ⟨fun i hi => by
    have hi : i < 0 := hi
    omega, fun i _ _ j _ _ => (M2 21 _ (by decide) (by decide)).trans rfl⟩⟩
  have hS2 : MS m2 S0 := ⟨by decide, (M3 57 0 (by decide) (by decide)).trans rfl, fun p a b => by
    have b : p < 0 := b
    omega⟩
  have hH2 : MH m2 H0 := fun k a b => by
    refine ⟨?_, (M3 86 k (by decide) (by decide)).trans rfl, fun i _ _ => (M3 87 _ (by decide) (by decide)).trans rfl⟩
    rcases (show k = 0 ∨ k = 1 ∨ k = 2 ∨ k = 3 by omega) with rfl | rfl | rfl | rfl
    · exact (M3 85 0 (by decide) (by decide)).trans rfl
    · exact (M3 85 1 (by decide) (by decide)).trans rfl
    · exact (M3 85 2 (by decide) (by decide)).trans rfl
    · exact (M3 85 3 (by decide) (by decide)).trans rfl
  have hT2 : MT m2 T0 := ⟨(M3 57 22 (by decide) (by decide)).trans rfl, fun i a b => by
    have b : i < 0 := b
    omega⟩
  have hD2 : MTD m2 D0 := ⟨(M3 57 24 (by decide) (by decide)).trans rfl, fun i _ _ => (M3 77 i (by decide) (by decide)).trans rfl⟩
  have hMF : MF m2 := fun d n _ _ => Or.inl ⟨(M3 71 _ (by decide) (by decide)).trans rfl, (M3 72 _ (by decide) (by decide)).trans rfl, (M3 73 _ (by decide) (by decide)).trans rfl, (M3 74 _ (by decide) (by decide)).trans rfl, fun k _ _ => (M3 75 _ (by decide) (by decide)).trans rfl⟩
  refine ⟨⟨hF, hMo, i0 0 L (by decide) (by decide) rfl, ⟨i0 1 6 (by decide) (by decide) rfl, i0 2 6 (by decide) (by decide) rfl⟩, by rw [hcnt]; omega, by rw [hcnt, g2.2.1]; omega⟩, ⟨fun j _ _ => (M1 0 j (by decide)).trans rfl, fun j _ _ => (M1 1 j (by decide)).trans rfl, fun j _ _ => (M1 2 j (by decide)).trans rfl⟩, fun d _ => Or.inl (n16 d), S0, H0, T0, D0, 0, 0, ⟨hS1, hH1, hT1, hD1, hG1, (M2 17 3 (by decide) (by decide)).trans rfl⟩, ⟨hS2, hH2, hT2, hD2, (M3 57 23 (by decide) (by decide)).trans rfl, hMF, Or.inl ((M3 57 32 (by decide) (by decide)).trans rfl)⟩, fun k _ _ => ⟨Or.inl rfl, ⟨by show (0 : Int) ≤ 0; decide, by show (0 : Int) ≤ 60; decide⟩, fun i _ _ => ⟨by show (-2147483648 : Int) ≤ 0; decide, by show (0 : Int) ≤ 2147483647; decide⟩⟩, ⟨⟨by show (0 : Int) ≤ 0; decide, by show (0 : Int) ≤ 80; decide⟩, fun i a b => by
    have b : i < 0 := b
    omega⟩, ⟨Or.inl rfl, fun h => absurd (show (0 : Int) = 1 from h) (by decide)⟩, Or.inl rfl, fun i _ _ => ⟨by show (0 : Int) ≤ 0; decide, by show (0 : Int) ≤ 5; decide⟩⟩
theorem law_runs (L : Nat) (hL : L ≤ 3072) (xs : Nat → Int32) : q_law L xs := by
  unfold q_law
  generalize hX : (fun j : Int => (xs j.toNat).toInt) = X
  have hXb : ∀ j, -2147483648 ≤ X j ∧ X j ≤ 2147483647 := fun j => by
    rw [← hX]
    have b1 := Int32.le_toInt (xs j.toNat)
    have b2 := Int32.toInt_lt (xs j.toNat)
    show -2147483648 ≤ (xs j.toNat).toInt ∧ (xs j.toNat).toInt ≤ 2147483647
    omega
  obtain ⟨σ1, m1, q1, ⟨C1, g1, hC1⟩, z1, ng⟩ := c_FC_init (c := 0) (σ := sn (q_s0 L) 7 0 10) (m := mz (q_m0 X) 3) (σ0 := q_s0 L) (m0 := q_m0 X) (C := 0 + 10) (by decide) ⟨rfl, rfl, fun q hq => by
    rw [List.mem_singleton.mp hq]
    exact ⟨by decide, by show (0 + 3 : Int) < 3 + 1; decide, rfl, rfl⟩, fun q hq => (by cases hq), fun b hb => ⟨by show (if b = 3 then _ else _) = _; rw [if_neg (by omega)], by show (if b = 3 then _ else _) = _; rw [if_neg (by omega)], fun i => by show (if b = 3 then _ else _) = _; rw [if_neg (by omega)]⟩⟩ ⟨fun b j h => by show (if b = 3 then 0 else _) = _; rw [if_neg (by omega)], fun b j h1 h2 => by show (if b = 3 then (0 : Int) else _) = 0; rw [if_pos (by omega)]⟩
  have s57 : σ1.1 = 57 := by rw [g1.1]; rfl
  obtain ⟨σ2, m2, k1, ⟨C2, g2, hC2⟩, z2⟩ := c_Mo_init (c := 0) (σ := sn σ1 8 0 39) (m := mz m1 57) (σ0 := σ1) (m0 := m1) (C := C1 + 39) (by decide) ⟨by show σ1.1 + 1 = 0 + 58; omega, by show σ1.2.1 + 39 = C1 + 39; rw [g1.2.1], fun q hq => by
    rw [List.mem_singleton.mp hq]
    refine ⟨by decide, by show (0 + 57 : Int) < σ1.1 + 1; omega, ?_, ?_⟩
    · show (if (0 + 57 : Int) = σ1.1 then 8 else _) = 8; rw [if_pos (by omega)]
    · show (if (0 + 57 : Int) = σ1.1 then (0 : Int) else _) = 0; rw [if_pos (by omega)], fun q hq => (by cases hq), fun b hb => ⟨by show (if b = σ1.1 then _ else _) = _; rw [if_neg (by omega)], by show (if b = σ1.1 then _ else _) = _; rw [if_neg (by omega)], fun i => by show (if b = σ1.1 then _ else _) = _; rw [if_neg (by omega)]⟩⟩ ⟨fun b j h => by show (if b = 57 then 0 else _) = _; rw [if_neg (by omega)], fun b j h1 h2 => by show (if b = 57 then (0 : Int) else _) = 0; rw [if_pos (by omega)]⟩
  have hI : Inv (L : Int) X σ2 m2 := start_inv (by omega) g1 (by omega) z1 ng g2 (by omega) z2
  obtain ⟨σF, mF, e1, e2⟩ := lp_law (by omega) hXb 600 0 σ2 m2 (by decide) (by decide) (by omega) hI
  refine ⟨σF, mF, ?_, e2⟩
  have q1 : Call 2 m_FC_init [vr 3] (sn (q_s0 L) 7 0 10) (mz (q_m0 X) 3) none σ1 m1 := q1
  have k1 : Call 1 m_Mo_init [vr 57] (sn σ1 8 0 39) (mz m1 57) none σ2 m2 := k1
  refine Ev.new d_Law_law_0 ln_Law_7 (by decide) ?_
  show Ev 2048 m_law 3 _ [vr 3] (sn (q_s0 L) 7 0 10) (mz (q_m0 X) 3) _ _ _
  refine Ev.dup d_Law_law_3 rfl ?_
  refine Ev.callIv d_Law_law_4 mt_FC_init lk_Law_9 in_FC_init rfl rfl rfl (Nat.le_of_ble_eq_true rfl) rfl (Nat.le_of_ble_eq_true rfl) (by decide) (by decide) rfl q1 ?_
  refine Ev.astore_1 d_Law_law_7 rfl ?_
  refine Ev.new d_Law_law_8 ln_Law_10 (by decide) ?_
  rw [s57]
  refine Ev.dup d_Law_law_11 rfl ?_
  refine Ev.callIv d_Law_law_12 mt_Mo_init lk_Law_12 in_Mo_init rfl rfl rfl (Nat.le_of_ble_eq_true rfl) rfl (Nat.le_of_ble_eq_true rfl) (by decide) (by decide) rfl k1 ?_
  refine Ev.astore_2 d_Law_law_15 rfl ?_
  refine Ev.iconst d_Law_law_16 ?_
  refine Ev.istore_3 d_Law_law_17 rfl ?_
  exact e1
