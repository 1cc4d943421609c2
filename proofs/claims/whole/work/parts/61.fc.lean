/-! the class as a whole: its cells -/
def fcT : List (Int × Nat × Int) := [(3, 7, 0), (4, 202, 8), (5, 2, 0), (6, 100, 24), (7, 100, 4), (8, 1, 0), (9, 100, 10), (10, 100, 10), (11, 100, 10), (12, 100, 4), (13, 3, 0), (14, 101, 37), (15, 101, 37), (16, 200, 5), (17, 6, 0), (18, 102, 80), (19, 5, 0), (20, 100, 73), (21, 101, 803), (22, 100, 7), (23, 101, 8), (24, 204, 4), (25, 2, 0), (26, 100, 24), (27, 100, 4), (28, 2, 0), (29, 100, 24), (30, 100, 4), (31, 2, 0), (32, 100, 24), (33, 100, 4), (34, 2, 0), (35, 100, 24), (36, 100, 4), (37, 2, 0), (38, 100, 24), (39, 100, 4), (40, 2, 0), (41, 100, 24), (42, 100, 4), (43, 2, 0), (44, 100, 24), (45, 100, 4), (46, 2, 0), (47, 100, 24), (48, 100, 4), (49, 4, 0), (50, 100, 60), (51, 4, 0), (52, 100, 60), (53, 4, 0), (54, 100, 60), (55, 4, 0), (56, 100, 60)]
def fcR : List (Int × Int × Int) := [(3, 0, 4), (3, 1, 5), (3, 2, 8), (3, 3, 13), (3, 4, 16), (3, 5, 17), (3, 6, 19), (3, 7, 23), (3, 8, 24), (5, 2, 6), (5, 3, 7), (8, 0, 9), (8, 1, 10), (8, 2, 11), (8, 3, 12), (13, 0, 14), (13, 1, 15), (17, 0, 18), (19, 0, 20), (19, 1, 21), (19, 2, 22), (4, 0, 25), (25, 2, 26), (25, 3, 27), (4, 1, 28), (28, 2, 29), (28, 3, 30), (4, 2, 31), (31, 2, 32), (31, 3, 33), (4, 3, 34), (34, 2, 35), (34, 3, 36), (4, 4, 37), (37, 2, 38), (37, 3, 39), (4, 5, 40), (40, 2, 41), (40, 3, 42), (4, 6, 43), (43, 2, 44), (43, 3, 45), (4, 7, 46), (46, 2, 47), (46, 3, 48), (24, 0, 49), (49, 0, 50), (24, 1, 51), (51, 0, 52), (24, 2, 53), (53, 0, 54), (24, 3, 55), (55, 0, 56)]
def FcS (σ : Sg) : Prop := (∀ q ∈ fcT, Is σ q.1 q.2.1 q.2.2) ∧ (∀ q ∈ fcR, σ.2.2.2.2 q.1 q.2.1 = q.2.2)
section
variable {σ : Sg} {m : Mm}
theorem fi_3 (h : FcS σ) : Is σ 3 7 0 := h.1 (3, 7, 0) (by decide)
theorem fi_4 (h : FcS σ) : Is σ 4 202 8 := h.1 (4, 202, 8) (by decide)
theorem fi_5 (h : FcS σ) : Is σ 5 2 0 := h.1 (5, 2, 0) (by decide)
theorem fi_6 (h : FcS σ) : Is σ 6 100 24 := h.1 (6, 100, 24) (by decide)
theorem fi_7 (h : FcS σ) : Is σ 7 100 4 := h.1 (7, 100, 4) (by decide)
theorem fi_8 (h : FcS σ) : Is σ 8 1 0 := h.1 (8, 1, 0) (by decide)
theorem fi_9 (h : FcS σ) : Is σ 9 100 10 := h.1 (9, 100, 10) (by decide)
theorem fi_10 (h : FcS σ) : Is σ 10 100 10 := h.1 (10, 100, 10) (by decide)
theorem fi_11 (h : FcS σ) : Is σ 11 100 10 := h.1 (11, 100, 10) (by decide)
theorem fi_12 (h : FcS σ) : Is σ 12 100 4 := h.1 (12, 100, 4) (by decide)
theorem fi_13 (h : FcS σ) : Is σ 13 3 0 := h.1 (13, 3, 0) (by decide)
theorem fi_14 (h : FcS σ) : Is σ 14 101 37 := h.1 (14, 101, 37) (by decide)
theorem fi_15 (h : FcS σ) : Is σ 15 101 37 := h.1 (15, 101, 37) (by decide)
theorem fi_16 (h : FcS σ) : Is σ 16 200 5 := h.1 (16, 200, 5) (by decide)
theorem fi_17 (h : FcS σ) : Is σ 17 6 0 := h.1 (17, 6, 0) (by decide)
theorem fi_18 (h : FcS σ) : Is σ 18 102 80 := h.1 (18, 102, 80) (by decide)
theorem fi_19 (h : FcS σ) : Is σ 19 5 0 := h.1 (19, 5, 0) (by decide)
theorem fi_20 (h : FcS σ) : Is σ 20 100 73 := h.1 (20, 100, 73) (by decide)
theorem fi_21 (h : FcS σ) : Is σ 21 101 803 := h.1 (21, 101, 803) (by decide)
theorem fi_22 (h : FcS σ) : Is σ 22 100 7 := h.1 (22, 100, 7) (by decide)
theorem fi_23 (h : FcS σ) : Is σ 23 101 8 := h.1 (23, 101, 8) (by decide)
theorem fi_24 (h : FcS σ) : Is σ 24 204 4 := h.1 (24, 204, 4) (by decide)
theorem fr_3_0 (h : FcS σ) : σ.2.2.2.2 3 0 = 4 := h.2 (3, 0, 4) (by decide)
theorem fr_3_1 (h : FcS σ) : σ.2.2.2.2 3 1 = 5 := h.2 (3, 1, 5) (by decide)
theorem fr_3_2 (h : FcS σ) : σ.2.2.2.2 3 2 = 8 := h.2 (3, 2, 8) (by decide)
theorem fr_3_3 (h : FcS σ) : σ.2.2.2.2 3 3 = 13 := h.2 (3, 3, 13) (by decide)
theorem fr_3_4 (h : FcS σ) : σ.2.2.2.2 3 4 = 16 := h.2 (3, 4, 16) (by decide)
theorem fr_3_5 (h : FcS σ) : σ.2.2.2.2 3 5 = 17 := h.2 (3, 5, 17) (by decide)
theorem fr_3_6 (h : FcS σ) : σ.2.2.2.2 3 6 = 19 := h.2 (3, 6, 19) (by decide)
theorem fr_3_7 (h : FcS σ) : σ.2.2.2.2 3 7 = 23 := h.2 (3, 7, 23) (by decide)
theorem fr_3_8 (h : FcS σ) : σ.2.2.2.2 3 8 = 24 := h.2 (3, 8, 24) (by decide)
theorem fr_5_2 (h : FcS σ) : σ.2.2.2.2 5 2 = 6 := h.2 (5, 2, 6) (by decide)
theorem fr_5_3 (h : FcS σ) : σ.2.2.2.2 5 3 = 7 := h.2 (5, 3, 7) (by decide)
theorem fr_8_0 (h : FcS σ) : σ.2.2.2.2 8 0 = 9 := h.2 (8, 0, 9) (by decide)
theorem fr_8_1 (h : FcS σ) : σ.2.2.2.2 8 1 = 10 := h.2 (8, 1, 10) (by decide)
theorem fr_8_2 (h : FcS σ) : σ.2.2.2.2 8 2 = 11 := h.2 (8, 2, 11) (by decide)
theorem fr_8_3 (h : FcS σ) : σ.2.2.2.2 8 3 = 12 := h.2 (8, 3, 12) (by decide)
theorem fr_13_0 (h : FcS σ) : σ.2.2.2.2 13 0 = 14 := h.2 (13, 0, 14) (by decide)
theorem fr_13_1 (h : FcS σ) : σ.2.2.2.2 13 1 = 15 := h.2 (13, 1, 15) (by decide)
theorem fr_17_0 (h : FcS σ) : σ.2.2.2.2 17 0 = 18 := h.2 (17, 0, 18) (by decide)
theorem fr_19_0 (h : FcS σ) : σ.2.2.2.2 19 0 = 20 := h.2 (19, 0, 20) (by decide)
theorem fr_19_1 (h : FcS σ) : σ.2.2.2.2 19 1 = 21 := h.2 (19, 1, 21) (by decide)
theorem fr_19_2 (h : FcS σ) : σ.2.2.2.2 19 2 = 22 := h.2 (19, 2, 22) (by decide)
theorem fp_mem : ∀ p : Nat, p < 8 → ((25 + 3 * (p : Int), 2, 0) ∈ fcT ∧ (26 + 3 * (p : Int), 100, 24) ∈ fcT ∧ (27 + 3 * (p : Int), 100, 4) ∈ fcT) ∧ ((4, (p : Int), 25 + 3 * (p : Int)) ∈ fcR ∧ (25 + 3 * (p : Int), 2, 26 + 3 * (p : Int)) ∈ fcR ∧ (25 + 3 * (p : Int), 3, 27 + 3 * (p : Int)) ∈ fcR) := by
  intro p hp
  rcases (show p = 0 ∨ p = 1 ∨ p = 2 ∨ p = 3 ∨ p = 4 ∨ p = 5 ∨ p = 6 ∨ p = 7 by omega) with rfl | rfl | rfl | rfl | rfl | rfl | rfl | rfl <;> decide
theorem fs_mem : ∀ k : Nat, k < 4 → ((49 + 2 * (k : Int), 4, 0) ∈ fcT ∧ (50 + 2 * (k : Int), 100, 60) ∈ fcT) ∧ ((24, (k : Int), 49 + 2 * (k : Int)) ∈ fcR ∧ (49 + 2 * (k : Int), 0, 50 + 2 * (k : Int)) ∈ fcR) := by
  intro p hp
  rcases (show p = 0 ∨ p = 1 ∨ p = 2 ∨ p = 3 by omega) with rfl | rfl | rfl | rfl <;> decide
theorem pic_at (h : FcS σ) {p : Int} (hp : 0 ≤ p ∧ p < 8) : PicS σ (25 + 3 * p) ∧ σ.2.2.2.2 4 p = 25 + 3 * p := by
  obtain ⟨p, rfl⟩ := Int.eq_ofNat_of_zero_le hp.1
  obtain ⟨⟨a1, a2, a3⟩, b1, b2, b3⟩ := fp_mem p (by omega)
  refine ⟨⟨by omega, h.1 _ a1, ?_, ?_, ?_, ?_⟩, h.2 _ b1⟩
  · rw [show 25 + 3 * (p : Int) + 1 = 26 + 3 * (p : Int) by omega]; exact h.1 _ a2
  · rw [show 25 + 3 * (p : Int) + 2 = 27 + 3 * (p : Int) by omega]; exact h.1 _ a3
  · rw [show 25 + 3 * (p : Int) + 1 = 26 + 3 * (p : Int) by omega]; exact h.2 _ b2
  · rw [show 25 + 3 * (p : Int) + 2 = 27 + 3 * (p : Int) by omega]; exact h.2 _ b3
theorem pic_5 (h : FcS σ) : PicS σ 5 := ⟨by decide, fi_5 h, fi_6 h, fi_7 h, fr_5_2 h, fr_5_3 h⟩
theorem mk_8 (h : FcS σ) : MkS σ 8 := ⟨by decide, fi_8 h, fi_9 h, fi_10 h, fi_11 h, fi_12 h, fr_8_0 h, fr_8_1 h, fr_8_2 h, fr_8_3 h⟩
theorem pow_13 (h : FcS σ) : PowS σ 13 := ⟨by decide, fi_13 h, fi_14 h, fi_15 h, fr_13_0 h, fr_13_1 h⟩
/-! sheets -/
def ShS (σ : Sg) (a : Int) : Prop := 3 ≤ a ∧ Is σ a 4 0 ∧ Is σ (a + 1) 100 60 ∧ σ.2.2.2.2 a 0 = a + 1
theorem sh_at (h : FcS σ) {k : Int} (hk : 0 ≤ k ∧ k < 4) : ShS σ (49 + 2 * k) ∧ σ.2.2.2.2 24 k = 49 + 2 * k := by
  obtain ⟨k, rfl⟩ := Int.eq_ofNat_of_zero_le hk.1
  obtain ⟨⟨a1, a2⟩, b1, b2⟩ := fs_mem k (by omega)
  refine ⟨⟨by omega, h.1 _ a1, ?_, ?_⟩, h.2 _ b1⟩
  · rw [show 49 + 2 * (k : Int) + 1 = 50 + 2 * (k : Int) by omega]; exact h.1 _ a2
  · rw [show 49 + 2 * (k : Int) + 1 = 50 + 2 * (k : Int) by omega]; exact h.2 _ b2
def cl4 (lane : Int) : Int := if lane = -4 then -1 else lane
def ShM (m : Mm) (a lane n : Int) (C : Int → Int) : Prop := m a 1 = cl4 lane ∧ m a 2 = n ∧ ∀ i : Int, 0 ≤ i → i < 60 → m (a + 1) i = C i
def ShK (lane n : Int) (C : Int → Int) : Prop := (lane = -4 ∨ (0 ≤ lane ∧ lane ≤ 2)) ∧ (0 ≤ n ∧ n ≤ 60) ∧ ∀ i, 0 ≤ i → i < 60 → -2147483648 ≤ C i ∧ C i ≤ 2147483647
theorem c_Sh_isLane {l : Int} (h1 : -2147483648 ≤ l ∧ l ≤ 2147483647) : Call 1 m_Sh_isLane [vi l] σ m (some (vi (b01 (0 ≤ l ∧ l ≤ 2)))) σ m := by
  show Ev 1 m_Sh_isLane 0 [some (vi l)] [] σ m _ σ m
  refine Ev.iload_n d_Sh_isLane_0 rfl ?_
  refine Ev.if_lt (tgt := 13) d_Sh_isLane_1 rfl (by first | omega | (simp [mu]; done) | (simp [mu]; omega)) (fun hb1 => ?_) (fun hb1 => ?_)
  · refine Ev.iconst d_Sh_isLane_13 ?_
    exact Ev.to (Ev.zreturn d_Sh_isLane_14 rfl (by first | omega | exact b01_01)) (r0 (by omega)) rfl
  · refine Ev.iload_n d_Sh_isLane_4 rfl ?_
    refine Ev.iconst d_Sh_isLane_5 ?_
    refine Ev.icmp_gt (tgt := 13) d_Sh_isLane_6 rfl (by first | omega | (simp [mu]; done) | (simp [mu]; omega)) (by first | omega | (simp [mu]; done) | (simp [mu]; omega)) (fun hb6 => ?_) (fun hb6 => ?_)
    · refine Ev.iconst d_Sh_isLane_13 ?_
      exact Ev.to (Ev.zreturn d_Sh_isLane_14 rfl (by first | omega | exact b01_01)) (r0 (by omega)) rfl
    · refine Ev.iconst d_Sh_isLane_9 ?_
      refine Ev.goto (tgt := 14) d_Sh_isLane_10 rfl ?_
      exact Ev.to (Ev.zreturn d_Sh_isLane_14 rfl (by first | omega | exact b01_01)) (r1 (by omega)) rfl
theorem c_Sh_renew {a l k : Int} (hA : ShS σ a) (hl : 0 ≤ l ∧ l ≤ 2) (hk : 0 ≤ k ∧ k ≤ 60) : Call 2 m_Sh_renew [vr a, vi l, vi k] σ m none σ (ms (mu (mu m a 1 l) a 2 k) (a + 1) 0 60 (fun _ => 0)) := by
  show Ev 2 m_Sh_renew 0 [some (vr a), some (vi l), some (vi k)] [] σ m _ σ _
  refine Ev.iload_n d_Sh_renew_0 rfl ?_
  refine Ev.callS d_Sh_renew_1 mt_Sh_isLane lk_Sh_17 st_Sh_isLane rfl (Nat.le_of_ble_eq_true rfl) rfl (Nat.le_of_ble_eq_true rfl) (by decide) rfl (c_Sh_isLane (by omega)) ?_
  refine Ev.if_eq (tgt := 17) d_Sh_renew_4 rfl b01_b (fun hb4 => by exfalso; (first | rw [b01_ne] at hb4 | rw [b01_eq] at hb4); omega) (fun hb4 => ?_)
  rw [b01_ne] at hb4
  refine Ev.iload_n d_Sh_renew_7 rfl ?_
  refine Ev.if_lt (tgt := 17) d_Sh_renew_8 rfl (by first | omega | (simp [mu]; done) | (simp [mu]; omega)) (fun hb8 => by exfalso; first | omega | simp at hb8 | contradiction) (fun hb8 => ?_)
  refine Ev.iload_n d_Sh_renew_11 rfl ?_
  refine Ev.bipush d_Sh_renew_12 rfl ?_
  refine Ev.icmp_le (tgt := 18) d_Sh_renew_14 rfl (by first | omega | (simp [mu]; done) | (simp [mu]; omega)) (by first | omega | (simp [mu]; done) | (simp [mu]; omega)) (fun hb14 => ?_) (fun hb14 => by exfalso; first | omega | simp at hb14 | contradiction)
  refine Ev.aload_n d_Sh_renew_18 rfl ?_
  refine Ev.iload_n d_Sh_renew_19 rfl ?_
  refine Ev.pf 1 d_Sh_renew_20 lf_Sh_13 rfl rfl rfl rfl hA.2.1 (by decide) ?_
  refine Ev.aload_n d_Sh_renew_23 rfl ?_
  refine Ev.iload_n d_Sh_renew_24 rfl ?_
  refine Ev.pf 2 d_Sh_renew_25 lf_Sh_21 rfl rfl rfl rfl hA.2.1 (by decide) ?_
  refine Ev.aload_n d_Sh_renew_28 rfl ?_
  refine Ev.gr 0 d_Sh_renew_29 lf_Sh_9 rfl rfl hA.2.1 (by decide) hA.2.2.2 ?_
  refine Ev.iconst d_Sh_renew_32 ?_
  refine Ev.callSv d_Sh_renew_33 mt_Arr_fillI lk_Sh_24 st_Arr_fillI rfl (Nat.le_of_ble_eq_true rfl) rfl (Nat.le_of_ble_eq_true rfl) (by decide) rfl (c_Arr_fillI hA.2.2.1 (by have := hA.1; omega) (by decide)) ?_
  exact Ev.to (Ev.return d_Sh_renew_36 rfl) rfl rfl
theorem c_Sh_isNothing {a lane n : Int} {C : Int → Int} (hA : ShS σ a) (hm : ShM m a lane n C) (hK : ShK lane n C) : Call 1 m_Sh_isNothing [vr a] σ m (some (vi (b01 (lane = -4)))) σ m := by
  show Ev 1 m_Sh_isNothing 0 [some (vr a)] [] σ m _ σ m
  have e1 := hm.1
  have e2 := hm.2.1
  obtain ⟨k1, k2, k3⟩ := hK
  have hc : (lane = -4 ∧ cl4 lane = -1) ∨ (lane ≠ -4 ∧ cl4 lane = lane) := by unfold cl4; by_cases h : lane = -4 <;> simp [h]
  refine Ev.aload_n d_Sh_isNothing_0 rfl ?_
  refine Ev.gf 1 d_Sh_isNothing_1 lf_Sh_13 rfl rfl hA.2.1 (by decide) ?_
  rw [e1]
  refine Ev.iconst d_Sh_isNothing_4 ?_
  refine Ev.icmp_ne (tgt := 12) d_Sh_isNothing_5 rfl (by first | omega | (simp [mu]; done) | (simp [mu]; omega)) (by first | omega | (simp [mu]; done) | (simp [mu]; omega)) (fun hb5 => ?_) (fun hb5 => ?_)
  · refine Ev.iconst d_Sh_isNothing_12 ?_
    exact Ev.to (Ev.zreturn d_Sh_isNothing_13 rfl (by first | omega | exact b01_01)) (r0 (by omega)) rfl
  · refine Ev.iconst d_Sh_isNothing_8 ?_
    refine Ev.goto (tgt := 13) d_Sh_isNothing_9 rfl ?_
    exact Ev.to (Ev.zreturn d_Sh_isNothing_13 rfl (by first | omega | exact b01_01)) (r1 (by omega)) rfl
theorem c_Sh_isOfLane {a lane n : Int} {C : Int → Int} (hA : ShS σ a) (hm : ShM m a lane n C) (hK : ShK lane n C) {l : Int} (hl : 0 ≤ l ∧ l ≤ 2) : Call 1 m_Sh_isOfLane [vr a, vi l] σ m (some (vi (b01 (lane = l)))) σ m := by
  show Ev 1 m_Sh_isOfLane 0 [some (vr a), some (vi l)] [] σ m _ σ m
  have e1 := hm.1
  have e2 := hm.2.1
  obtain ⟨k1, k2, k3⟩ := hK
  have hc : (lane = -4 ∧ cl4 lane = -1) ∨ (lane ≠ -4 ∧ cl4 lane = lane) := by unfold cl4; by_cases h : lane = -4 <;> simp [h]
  refine Ev.aload_n d_Sh_isOfLane_0 rfl ?_
  refine Ev.gf 1 d_Sh_isOfLane_1 lf_Sh_13 rfl rfl hA.2.1 (by decide) ?_
  rw [e1]
  refine Ev.iload_n d_Sh_isOfLane_4 rfl ?_
  refine Ev.icmp_ne (tgt := 12) d_Sh_isOfLane_5 rfl (by first | omega | (simp [mu]; done) | (simp [mu]; omega)) (by first | omega | (simp [mu]; done) | (simp [mu]; omega)) (fun hb5 => ?_) (fun hb5 => ?_)
  · refine Ev.iconst d_Sh_isOfLane_12 ?_
    exact Ev.to (Ev.zreturn d_Sh_isOfLane_13 rfl (by first | omega | exact b01_01)) (r0 (by omega)) rfl
  · refine Ev.iconst d_Sh_isOfLane_8 ?_
    refine Ev.goto (tgt := 13) d_Sh_isOfLane_9 rfl ?_
    exact Ev.to (Ev.zreturn d_Sh_isOfLane_13 rfl (by first | omega | exact b01_01)) (r1 (by omega)) rfl
theorem c_Sh_length {a lane n : Int} {C : Int → Int} (hA : ShS σ a) (hm : ShM m a lane n C) (hK : ShK lane n C) : Call 1 m_Sh_length [vr a] σ m (some (vi n)) σ m := by
  show Ev 1 m_Sh_length 0 [some (vr a)] [] σ m _ σ m
  have e1 := hm.1
  have e2 := hm.2.1
  obtain ⟨k1, k2, k3⟩ := hK
  have hc : (lane = -4 ∧ cl4 lane = -1) ∨ (lane ≠ -4 ∧ cl4 lane = lane) := by unfold cl4; by_cases h : lane = -4 <;> simp [h]
  refine Ev.aload_n d_Sh_length_0 rfl ?_
  refine Ev.gf 2 d_Sh_length_1 lf_Sh_21 rfl rfl hA.2.1 (by decide) ?_
  exact Ev.to (Ev.ireturn d_Sh_length_4 rfl) (ri e2) rfl
theorem c_Sh_hasCell {a lane n : Int} {C : Int → Int} (hA : ShS σ a) (hm : ShM m a lane n C) (hK : ShK lane n C) {i : Int} (h1 : -2147483648 ≤ i ∧ i ≤ 2147483647) : Call 1 m_Sh_hasCell [vr a, vi i] σ m (some (vi (b01 (0 ≤ i ∧ i < n)))) σ m := by
  show Ev 1 m_Sh_hasCell 0 [some (vr a), some (vi i)] [] σ m _ σ m
  have e1 := hm.1
  have e2 := hm.2.1
  obtain ⟨k1, k2, k3⟩ := hK
  have hc : (lane = -4 ∧ cl4 lane = -1) ∨ (lane ≠ -4 ∧ cl4 lane = lane) := by unfold cl4; by_cases h : lane = -4 <;> simp [h]
  refine Ev.iload_n d_Sh_hasCell_0 rfl ?_
  refine Ev.if_lt (tgt := 22) d_Sh_hasCell_1 rfl (by first | omega | (simp [mu]; done) | (simp [mu]; omega)) (fun hb1 => ?_) (fun hb1 => ?_)
  · refine Ev.iconst d_Sh_hasCell_22 ?_
    exact Ev.to (Ev.zreturn d_Sh_hasCell_23 rfl (by first | omega | exact b01_01)) (r0 (by omega)) rfl
  · refine Ev.iload_n d_Sh_hasCell_4 rfl ?_
    refine Ev.aload_n d_Sh_hasCell_5 rfl ?_
    refine Ev.gf 2 d_Sh_hasCell_6 lf_Sh_21 rfl rfl hA.2.1 (by decide) ?_
    rw [e2]
    refine Ev.icmp_ge (tgt := 22) d_Sh_hasCell_9 rfl (by first | omega | (simp [mu]; done) | (simp [mu]; omega)) (by first | omega | (simp [mu]; done) | (simp [mu]; omega)) (fun hb9 => ?_) (fun hb9 => ?_)
    · refine Ev.iconst d_Sh_hasCell_22 ?_
      exact Ev.to (Ev.zreturn d_Sh_hasCell_23 rfl (by first | omega | exact b01_01)) (r0 (by omega)) rfl
    · refine Ev.iload_n d_Sh_hasCell_12 rfl ?_
      refine Ev.bipush d_Sh_hasCell_13 rfl ?_
      refine Ev.icmp_ge (tgt := 22) d_Sh_hasCell_15 rfl (by first | omega | (simp [mu]; done) | (simp [mu]; omega)) (by first | omega | (simp [mu]; done) | (simp [mu]; omega)) (fun hb15 => ?_) (fun hb15 => ?_)
      · refine Ev.iconst d_Sh_hasCell_22 ?_
        exact Ev.to (Ev.zreturn d_Sh_hasCell_23 rfl (by first | omega | exact b01_01)) (r0 (by omega)) rfl
      · refine Ev.iconst d_Sh_hasCell_18 ?_
        refine Ev.goto (tgt := 23) d_Sh_hasCell_19 rfl ?_
        exact Ev.to (Ev.zreturn d_Sh_hasCell_23 rfl (by first | omega | exact b01_01)) (r1 (by omega)) rfl
theorem c_Sh_hasThreeFrom {a lane n : Int} {C : Int → Int} (hA : ShS σ a) (hm : ShM m a lane n C) (hK : ShK lane n C) {i : Int} (h1 : -2147483648 ≤ i ∧ i ≤ 2147483647) : Call 1 m_Sh_hasThreeFrom [vr a, vi i] σ m (some (vi (b01 (0 ≤ i ∧ i + 3 ≤ n)))) σ m := by
  show Ev 1 m_Sh_hasThreeFrom 0 [some (vr a), some (vi i)] [] σ m _ σ m
  have e1 := hm.1
  have e2 := hm.2.1
  obtain ⟨k1, k2, k3⟩ := hK
  have hc : (lane = -4 ∧ cl4 lane = -1) ∨ (lane ≠ -4 ∧ cl4 lane = lane) := by unfold cl4; by_cases h : lane = -4 <;> simp [h]
  refine Ev.iload_n d_Sh_hasThreeFrom_0 rfl ?_
  refine Ev.if_lt (tgt := 18) d_Sh_hasThreeFrom_1 rfl (by first | omega | (simp [mu]; done) | (simp [mu]; omega)) (fun hb1 => ?_) (fun hb1 => ?_)
  · refine Ev.iconst d_Sh_hasThreeFrom_18 ?_
    exact Ev.to (Ev.zreturn d_Sh_hasThreeFrom_19 rfl (by first | omega | exact b01_01)) (r0 (by omega)) rfl
  · refine Ev.iload_n d_Sh_hasThreeFrom_4 rfl ?_
    refine Ev.aload_n d_Sh_hasThreeFrom_5 rfl ?_
    refine Ev.gf 2 d_Sh_hasThreeFrom_6 lf_Sh_21 rfl rfl hA.2.1 (by decide) ?_
    rw [e2]
    refine Ev.iconst d_Sh_hasThreeFrom_9 ?_
    refine Ev.isub d_Sh_hasThreeFrom_10 ?_
    refine Ev.icmp_gt (tgt := 18) d_Sh_hasThreeFrom_11 rfl (by first | omega | (simp [mu]; done) | (simp [mu]; omega)) (by first | omega | (simp [mu]; done) | (simp [mu]; omega)) (fun hb11 => ?_) (fun hb11 => ?_)
    · refine Ev.iconst d_Sh_hasThreeFrom_18 ?_
      exact Ev.to (Ev.zreturn d_Sh_hasThreeFrom_19 rfl (by first | omega | exact b01_01)) (r0 (by omega)) rfl
    · refine Ev.iconst d_Sh_hasThreeFrom_14 ?_
      refine Ev.goto (tgt := 19) d_Sh_hasThreeFrom_15 rfl ?_
      exact Ev.to (Ev.zreturn d_Sh_hasThreeFrom_19 rfl (by first | omega | exact b01_01)) (r1 (by omega)) rfl
theorem c_Sh_read {a lane n : Int} {C : Int → Int} (hA : ShS σ a) (hm : ShM m a lane n C) (hK : ShK lane n C) {i : Int} (hi : 0 ≤ i ∧ i < n) : Call 2 m_Sh_read [vr a, vi i] σ m (some (vi (C i))) σ m := by
  show Ev 2 m_Sh_read 0 [some (vr a), some (vi i)] [] σ m _ σ m
  have k2 := hK.2.1
  have e3 := hm.2.2 i hi.1 (by omega)
  refine Ev.aload_n d_Sh_read_0 rfl ?_
  refine Ev.iload_n d_Sh_read_1 rfl ?_
  refine Ev.callV d_Sh_read_2 mt_Sh_hasCell lk_Sh_30 in_Sh_hasCell se_Sh_hasCell rfl (Nat.le_of_ble_eq_true rfl) rfl (Nat.le_of_ble_eq_true rfl) (by decide) hA.2.1 (by decide) rfl rfl (c_Sh_hasCell hA hm hK (by omega)) ?_
  refine Ev.if_eq (tgt := 17) d_Sh_read_5 rfl b01_b (fun hb5 => by exfalso; (first | rw [b01_ne] at hb5 | rw [b01_eq] at hb5); omega) (fun hb5 => ?_)
  rw [b01_ne] at hb5
  refine Ev.aload_n d_Sh_read_8 rfl ?_
  refine Ev.gr 0 d_Sh_read_9 lf_Sh_9 rfl rfl hA.2.1 (by decide) hA.2.2.2 ?_
  refine Ev.iload_n d_Sh_read_12 rfl ?_
  refine Ev.iaload d_Sh_read_13 hA.2.2.1 (by first | omega | (simp [mu]; done) | (simp [mu]; omega)) ?_
  rw [e3]
  refine Ev.goto (tgt := 18) d_Sh_read_14 rfl ?_
  exact Ev.to (Ev.ireturn d_Sh_read_18 rfl) rfl rfl
theorem c_Sh_write {a lane n : Int} {C : Int → Int} (hA : ShS σ a) (hm : ShM m a lane n C) (hK : ShK lane n C) {i v : Int} (hi : 0 ≤ i ∧ i < n) (hl : lane ≠ -4) (hv : -2147483648 ≤ v ∧ v ≤ 2147483647) : Call 2 m_Sh_write [vr a, vi i, vi v] σ m none σ (mu m (a + 1) i (lnv lane v)) := by
  show Ev 2 m_Sh_write 0 [some (vr a), some (vi i), some (vi v)] [] σ m _ σ _
  have e1 := hm.1
  have k1 := hK.1
  have k2 := hK.2.1
  have hc : cl4 lane = lane := if_neg hl
  rw [hc] at e1
  have hs : (lane = 0 ∧ lnv lane v = v.bmod 256) ∨ (lane = 1 ∧ lnv lane v = v.bmod 65536) ∨ (lane = 2 ∧ lnv lane v = v) := by
    unfold lnv
    rcases (show lane = 0 ∨ lane = 1 ∨ lane = 2 by omega) with rfl | rfl | rfl <;> simp
  rcases hs with ⟨h1, h2⟩ | ⟨h1, h2⟩ | ⟨h1, h2⟩ <;> rw [h2]
  · refine Ev.aload_n d_Sh_write_0 rfl ?_
    refine Ev.iload_n d_Sh_write_1 rfl ?_
    refine Ev.callV d_Sh_write_2 mt_Sh_hasCell lk_Sh_30 in_Sh_hasCell se_Sh_hasCell rfl (Nat.le_of_ble_eq_true rfl) rfl (Nat.le_of_ble_eq_true rfl) (by decide) hA.2.1 (by decide) rfl rfl (c_Sh_hasCell hA hm hK (by omega)) ?_
    refine Ev.if_eq (tgt := 40) d_Sh_write_5 rfl b01_b (fun hb5 => by exfalso; (first | rw [b01_ne] at hb5 | rw [b01_eq] at hb5); omega) (fun hb5 => ?_)
    rw [b01_ne] at hb5
    refine Ev.aload_n d_Sh_write_8 rfl ?_
    refine Ev.gr 0 d_Sh_write_9 lf_Sh_9 rfl rfl hA.2.1 (by decide) hA.2.2.2 ?_
    refine Ev.iload_n d_Sh_write_12 rfl ?_
    refine Ev.aload_n d_Sh_write_13 rfl ?_
    refine Ev.gf 1 d_Sh_write_14 lf_Sh_13 rfl rfl hA.2.1 (by decide) ?_
    rw [e1]
    refine Ev.if_ne (tgt := 25) d_Sh_write_17 rfl (by first | omega | (simp [mu]; done) | (simp [mu]; omega)) (fun hb17 => by exfalso; first | omega | simp at hb17 | contradiction) (fun hb17 => ?_)
    refine Ev.iload_n d_Sh_write_20 rfl ?_
    refine Ev.i2b d_Sh_write_21 ?_
    refine Ev.goto (tgt := 39) d_Sh_write_22 rfl ?_
    refine Ev.iastore d_Sh_write_39 hA.2.2.1 (by have := hA.1; omega) (by first | omega | (simp [mu]; done) | (simp [mu]; omega)) ?_
    exact Ev.to (Ev.return d_Sh_write_40 rfl) rfl rfl
  · refine Ev.aload_n d_Sh_write_0 rfl ?_
    refine Ev.iload_n d_Sh_write_1 rfl ?_
    refine Ev.callV d_Sh_write_2 mt_Sh_hasCell lk_Sh_30 in_Sh_hasCell se_Sh_hasCell rfl (Nat.le_of_ble_eq_true rfl) rfl (Nat.le_of_ble_eq_true rfl) (by decide) hA.2.1 (by decide) rfl rfl (c_Sh_hasCell hA hm hK (by omega)) ?_
    refine Ev.if_eq (tgt := 40) d_Sh_write_5 rfl b01_b (fun hb5 => by exfalso; (first | rw [b01_ne] at hb5 | rw [b01_eq] at hb5); omega) (fun hb5 => ?_)
    rw [b01_ne] at hb5
    refine Ev.aload_n d_Sh_write_8 rfl ?_
    refine Ev.gr 0 d_Sh_write_9 lf_Sh_9 rfl rfl hA.2.1 (by decide) hA.2.2.2 ?_
    refine Ev.iload_n d_Sh_write_12 rfl ?_
    refine Ev.aload_n d_Sh_write_13 rfl ?_
    refine Ev.gf 1 d_Sh_write_14 lf_Sh_13 rfl rfl hA.2.1 (by decide) ?_
    rw [e1]
    refine Ev.if_ne (tgt := 25) d_Sh_write_17 rfl (by first | omega | (simp [mu]; done) | (simp [mu]; omega)) (fun hb17 => ?_) (fun hb17 => by exfalso; first | omega | simp at hb17 | contradiction)
    refine Ev.aload_n d_Sh_write_25 rfl ?_
    refine Ev.gf 1 d_Sh_write_26 lf_Sh_13 rfl rfl hA.2.1 (by decide) ?_
    refine Ev.iconst d_Sh_write_29 ?_
    rw [e1]
    refine Ev.icmp_ne (tgt := 38) d_Sh_write_30 rfl (by first | omega | (simp [mu]; done) | (simp [mu]; omega)) (by first | omega | (simp [mu]; done) | (simp [mu]; omega)) (fun hb30 => by exfalso; first | omega | simp at hb30 | contradiction) (fun hb30 => ?_)
    refine Ev.iload_n d_Sh_write_33 rfl ?_
    refine Ev.i2s d_Sh_write_34 ?_
    refine Ev.goto (tgt := 39) d_Sh_write_35 rfl ?_
    refine Ev.iastore d_Sh_write_39 hA.2.2.1 (by have := hA.1; omega) (by first | omega | (simp [mu]; done) | (simp [mu]; omega)) ?_
    exact Ev.to (Ev.return d_Sh_write_40 rfl) rfl rfl
  · refine Ev.aload_n d_Sh_write_0 rfl ?_
    refine Ev.iload_n d_Sh_write_1 rfl ?_
    refine Ev.callV d_Sh_write_2 mt_Sh_hasCell lk_Sh_30 in_Sh_hasCell se_Sh_hasCell rfl (Nat.le_of_ble_eq_true rfl) rfl (Nat.le_of_ble_eq_true rfl) (by decide) hA.2.1 (by decide) rfl rfl (c_Sh_hasCell hA hm hK (by omega)) ?_
    refine Ev.if_eq (tgt := 40) d_Sh_write_5 rfl b01_b (fun hb5 => by exfalso; (first | rw [b01_ne] at hb5 | rw [b01_eq] at hb5); omega) (fun hb5 => ?_)
    rw [b01_ne] at hb5
    refine Ev.aload_n d_Sh_write_8 rfl ?_
    refine Ev.gr 0 d_Sh_write_9 lf_Sh_9 rfl rfl hA.2.1 (by decide) hA.2.2.2 ?_
    refine Ev.iload_n d_Sh_write_12 rfl ?_
    refine Ev.aload_n d_Sh_write_13 rfl ?_
    refine Ev.gf 1 d_Sh_write_14 lf_Sh_13 rfl rfl hA.2.1 (by decide) ?_
    rw [e1]
    refine Ev.if_ne (tgt := 25) d_Sh_write_17 rfl (by first | omega | (simp [mu]; done) | (simp [mu]; omega)) (fun hb17 => ?_) (fun hb17 => by exfalso; first | omega | simp at hb17 | contradiction)
    refine Ev.aload_n d_Sh_write_25 rfl ?_
    refine Ev.gf 1 d_Sh_write_26 lf_Sh_13 rfl rfl hA.2.1 (by decide) ?_
    refine Ev.iconst d_Sh_write_29 ?_
    rw [e1]
    refine Ev.icmp_ne (tgt := 38) d_Sh_write_30 rfl (by first | omega | (simp [mu]; done) | (simp [mu]; omega)) (by first | omega | (simp [mu]; done) | (simp [mu]; omega)) (fun hb30 => ?_) (fun hb30 => by exfalso; first | omega | simp at hb30 | contradiction)
    refine Ev.iload_n d_Sh_write_38 rfl ?_
    refine Ev.iastore d_Sh_write_39 hA.2.2.1 (by have := hA.1; omega) (by first | omega | (simp [mu]; done) | (simp [mu]; omega)) ?_
    exact Ev.to (Ev.return d_Sh_write_40 rfl) rfl rfl
end
