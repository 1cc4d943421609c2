theorem lfW_any : lfW (-1) 0 = fun _ => 1 := by
  funext g
  exact if_pos (Or.inl (by decide))
theorem lfW_ind {f n : Nat} (hf : f < 4) : lfW (f : Int) (n : Int) = ind f n := by
  funext g
  unfold lfW ind
  rw [Int.toNat_natCast]
  by_cases h : gtT g f = n
  · rw [if_pos (by omega), if_pos h]
  · rw [if_neg (by omega), if_neg h]
theorem RL_ways {d : Int} (hd : 1 ≤ d ∧ d ≤ 4) {l : List Int} (hl : l ∈ RL d) : (KLn d l).length ≤ 10 ∧ kok (KLn d l) = true ∧ tot (KLn d l) ≤ 13 := by
  have h := chkM_ok hd hl
  unfold chkM at h
  rw [Int.toNat_of_nonneg (by omega)] at h
  simp only [Bool.and_eq_true, decide_eq_true_eq] at h
  exact ⟨h.1.1.1.1.1, h.1.1.1.1.2, h.1.1.1.2⟩
theorem ways_any {J : Int → Int} {d : Int} (hd : 1 ≤ d ∧ d ≤ 4) {l : List Int} (hl : l ∈ RL d) : ((dN (lfW (-1) 0) (KLn d l) 0 : Nat) : Int) = mkd J d (-4) 0 l := by
  have h := chkM_ok hd hl
  obtain ⟨d, rfl⟩ := Int.eq_ofNat_of_zero_le (show 0 ≤ d by omega)
  unfold chkM at h
  rw [Int.toNat_natCast] at h
  simp only [Bool.and_eq_true, decide_eq_true_eq] at h
  have h2 := h.1.2
  split at h2
  · next T hT =>
    rw [mkd_T (gp := 100) (by omega) (Or.inl ⟨rfl, rfl⟩) (RL_ok hd l hl).2.2 hT (by decide), lfW_any]
    exact congrArg Nat.cast (beq_iff_eq.mp h2).symm
  · cases h2
theorem ways_gap {J : Int → Int} {d f n : Int} (hd : 1 ≤ d ∧ d ≤ 4) (hf : 0 ≤ f ∧ f < d) (hn : 0 ≤ n) {l : List Int} (hl : l ∈ RL d) : ((dN (lfW f n) (KLn d l) 0 : Nat) : Int) = mkd J d f n l := by
  have h := chkM_ok hd hl
  obtain ⟨d, rfl⟩ := Int.eq_ofNat_of_zero_le (show 0 ≤ d by omega)
  obtain ⟨f, rfl⟩ := Int.eq_ofNat_of_zero_le hf.1
  obtain ⟨n, rfl⟩ := Int.eq_ofNat_of_zero_le hn
  unfold chkM at h
  rw [Int.toNat_natCast] at h
  simp only [Bool.and_eq_true, decide_eq_true_eq] at h
  have ha := h.1.1.2
  have h2 := List.all_eq_true.mp h.2 f (List.mem_range.mpr (by omega))
  split at h2
  · next T hT =>
    simp only [Bool.and_eq_true, decide_eq_true_eq] at h2
    have hB : ∀ n, dN (ind f n) (KLn d l) 0 < bigB := fun n => Nat.lt_of_le_of_lt (ind_le f n _ 0) ha
    have hdig := (polD_dig (B := bigB) (f := f) (K := KLn d l) (by decide) hB 256).2
    rw [← vF_pol] at hdig
    rw [lfW_ind (by omega)]
    by_cases hn11 : n < 11
    · rw [mkd_T (gp := f) (gap := (f : Int)) (by omega) (Or.inr ⟨rfl, by omega⟩) (RL_ok hd l hl).2.2 hT (by unfold wdN; rw [if_neg (by omega)]; omega), Int.toNat_natCast]
      have h3 := List.all_eq_true.mp h2.2 n (List.mem_range.mpr hn11)
      rw [beq_iff_eq] at h3
      rw [h3, hdig n (by omega)]
    · have e0 : mkd J d f n l = 0 := by
        unfold mkd wdt
        rw [if_neg (show ¬ (f : Int) = -4 by omega), if_neg (by omega)]
      rw [e0]
      have : dN (ind f n) (KLn d l) 0 = 0 := by
        by_cases hn2 : n < 256
        · rw [← hdig n hn2]
          have hp : bigB ^ 11 ≤ bigB ^ n := Nat.pow_le_pow_right (by decide) (by omega)
          rw [Nat.div_eq_of_lt (by omega)]; rfl
        · have e1 : ind f n = fun _ => 0 := by
            funext g
            have := @gtT_lt g f
            exact if_neg (by omega)
          rw [e1, dN_zero]
      rw [this]; rfl
  · cases h2
theorem RMV_ok : RMV := fun J d l hd hl => by
  obtain ⟨d, rfl⟩ := Int.eq_ofNat_of_zero_le (show 0 ≤ d by omega)
  have h := chkM_ok hd hl
  unfold chkM at h
  rw [Int.toNat_natCast] at h
  simp only [Bool.and_eq_true, decide_eq_true_eq] at h
  have h2 := h.1.2
  unfold mkc
  rw [Int.toNat_natCast]
  split at h2
  · next T hT =>
    rw [mkd_T (gp := 100) (by omega) (Or.inl ⟨rfl, rfl⟩) (RL_ok hd l hl).2.2 hT (by decide), hT]
    rfl
  · cases h2
