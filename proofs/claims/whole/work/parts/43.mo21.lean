section
variable {σ : Sg} {m : Mm}
def sp_count (d n : Int) : Int := if 1 ≤ d ∧ d ≤ 4 ∧ 0 ≤ n ∧ n ≤ 6 then CT d n else -1
def sp_signed (d n : Int) : Int := if 1 ≤ d ∧ d ≤ 4 ∧ 0 ≤ n ∧ n ≤ 6 then SG d n else -1
def sp_listed (d n : Int) : Int := if 1 ≤ d ∧ d ≤ 4 ∧ 0 ≤ n ∧ n ≤ 6 then LN d n else -1
def sp_spreadAll (d n k : Int) : Int := if 1 ≤ d ∧ d ≤ 4 ∧ 0 ≤ n ∧ n ≤ 6 then (if -18 ≤ k ∧ k ≤ 18 then SP d n (18 + k) else 0) else -1
theorem c_Mo_count (hM : MoS σ) (hV : RMV) (hF : MF m) {d n : Int} (h1 : -2147483648 ≤ d ∧ d ≤ 2147483647) (h2 : -2147483648 ≤ n ∧ n ≤ 2147483647) : ∃ m', Call 7 m_Mo_count [vr 57, vi d, vi n] σ m (some (vl (sp_count d n))) σ m' ∧ MF m' ∧ FrG m m' := by
  by_cases hk : (1 ≤ d ∧ d ≤ 4 ∧ 0 ≤ n ∧ n ≤ 6)
  · obtain ⟨m', q1, f1, f2, f3⟩ := c_Mo_find hM hV hF (d := d) (n := n) (by omega) (by omega)
    refine ⟨m', ?_, f2, f3⟩
    show Ev 7 m_Mo_count 0 [some (vr 57), some (vi d), some (vi n)] [] σ m _ σ _
    refine Ev.iload_n d_Mo_count_0 rfl ?_
    refine Ev.iload_n d_Mo_count_1 rfl ?_
    refine Ev.callS d_Mo_count_2 mt_Mo_areKnots lk_Mo_223 st_Mo_areKnots rfl (Nat.le_of_ble_eq_true rfl) rfl (Nat.le_of_ble_eq_true rfl) (by decide) rfl (c_Mo_areKnots (by omega) (by omega)) ?_
    refine Ev.if_ne (tgt := 12) d_Mo_count_5 rfl b01_b (fun hb5 => ?_) (fun hb5 => by exfalso; (first | rw [b01_ne] at hb5 | rw [b01_eq] at hb5); omega)
    rw [b01_ne] at hb5
    refine Ev.aload_n d_Mo_count_12 rfl ?_
    refine Ev.iload_n d_Mo_count_13 rfl ?_
    refine Ev.iload_n d_Mo_count_14 rfl ?_
    refine Ev.callVv d_Mo_count_15 mt_Mo_find lk_Mo_227 in_Mo_find se_Mo_find rfl (Nat.le_of_ble_eq_true rfl) rfl (Nat.le_of_ble_eq_true rfl) (by decide) (is_57 hM) (by decide) rfl rfl q1 ?_
    refine Ev.aload_n d_Mo_count_18 rfl ?_
    refine Ev.gr 17 d_Mo_count_19 lf_Mo_55 rfl rfl (is_57 hM) (by decide) (rf_57_17 hM) ?_
    refine Ev.bipush d_Mo_count_22 rfl ?_
    refine Ev.iload_n d_Mo_count_24 rfl ?_
    refine Ev.imul d_Mo_count_25 ?_
    refine Ev.iload_n d_Mo_count_26 rfl ?_
    refine Ev.iadd d_Mo_count_27 ?_
    refine Ev.laload d_Mo_count_28 (is_72 hM) (by omega) ?_
    exact Ev.to (Ev.lreturn d_Mo_count_29 rfl) (rl (by rw [sp_count, if_pos hk, f1.1])) rfl
  · refine ⟨m, ?_, hF, fun _ _ _ _ _ _ => rfl⟩
    show Ev 7 m_Mo_count 0 [some (vr 57), some (vi d), some (vi n)] [] σ m _ σ _
    refine Ev.iload_n d_Mo_count_0 rfl ?_
    refine Ev.iload_n d_Mo_count_1 rfl ?_
    refine Ev.callS d_Mo_count_2 mt_Mo_areKnots lk_Mo_223 st_Mo_areKnots rfl (Nat.le_of_ble_eq_true rfl) rfl (Nat.le_of_ble_eq_true rfl) (by decide) rfl (c_Mo_areKnots (by omega) (by omega)) ?_
    refine Ev.if_ne (tgt := 12) d_Mo_count_5 rfl b01_b (fun hb5 => by exfalso; (first | rw [b01_ne] at hb5 | rw [b01_eq] at hb5); omega) (fun hb5 => ?_)
    rw [b01_eq] at hb5
    refine Ev.ldc2 (x := (-1)) d_Mo_count_8 kl_Mo_154 ?_
    exact Ev.to (Ev.lreturn d_Mo_count_11 rfl) (rl (by rw [sp_count, if_neg hk])) rfl
theorem c_Mo_signed (hM : MoS σ) (hV : RMV) (hF : MF m) {d n : Int} (h1 : -2147483648 ≤ d ∧ d ≤ 2147483647) (h2 : -2147483648 ≤ n ∧ n ≤ 2147483647) : ∃ m', Call 7 m_Mo_signed [vr 57, vi d, vi n] σ m (some (vl (sp_signed d n))) σ m' ∧ MF m' ∧ FrG m m' := by
  by_cases hk : (1 ≤ d ∧ d ≤ 4 ∧ 0 ≤ n ∧ n ≤ 6)
  · obtain ⟨m', q1, f1, f2, f3⟩ := c_Mo_find hM hV hF (d := d) (n := n) (by omega) (by omega)
    refine ⟨m', ?_, f2, f3⟩
    show Ev 7 m_Mo_signed 0 [some (vr 57), some (vi d), some (vi n)] [] σ m _ σ _
    refine Ev.iload_n d_Mo_signed_0 rfl ?_
    refine Ev.iload_n d_Mo_signed_1 rfl ?_
    refine Ev.callS d_Mo_signed_2 mt_Mo_areKnots lk_Mo_223 st_Mo_areKnots rfl (Nat.le_of_ble_eq_true rfl) rfl (Nat.le_of_ble_eq_true rfl) (by decide) rfl (c_Mo_areKnots (by omega) (by omega)) ?_
    refine Ev.if_ne (tgt := 12) d_Mo_signed_5 rfl b01_b (fun hb5 => ?_) (fun hb5 => by exfalso; (first | rw [b01_ne] at hb5 | rw [b01_eq] at hb5); omega)
    rw [b01_ne] at hb5
    refine Ev.aload_n d_Mo_signed_12 rfl ?_
    refine Ev.iload_n d_Mo_signed_13 rfl ?_
    refine Ev.iload_n d_Mo_signed_14 rfl ?_
    refine Ev.callVv d_Mo_signed_15 mt_Mo_find lk_Mo_227 in_Mo_find se_Mo_find rfl (Nat.le_of_ble_eq_true rfl) rfl (Nat.le_of_ble_eq_true rfl) (by decide) (is_57 hM) (by decide) rfl rfl q1 ?_
    refine Ev.aload_n d_Mo_signed_18 rfl ?_
    refine Ev.gr 18 d_Mo_signed_19 lf_Mo_58 rfl rfl (is_57 hM) (by decide) (rf_57_18 hM) ?_
    refine Ev.bipush d_Mo_signed_22 rfl ?_
    refine Ev.iload_n d_Mo_signed_24 rfl ?_
    refine Ev.imul d_Mo_signed_25 ?_
    refine Ev.iload_n d_Mo_signed_26 rfl ?_
    refine Ev.iadd d_Mo_signed_27 ?_
    refine Ev.laload d_Mo_signed_28 (is_73 hM) (by omega) ?_
    exact Ev.to (Ev.lreturn d_Mo_signed_29 rfl) (rl (by rw [sp_signed, if_pos hk, f1.2.1])) rfl
  · refine ⟨m, ?_, hF, fun _ _ _ _ _ _ => rfl⟩
    show Ev 7 m_Mo_signed 0 [some (vr 57), some (vi d), some (vi n)] [] σ m _ σ _
    refine Ev.iload_n d_Mo_signed_0 rfl ?_
    refine Ev.iload_n d_Mo_signed_1 rfl ?_
    refine Ev.callS d_Mo_signed_2 mt_Mo_areKnots lk_Mo_223 st_Mo_areKnots rfl (Nat.le_of_ble_eq_true rfl) rfl (Nat.le_of_ble_eq_true rfl) (by decide) rfl (c_Mo_areKnots (by omega) (by omega)) ?_
    refine Ev.if_ne (tgt := 12) d_Mo_signed_5 rfl b01_b (fun hb5 => by exfalso; (first | rw [b01_ne] at hb5 | rw [b01_eq] at hb5); omega) (fun hb5 => ?_)
    rw [b01_eq] at hb5
    refine Ev.ldc2 (x := (-1)) d_Mo_signed_8 kl_Mo_154 ?_
    exact Ev.to (Ev.lreturn d_Mo_signed_11 rfl) (rl (by rw [sp_signed, if_neg hk])) rfl
theorem c_Mo_listed (hM : MoS σ) (hV : RMV) (hF : MF m) {d n : Int} (h1 : -2147483648 ≤ d ∧ d ≤ 2147483647) (h2 : -2147483648 ≤ n ∧ n ≤ 2147483647) : ∃ m', Call 7 m_Mo_listed [vr 57, vi d, vi n] σ m (some (vi (sp_listed d n))) σ m' ∧ MF m' ∧ FrG m m' := by
  by_cases hk : (1 ≤ d ∧ d ≤ 4 ∧ 0 ≤ n ∧ n ≤ 6)
  · obtain ⟨m', q1, f1, f2, f3⟩ := c_Mo_find hM hV hF (d := d) (n := n) (by omega) (by omega)
    refine ⟨m', ?_, f2, f3⟩
    show Ev 7 m_Mo_listed 0 [some (vr 57), some (vi d), some (vi n)] [] σ m _ σ _
    refine Ev.iload_n d_Mo_listed_0 rfl ?_
    refine Ev.iload_n d_Mo_listed_1 rfl ?_
    refine Ev.callS d_Mo_listed_2 mt_Mo_areKnots lk_Mo_223 st_Mo_areKnots rfl (Nat.le_of_ble_eq_true rfl) rfl (Nat.le_of_ble_eq_true rfl) (by decide) rfl (c_Mo_areKnots (by omega) (by omega)) ?_
    refine Ev.if_ne (tgt := 10) d_Mo_listed_5 rfl b01_b (fun hb5 => ?_) (fun hb5 => by exfalso; (first | rw [b01_ne] at hb5 | rw [b01_eq] at hb5); omega)
    rw [b01_ne] at hb5
    refine Ev.aload_n d_Mo_listed_10 rfl ?_
    refine Ev.iload_n d_Mo_listed_11 rfl ?_
    refine Ev.iload_n d_Mo_listed_12 rfl ?_
    refine Ev.callVv d_Mo_listed_13 mt_Mo_find lk_Mo_227 in_Mo_find se_Mo_find rfl (Nat.le_of_ble_eq_true rfl) rfl (Nat.le_of_ble_eq_true rfl) (by decide) (is_57 hM) (by decide) rfl rfl q1 ?_
    refine Ev.aload_n d_Mo_listed_16 rfl ?_
    refine Ev.gr 19 d_Mo_listed_17 lf_Mo_61 rfl rfl (is_57 hM) (by decide) (rf_57_19 hM) ?_
    refine Ev.bipush d_Mo_listed_20 rfl ?_
    refine Ev.iload_n d_Mo_listed_22 rfl ?_
    refine Ev.imul d_Mo_listed_23 ?_
    refine Ev.iload_n d_Mo_listed_24 rfl ?_
    refine Ev.iadd d_Mo_listed_25 ?_
    refine Ev.iaload d_Mo_listed_26 (is_74 hM) (by omega) ?_
    exact Ev.to (Ev.ireturn d_Mo_listed_27 rfl) (ri (by rw [sp_listed, if_pos hk, f1.2.2.1])) rfl
  · refine ⟨m, ?_, hF, fun _ _ _ _ _ _ => rfl⟩
    show Ev 7 m_Mo_listed 0 [some (vr 57), some (vi d), some (vi n)] [] σ m _ σ _
    refine Ev.iload_n d_Mo_listed_0 rfl ?_
    refine Ev.iload_n d_Mo_listed_1 rfl ?_
    refine Ev.callS d_Mo_listed_2 mt_Mo_areKnots lk_Mo_223 st_Mo_areKnots rfl (Nat.le_of_ble_eq_true rfl) rfl (Nat.le_of_ble_eq_true rfl) (by decide) rfl (c_Mo_areKnots (by omega) (by omega)) ?_
    refine Ev.if_ne (tgt := 10) d_Mo_listed_5 rfl b01_b (fun hb5 => by exfalso; (first | rw [b01_ne] at hb5 | rw [b01_eq] at hb5); omega) (fun hb5 => ?_)
    rw [b01_eq] at hb5
    refine Ev.iconst d_Mo_listed_8 ?_
    exact Ev.to (Ev.ireturn d_Mo_listed_9 rfl) (ri (by rw [sp_listed, if_neg hk])) rfl
theorem c_Mo_spreadAll (hM : MoS σ) (hV : RMV) (hF : MF m) {d n k : Int} (h1 : -2147483648 ≤ d ∧ d ≤ 2147483647) (h2 : -2147483648 ≤ n ∧ n ≤ 2147483647) (h3 : -2147483648 ≤ k ∧ k ≤ 2147483647) : ∃ m', Call 7 m_Mo_spreadAll [vr 57, vi d, vi n, vi k] σ m (some (vl (sp_spreadAll d n k))) σ m' ∧ MF m' ∧ FrG m m' := by
  by_cases hk : (1 ≤ d ∧ d ≤ 4 ∧ 0 ≤ n ∧ n ≤ 6)
  · obtain ⟨m', q1, f1, f2, f3⟩ := c_Mo_find hM hV hF (d := d) (n := n) (by omega) (by omega)
    refine ⟨m', ?_, f2, f3⟩
    rw [sp_spreadAll, if_pos hk]
    show Ev 7 m_Mo_spreadAll 0 [some (vr 57), some (vi d), some (vi n), some (vi k)] [] σ m _ σ _
    refine Ev.iload_n d_Mo_spreadAll_0 rfl ?_
    refine Ev.iload_n d_Mo_spreadAll_1 rfl ?_
    refine Ev.callS d_Mo_spreadAll_2 mt_Mo_areKnots lk_Mo_223 st_Mo_areKnots rfl (Nat.le_of_ble_eq_true rfl) rfl (Nat.le_of_ble_eq_true rfl) (by decide) rfl (c_Mo_areKnots (by omega) (by omega)) ?_
    refine Ev.if_ne (tgt := 12) d_Mo_spreadAll_5 rfl b01_b (fun hb5 => ?_) (fun hb5 => by exfalso; (first | rw [b01_ne] at hb5 | rw [b01_eq] at hb5); omega)
    rw [b01_ne] at hb5
    refine Ev.aload_n d_Mo_spreadAll_12 rfl ?_
    refine Ev.iload_n d_Mo_spreadAll_13 rfl ?_
    refine Ev.iload_n d_Mo_spreadAll_14 rfl ?_
    refine Ev.callVv d_Mo_spreadAll_15 mt_Mo_find lk_Mo_227 in_Mo_find se_Mo_find rfl (Nat.le_of_ble_eq_true rfl) rfl (Nat.le_of_ble_eq_true rfl) (by decide) (is_57 hM) (by decide) rfl rfl q1 ?_
    refine Ev.iload_n d_Mo_spreadAll_18 rfl ?_
    refine Ev.i2l d_Mo_spreadAll_19 (by first | omega | (simp [mu]; done) | (simp [mu]; omega)) ?_
    refine Ev.ldc2 (x := (-18)) d_Mo_spreadAll_20 kl_Mo_160 ?_
    refine Ev.ldc2 (x := 18) d_Mo_spreadAll_23 kl_Mo_162 ?_
    refine Ev.callS d_Mo_spreadAll_26 mt_Mo_in lk_Mo_107 st_Mo_in rfl (Nat.le_of_ble_eq_true rfl) rfl (Nat.le_of_ble_eq_true rfl) (by decide) rfl (c_Mo_in (by omega) (by omega) (by omega)) ?_
    refine Ev.if_eq (tgt := 54) d_Mo_spreadAll_29 rfl b01_b (fun hb29 => ?_) (fun hb29 => ?_)
    · rw [b01_eq] at hb29
      refine Ev.lconst (x := 0) d_Mo_spreadAll_54 rfl ?_
      exact Ev.to (Ev.lreturn d_Mo_spreadAll_55 rfl) (rl (by rw [if_neg (by omega)])) rfl
    · rw [b01_ne] at hb29
      refine Ev.aload_n d_Mo_spreadAll_32 rfl ?_
      refine Ev.gr 20 d_Mo_spreadAll_33 lf_Mo_64 rfl rfl (is_57 hM) (by decide) (rf_57_20 hM) ?_
      refine Ev.bipush d_Mo_spreadAll_36 rfl ?_
      refine Ev.bipush d_Mo_spreadAll_38 rfl ?_
      refine Ev.iload_n d_Mo_spreadAll_40 rfl ?_
      refine Ev.imul d_Mo_spreadAll_41 ?_
      refine Ev.iload_n d_Mo_spreadAll_42 rfl ?_
      refine Ev.iadd d_Mo_spreadAll_43 ?_
      refine Ev.imul d_Mo_spreadAll_44 ?_
      refine Ev.bipush d_Mo_spreadAll_45 rfl ?_
      refine Ev.iadd d_Mo_spreadAll_47 ?_
      refine Ev.iload_n d_Mo_spreadAll_48 rfl ?_
      refine Ev.iadd d_Mo_spreadAll_49 ?_
      refine Ev.laload d_Mo_spreadAll_50 (is_75 hM) (by omega) ?_
      refine Ev.goto (tgt := 55) d_Mo_spreadAll_51 rfl ?_
      exact Ev.to (Ev.lreturn d_Mo_spreadAll_55 rfl) (rl (by rw [if_pos (by omega), ← f1.2.2.2 (18 + k) (by omega) (by omega)]; congr 1; omega)) rfl
  · refine ⟨m, ?_, hF, fun _ _ _ _ _ _ => rfl⟩
    rw [sp_spreadAll, if_neg hk]
    show Ev 7 m_Mo_spreadAll 0 [some (vr 57), some (vi d), some (vi n), some (vi k)] [] σ m _ σ _
    refine Ev.iload_n d_Mo_spreadAll_0 rfl ?_
    refine Ev.iload_n d_Mo_spreadAll_1 rfl ?_
    refine Ev.callS d_Mo_spreadAll_2 mt_Mo_areKnots lk_Mo_223 st_Mo_areKnots rfl (Nat.le_of_ble_eq_true rfl) rfl (Nat.le_of_ble_eq_true rfl) (by decide) rfl (c_Mo_areKnots (by omega) (by omega)) ?_
    refine Ev.if_ne (tgt := 12) d_Mo_spreadAll_5 rfl b01_b (fun hb5 => by exfalso; (first | rw [b01_ne] at hb5 | rw [b01_eq] at hb5); omega) (fun hb5 => ?_)
    rw [b01_eq] at hb5
    refine Ev.ldc2 (x := (-1)) d_Mo_spreadAll_8 kl_Mo_154 ?_
    exact Ev.to (Ev.lreturn d_Mo_spreadAll_11 rfl) rfl rfl
def tkL (N : Int) : List (List Int) → Int → List Int
  | [], _ => []
  | l :: t, i => if (l.length : Int) = N then (if i ≤ 0 then l else tkL N t (i - 1)) else tkL N t i
theorem fo1_add (N : Int) : ∀ (t : List (List Int)) (a : Int), fo g1 N t a = a + fo g1 N t 0 ∧ 0 ≤ fo g1 N t 0
  | [], a => by simp [fo]
  | l :: t, a => by
    simp only [fo, g1]
    split
    · have h1 := fo1_add N t (a + 1)
      have h2 := fo1_add N t (0 + 1)
      omega
    · exact fo1_add N t a
def sp_take (S : PS) (d n i : Int) : Int := if (1 ≤ d ∧ d ≤ 4 ∧ 0 ≤ n ∧ n ≤ 6) ∧ 0 ≤ i then (if LN d n ≤ i then -4 else if S.1 = 8 then -3 else S.1) else -1
def st_take (S : PS) (d n i : Int) : PS := if (1 ≤ d ∧ d ≤ 4 ∧ 0 ≤ n ∧ n ≤ 6) ∧ 0 ≤ i ∧ i < LN d n ∧ ¬ S.1 = 8 then st_new S d (tkL (nst d n) (RL d) i) else S
theorem lp_Mo_take (hM : MoS σ) {d n i : Int} (hd : 1 ≤ d ∧ d ≤ 4) (hn : 0 ≤ n ∧ n ≤ 6) {r : Option AV} {Post : Mm → Prop} : ∀ (t : List (List Int)) (l : List Int) (m : Mm) (left : Int) (x6 : Option AV), chk d (l :: t) = true → (∀ y ∈ l :: t, y ∈ RL d) → RW m l → 0 ≤ left → left ≤ 1000 → left < fo g1 (nst d n) (l :: t) 0 → (∀ (m' : Mm) (z4 z5 : Int) (x6 : Option AV), RW m' (tkL (nst d n) (l :: t) left) → tkL (nst d n) (l :: t) left ∈ RL d → Fr70 m m' → ∃ mF, Ev 7 m_Mo_take 138 [some (vr 57), some (vi d), some (vi n), some (vi i), some (vi z4), some (vi z5), x6] [] σ m' r σ mF ∧ Post mF) → ∃ mF, Ev 7 m_Mo_take 80 [some (vr 57), some (vi d), some (vi n), some (vi i), some (vi left), some (vi (b01 ((l.length : Int) = nst d n))), x6] [] σ m r σ mF ∧ Post mF := by
  intro t
  induction t with
  | nil =>
    intro l m left x6 hc hy hR h0 h1 hlt c
    have hdd : (l.length : Int) = nst d n := by
      simp only [fo] at hlt
      split at hlt
      · assumption
      · omega
    simp only [fo] at hlt
    rw [if_pos hdd] at hlt
    simp only [g1] at hlt
    have et : tkL (nst d n) [l] left = l := by simp only [tkL]; rw [if_pos hdd, if_pos (by omega)]
    rw [et] at c
    obtain ⟨mF, g1, g2⟩ := c m left 1 x6 hR (hy l List.mem_cons_self) (fun _ _ _ => rfl)
    refine ⟨mF, ?_, g2⟩
    rw [b01_t hdd]
    refine Ev.iload d_Mo_take_80 rfl ?_
    refine Ev.if_eq (tgt := 90) d_Mo_take_82 rfl (by first | omega | (simp [mu]; done) | (simp [mu]; omega)) (fun hb82 => by exfalso; first | omega | simp at hb82 | contradiction) (fun hb82 => ?_)
    refine Ev.iload d_Mo_take_85 rfl ?_
    refine Ev.if_le (tgt := 138) d_Mo_take_87 rfl (by first | omega | (simp [mu]; done) | (simp [mu]; omega)) (fun hb87 => ?_) (fun hb87 => by exfalso; first | omega | simp at hb87 | contradiction)
    exact g1
  | cons l2 t ih =>
    intro l m left x6 hc hy hR h0 h1 hlt c
    have hl := hy l List.mem_cons_self
    have hK := (RL_ok hd l hl).1
    have hl2 := hy l2 (List.mem_cons_of_mem _ List.mem_cons_self)
    have hK2 := (RL_ok hd l2 hl2).1
    simp only [chk, Bool.and_eq_true, beq_iff_eq] at hc
    have h6 := hK2.2.1
    have hdd : 0 ≤ d * (d - 1) ∧ d * (d - 1) ≤ 12 := by rcases (show d = 1 ∨ d = 2 ∨ d = 3 ∨ d = 4 by omega) with rfl | rfl | rfl | rfl <;> decide
    obtain ⟨m2, q1, q2, q3⟩ := c_Mo_nextRow hM hd hR (fun x hx => ⟨(hK.2.2.2 x hx).1, (hK.2.2.2 x hx).2.1⟩) hK.2.1
    rw [hc.1, b01_t (by simp)] at q1
    have hR2 := q2 _ hc.1
    have hlx2 : ∀ x ∈ l2, 0 ≤ x ∧ x < 24 := fun x hx => ⟨(hK2.2.2.2 x hx).1, (hK2.2.2.2 x hx).2.1⟩
    by_cases hN : (l.length : Int) = nst d n
    · by_cases hz : left ≤ 0
      · have et : tkL (nst d n) (l :: l2 :: t) left = l := by simp only [tkL]; rw [if_pos hN, if_pos hz]
        rw [et] at c
        obtain ⟨mF, g1, g2⟩ := c m left 1 x6 hR hl (fun _ _ _ => rfl)
        refine ⟨mF, ?_, g2⟩
        rw [b01_t hN]
        refine Ev.iload d_Mo_take_80 rfl ?_
        refine Ev.if_eq (tgt := 90) d_Mo_take_82 rfl (by first | omega | (simp [mu]; done) | (simp [mu]; omega)) (fun hb82 => by exfalso; first | omega | simp at hb82 | contradiction) (fun hb82 => ?_)
        refine Ev.iload d_Mo_take_85 rfl ?_
        refine Ev.if_le (tgt := 138) d_Mo_take_87 rfl (by first | omega | (simp [mu]; done) | (simp [mu]; omega)) (fun hb87 => ?_) (fun hb87 => by exfalso; first | omega | simp at hb87 | contradiction)
        exact g1
      · have et : tkL (nst d n) (l :: l2 :: t) left = tkL (nst d n) (l2 :: t) (left - 1) := by simp only [tkL]; rw [if_pos hN, if_neg hz]
        rw [et] at c
        have ha := (fo1_add (nst d n) (l2 :: t) (0 + 1)).1
        have e2 : fo g1 (nst d n) (l :: l2 :: t) 0 = fo g1 (nst d n) (l2 :: t) (0 + 1) := by
          show fo g1 (nst d n) (l2 :: t) (if (l.length : Int) = nst d n then 0 + g1 l else 0) = _
          rw [if_pos hN]; rfl
        rw [e2, ha] at hlt
        obtain ⟨mF, g1, g2⟩ := ih l2 m2 (left - 1) (some (vi 1)) hc.2 (fun y h => hy y (List.mem_cons_of_mem _ h)) hR2 (by omega) (by omega) (by omega) (fun m' z4 z5 x6 a1 a2 a3 => c m' z4 z5 x6 a1 a2 (q3.tr a3))
        refine ⟨mF, ?_, g2⟩
        rw [b01_t hN]
        refine Ev.iload d_Mo_take_80 rfl ?_
        refine Ev.if_eq (tgt := 90) d_Mo_take_82 rfl (by first | omega | (simp [mu]; done) | (simp [mu]; omega)) (fun hb82 => by exfalso; first | omega | simp at hb82 | contradiction) (fun hb82 => ?_)
        refine Ev.iload d_Mo_take_85 rfl ?_
        refine Ev.if_le (tgt := 138) d_Mo_take_87 rfl (by first | omega | (simp [mu]; done) | (simp [mu]; omega)) (fun hb87 => by exfalso; first | omega | simp at hb87 | contradiction) (fun hb87 => ?_)
        refine Ev.iload d_Mo_take_90 rfl ?_
        refine Ev.iload d_Mo_take_92 rfl ?_
        refine Ev.if_eq (tgt := 101) d_Mo_take_94 rfl (by first | omega | (simp [mu]; done) | (simp [mu]; omega)) (fun hb94 => by exfalso; first | omega | simp at hb94 | contradiction) (fun hb94 => ?_)
        refine Ev.iconst d_Mo_take_97 ?_
        refine Ev.goto (tgt := 102) d_Mo_take_98 rfl ?_
        refine Ev.isub d_Mo_take_102 ?_
        refine Ev.istore_4 d_Mo_take_103 rfl ?_
        refine Ev.aload_n d_Mo_take_105 rfl ?_
        refine Ev.iload_n d_Mo_take_106 rfl ?_
        refine Ev.callV d_Mo_take_107 mt_Mo_nextRow lk_Mo_220 in_Mo_nextRow se_Mo_nextRow rfl (Nat.le_of_ble_eq_true rfl) rfl (Nat.le_of_ble_eq_true rfl) (by decide) (is_57 hM) (by decide) rfl rfl q1 ?_
        refine Ev.istore_6 d_Mo_take_110 rfl ?_
        refine Ev.aload_n d_Mo_take_112 rfl ?_
        refine Ev.callV d_Mo_take_113 mt_Mo_rowMany lk_Mo_212 in_Mo_rowMany se_Mo_rowMany rfl (Nat.le_of_ble_eq_true rfl) rfl (Nat.le_of_ble_eq_true rfl) (by decide) (is_57 hM) (by decide) rfl rfl (c_Mo_rowMany hM hR2 hlx2) ?_
        refine Ev.iload_n d_Mo_take_116 rfl ?_
        refine Ev.iload_n d_Mo_take_117 rfl ?_
        refine Ev.iconst d_Mo_take_118 ?_
        refine Ev.isub d_Mo_take_119 ?_
        refine Ev.imul d_Mo_take_120 ?_
        refine Ev.iconst d_Mo_take_121 ?_
        refine Ev.idiv d_Mo_take_122 (by first | omega | (simp [mu]; done) | (simp [mu]; omega)) (by first | omega | (simp [mu]; done) | (simp [mu]; omega)) ?_
        refine Ev.iload_n d_Mo_take_123 rfl ?_
        refine Ev.isub d_Mo_take_124 ?_
        refine Ev.icmp_ne (tgt := 132) d_Mo_take_125 rfl (by first | omega | (simp [mu]; done) | (simp [mu]; omega)) (by first | omega | (simp [mu]; done) | (simp [mu]; omega)) (fun hb125 => ?_) (fun hb125 => ?_)
        · refine Ev.iconst d_Mo_take_132 ?_
          refine Ev.istore_5 d_Mo_take_133 rfl ?_
          refine Ev.goto (tgt := 80) d_Mo_take_135 rfl ?_
          rw [b01_f (show ¬ (l2.length : Int) = nst d n by unfold nst; omega)] at g1
          exact g1
        · refine Ev.iconst d_Mo_take_128 ?_
          refine Ev.goto (tgt := 133) d_Mo_take_129 rfl ?_
          refine Ev.istore_5 d_Mo_take_133 rfl ?_
          refine Ev.goto (tgt := 80) d_Mo_take_135 rfl ?_
          rw [b01_t (show (l2.length : Int) = nst d n by unfold nst; omega)] at g1
          exact g1
    · have et : tkL (nst d n) (l :: l2 :: t) left = tkL (nst d n) (l2 :: t) left := by
        show (if (l.length : Int) = nst d n then (if left ≤ 0 then l else tkL (nst d n) (l2 :: t) (left - 1)) else tkL (nst d n) (l2 :: t) left) = _
        rw [if_neg hN]
      rw [et] at c
      have e2 : fo g1 (nst d n) (l :: l2 :: t) 0 = fo g1 (nst d n) (l2 :: t) 0 := by
        show fo g1 (nst d n) (l2 :: t) (if (l.length : Int) = nst d n then 0 + g1 l else 0) = _
        rw [if_neg hN]
      rw [e2] at hlt
      obtain ⟨mF, g1, g2⟩ := ih l2 m2 left (some (vi 1)) hc.2 (fun y h => hy y (List.mem_cons_of_mem _ h)) hR2 (by omega) (by omega) (by omega) (fun m' z4 z5 x6 a1 a2 a3 => c m' z4 z5 x6 a1 a2 (q3.tr a3))
      refine ⟨mF, ?_, g2⟩
      rw [b01_f hN]
      refine Ev.iload d_Mo_take_80 rfl ?_
      refine Ev.if_eq (tgt := 90) d_Mo_take_82 rfl (by first | omega | (simp [mu]; done) | (simp [mu]; omega)) (fun hb82 => ?_) (fun hb82 => by exfalso; first | omega | simp at hb82 | contradiction)
      refine Ev.iload d_Mo_take_90 rfl ?_
      refine Ev.iload d_Mo_take_92 rfl ?_
      refine Ev.if_eq (tgt := 101) d_Mo_take_94 rfl (by first | omega | (simp [mu]; done) | (simp [mu]; omega)) (fun hb94 => ?_) (fun hb94 => by exfalso; first | omega | simp at hb94 | contradiction)
      refine Ev.iconst d_Mo_take_101 ?_
      refine Ev.isub d_Mo_take_102 ?_
      refine Ev.istore_4 d_Mo_take_103 rfl ?_
      refine Ev.aload_n d_Mo_take_105 rfl ?_
      refine Ev.iload_n d_Mo_take_106 rfl ?_
      refine Ev.callV d_Mo_take_107 mt_Mo_nextRow lk_Mo_220 in_Mo_nextRow se_Mo_nextRow rfl (Nat.le_of_ble_eq_true rfl) rfl (Nat.le_of_ble_eq_true rfl) (by decide) (is_57 hM) (by decide) rfl rfl q1 ?_
      refine Ev.istore_6 d_Mo_take_110 rfl ?_
      refine Ev.aload_n d_Mo_take_112 rfl ?_
      refine Ev.callV d_Mo_take_113 mt_Mo_rowMany lk_Mo_212 in_Mo_rowMany se_Mo_rowMany rfl (Nat.le_of_ble_eq_true rfl) rfl (Nat.le_of_ble_eq_true rfl) (by decide) (is_57 hM) (by decide) rfl rfl (c_Mo_rowMany hM hR2 hlx2) ?_
      refine Ev.iload_n d_Mo_take_116 rfl ?_
      refine Ev.iload_n d_Mo_take_117 rfl ?_
      refine Ev.iconst d_Mo_take_118 ?_
      refine Ev.isub d_Mo_take_119 ?_
      refine Ev.imul d_Mo_take_120 ?_
      refine Ev.iconst d_Mo_take_121 ?_
      refine Ev.idiv d_Mo_take_122 (by first | omega | (simp [mu]; done) | (simp [mu]; omega)) (by first | omega | (simp [mu]; done) | (simp [mu]; omega)) ?_
      refine Ev.iload_n d_Mo_take_123 rfl ?_
      refine Ev.isub d_Mo_take_124 ?_
      refine Ev.icmp_ne (tgt := 132) d_Mo_take_125 rfl (by first | omega | (simp [mu]; done) | (simp [mu]; omega)) (by first | omega | (simp [mu]; done) | (simp [mu]; omega)) (fun hb125 => ?_) (fun hb125 => ?_)
      · refine Ev.iconst d_Mo_take_132 ?_
        refine Ev.istore_5 d_Mo_take_133 rfl ?_
        refine Ev.goto (tgt := 80) d_Mo_take_135 rfl ?_
        rw [b01_f (show ¬ (l2.length : Int) = nst d n by unfold nst; omega)] at g1
        rw [show left - 0 = left by omega]
        exact g1
      · refine Ev.iconst d_Mo_take_128 ?_
        refine Ev.goto (tgt := 133) d_Mo_take_129 rfl ?_
        refine Ev.istore_5 d_Mo_take_133 rfl ?_
        refine Ev.goto (tgt := 80) d_Mo_take_135 rfl ?_
        rw [b01_t (show (l2.length : Int) = nst d n by unfold nst; omega)] at g1
        rw [show left - 0 = left by omega]
        exact g1
def FrE (m m' : Mm) : Prop := ∀ a i : Int, ¬ (a = 57 ∧ (i = 0 ∨ i = 8 ∨ i = 13)) → (a < 58 ∨ 75 < a) → m' a i = m a i
theorem FrG.E {m m' : Mm} (h : FrG m m') : FrE m m' := fun a i x y => h a i (by omega) (by omega) (by omega) (by omega)
theorem FrE.tr {m m1 m2 : Mm} (h : FrE m m1) (h2 : FrE m1 m2) : FrE m m2 := fun a i x y => (h2 a i x y).trans (h a i x y)
theorem MF_fr {m' : Mm} (h : MF m) (e : ∀ a i : Int, 71 ≤ a → a ≤ 75 → m' a i = m a i) : MF m' := fun d n hd hn => by
  rcases h d n hd hn with ⟨a1, a2⟩ | ⟨a1, a2⟩
  · exact Or.inl ⟨by rw [e 71 _ (by decide) (by decide)]; exact a1, ⟨by rw [e 72 _ (by decide) (by decide)]; exact a2.1, by rw [e 73 _ (by decide) (by decide)]; exact a2.2.1, by rw [e 74 _ (by decide) (by decide)]; exact a2.2.2.1, fun k x y => by rw [e 75 _ (by decide) (by decide)]; exact a2.2.2.2 k x y⟩⟩
  · exact Or.inr ⟨by rw [e 71 _ (by decide) (by decide)]; exact a1, ⟨by rw [e 72 _ (by decide) (by decide)]; exact a2.1, by rw [e 73 _ (by decide) (by decide)]; exact a2.2.1, by rw [e 74 _ (by decide) (by decide)]; exact a2.2.2.1, fun k x y => by rw [e 75 _ (by decide) (by decide)]; exact a2.2.2.2 k x y⟩⟩
theorem MS_row {m' : Mm} {S : PS} (h : MS m S) (e : Fr70 m m') : MS m' S :=
  ⟨h.1, (e 57 0 (by decide)).trans h.2.1, fun p h1 h2 => ⟨PM_fr (h.2.2 p h1 h2).1 (fun a i _ _ => e a i (by omega)), (h.2.2 p h1 h2).2⟩⟩
theorem LN_b {d n : Int} (hd : 1 ≤ d ∧ d ≤ 4) (hn : 0 ≤ n ∧ n ≤ 6) : 0 ≤ LN d n ∧ LN d n ≤ 100 := by
  have : ∀ d : Nat, d < 5 → ∀ n : Nat, n < 7 → 0 ≤ LN d n ∧ LN d n ≤ 100 := by decide +kernel
  obtain ⟨a, rfl⟩ := Int.eq_ofNat_of_zero_le (show 0 ≤ d by omega)
  obtain ⟨b, rfl⟩ := Int.eq_ofNat_of_zero_le hn.1
  exact this a (by omega) b (by omega)
theorem c_Mo_take (hM : MoS σ) (hV : RMV) (hF : MF m) {S : PS} (hS : MS m S) {d n i : Int} (h1 : -2147483648 ≤ d ∧ d ≤ 2147483647) (h2 : -2147483648 ≤ n ∧ n ≤ 2147483647) (h3 : -2147483648 ≤ i ∧ i ≤ 2147483647) : ∃ m', Call 7 m_Mo_take [vr 57, vi d, vi n, vi i] σ m (some (vi (sp_take S d n i))) σ m' ∧ MS m' (st_take S d n i) ∧ MF m' ∧ FrE m m' := by
  have hS1 := hS.1
  by_cases hk : ((1 ≤ d ∧ d ≤ 4 ∧ 0 ≤ n ∧ n ≤ 6)) ∧ 0 ≤ i
  · obtain ⟨m1, q1, f1, f2, f3⟩ := c_Mo_find hM hV hF (d := d) (n := n) (by omega) (by omega)
    have hS' := f3.MS hS
    have e74 := f1.2.2.1
    have eN := hS'.2.1
    have hLb := LN_b (d := d) (n := n) (by omega) (by omega)
    by_cases hL : LN d n ≤ i
    · refine ⟨m1, ?_, by rw [st_take, if_neg (by omega)]; exact hS', f2, f3.E⟩
      rw [sp_take, if_pos hk, if_pos hL]
      show Ev 7 m_Mo_take 0 [some (vr 57), some (vi d), some (vi n), some (vi i), none, none, none] [] σ m _ σ _
      refine Ev.iload_n d_Mo_take_0 rfl ?_
      refine Ev.iload_n d_Mo_take_1 rfl ?_
      refine Ev.callS d_Mo_take_2 mt_Mo_areKnots lk_Mo_223 st_Mo_areKnots rfl (Nat.le_of_ble_eq_true rfl) rfl (Nat.le_of_ble_eq_true rfl) (by decide) rfl (c_Mo_areKnots (by omega) (by omega)) ?_
      refine Ev.if_eq (tgt := 12) d_Mo_take_5 rfl b01_b (fun hb5 => by exfalso; (first | rw [b01_ne] at hb5 | rw [b01_eq] at hb5); omega) (fun hb5 => ?_)
      rw [b01_ne] at hb5
      refine Ev.iload_n d_Mo_take_8 rfl ?_
      refine Ev.if_ge (tgt := 14) d_Mo_take_9 rfl (by first | omega | (simp [mu]; done) | (simp [mu]; omega)) (fun hb9 => ?_) (fun hb9 => by exfalso; first | omega | simp at hb9 | contradiction)
      refine Ev.aload_n d_Mo_take_14 rfl ?_
      refine Ev.iload_n d_Mo_take_15 rfl ?_
      refine Ev.iload_n d_Mo_take_16 rfl ?_
      refine Ev.callVv d_Mo_take_17 mt_Mo_find lk_Mo_227 in_Mo_find se_Mo_find rfl (Nat.le_of_ble_eq_true rfl) rfl (Nat.le_of_ble_eq_true rfl) (by decide) (is_57 hM) (by decide) rfl rfl q1 ?_
      refine Ev.iload_n d_Mo_take_20 rfl ?_
      refine Ev.aload_n d_Mo_take_21 rfl ?_
      refine Ev.gr 19 d_Mo_take_22 lf_Mo_61 rfl rfl (is_57 hM) (by decide) (rf_57_19 hM) ?_
      refine Ev.bipush d_Mo_take_25 rfl ?_
      refine Ev.iload_n d_Mo_take_27 rfl ?_
      refine Ev.imul d_Mo_take_28 ?_
      refine Ev.iload_n d_Mo_take_29 rfl ?_
      refine Ev.iadd d_Mo_take_30 ?_
      refine Ev.iaload d_Mo_take_31 (is_74 hM) (by omega) ?_
      refine Ev.icmp_lt (tgt := 38) d_Mo_take_32 rfl (by first | omega | (simp [mu]; done) | (simp [mu]; omega)) (by first | omega | (simp [mu]; done) | (simp [mu]; omega)) (fun hb32 => by exfalso; first | omega | simp at hb32 | contradiction) (fun hb32 => ?_)
      refine Ev.bipush d_Mo_take_35 rfl ?_
      exact Ev.to (Ev.ireturn d_Mo_take_37 rfl) rfl rfl
    · by_cases h8 : S.1 = 8
      · refine ⟨m1, ?_, by rw [st_take, if_neg (by omega)]; exact hS', f2, f3.E⟩
        rw [sp_take, if_pos hk, if_neg hL, if_pos h8]
        show Ev 7 m_Mo_take 0 [some (vr 57), some (vi d), some (vi n), some (vi i), none, none, none] [] σ m _ σ _
        refine Ev.iload_n d_Mo_take_0 rfl ?_
        refine Ev.iload_n d_Mo_take_1 rfl ?_
        refine Ev.callS d_Mo_take_2 mt_Mo_areKnots lk_Mo_223 st_Mo_areKnots rfl (Nat.le_of_ble_eq_true rfl) rfl (Nat.le_of_ble_eq_true rfl) (by decide) rfl (c_Mo_areKnots (by omega) (by omega)) ?_
        refine Ev.if_eq (tgt := 12) d_Mo_take_5 rfl b01_b (fun hb5 => by exfalso; (first | rw [b01_ne] at hb5 | rw [b01_eq] at hb5); omega) (fun hb5 => ?_)
        rw [b01_ne] at hb5
        refine Ev.iload_n d_Mo_take_8 rfl ?_
        refine Ev.if_ge (tgt := 14) d_Mo_take_9 rfl (by first | omega | (simp [mu]; done) | (simp [mu]; omega)) (fun hb9 => ?_) (fun hb9 => by exfalso; first | omega | simp at hb9 | contradiction)
        refine Ev.aload_n d_Mo_take_14 rfl ?_
        refine Ev.iload_n d_Mo_take_15 rfl ?_
        refine Ev.iload_n d_Mo_take_16 rfl ?_
        refine Ev.callVv d_Mo_take_17 mt_Mo_find lk_Mo_227 in_Mo_find se_Mo_find rfl (Nat.le_of_ble_eq_true rfl) rfl (Nat.le_of_ble_eq_true rfl) (by decide) (is_57 hM) (by decide) rfl rfl q1 ?_
        refine Ev.iload_n d_Mo_take_20 rfl ?_
        refine Ev.aload_n d_Mo_take_21 rfl ?_
        refine Ev.gr 19 d_Mo_take_22 lf_Mo_61 rfl rfl (is_57 hM) (by decide) (rf_57_19 hM) ?_
        refine Ev.bipush d_Mo_take_25 rfl ?_
        refine Ev.iload_n d_Mo_take_27 rfl ?_
        refine Ev.imul d_Mo_take_28 ?_
        refine Ev.iload_n d_Mo_take_29 rfl ?_
        refine Ev.iadd d_Mo_take_30 ?_
        refine Ev.iaload d_Mo_take_31 (is_74 hM) (by omega) ?_
        refine Ev.icmp_lt (tgt := 38) d_Mo_take_32 rfl (by first | omega | (simp [mu]; done) | (simp [mu]; omega)) (by first | omega | (simp [mu]; done) | (simp [mu]; omega)) (fun hb32 => ?_) (fun hb32 => by exfalso; first | omega | simp at hb32 | contradiction)
        refine Ev.aload_n d_Mo_take_38 rfl ?_
        refine Ev.gf 0 d_Mo_take_39 lf_Mo_103 rfl rfl (is_57 hM) (by decide) ?_
        refine Ev.bipush d_Mo_take_42 rfl ?_
        refine Ev.icmp_ne (tgt := 50) d_Mo_take_44 rfl (by first | omega | (simp [mu]; done) | (simp [mu]; omega)) (by first | omega | (simp [mu]; done) | (simp [mu]; omega)) (fun hb44 => by exfalso; first | omega | simp at hb44 | contradiction) (fun hb44 => ?_)
        refine Ev.bipush d_Mo_take_47 rfl ?_
        exact Ev.to (Ev.ireturn d_Mo_take_49 rfl) rfl rfl
      · have hst : st_take S d n i = st_new S d (tkL (nst d n) (RL d) i) := if_pos ⟨hk.1, hk.2, by omega, h8⟩
        have hsp : sp_take S d n i = S.1 := by rw [sp_take, if_pos hk, if_neg hL, if_neg h8]
        rw [hst, hsp]
        obtain ⟨m2, g1, g2, g3⟩ := c_Mo_clearRow (m := m1) hM
        obtain ⟨t, ht⟩ := RL_hd (d := d) (by omega)
        have hdd : 0 ≤ d * (d - 1) ∧ d * (d - 1) ≤ 12 := by rcases (show d = 1 ∨ d = 2 ∨ d = 3 ∨ d = 4 by omega) with rfl | rfl | rfl | rfl <;> decide
        have e0 : m2 57 0 = S.1 := (g3 57 0 (by decide)).trans eN
        have key := lp_Mo_take (σ := σ) (i := i) (r := some (vi S.1)) (Post := fun mF => MS mF (st_new S d (tkL (nst d n) (RL d) i)) ∧ MF mF ∧ FrE m mF) hM (d := d) (n := n) (by omega) (by omega) t [] m2 i none (by rw [← ht]; exact RL_chk (by omega)) (by rw [← ht]; exact fun y h => h) g2 (by omega) (by omega) (by rw [← ht]; exact Int.not_le.mp hL) (fun m' z4 z5 x6 a1 a2 a3 => by
          rw [← ht] at a1 a2
          have hK := (RL_ok (by omega) _ a2).1
          obtain ⟨m4, b1, b2, b3⟩ := c_Mo_layRow hM (p := S.1) (by omega) hK a1
          have e0' : m' 57 0 = S.1 := (a3 57 0 (by decide)).trans e0
          have e04 : m4 57 0 = S.1 := (b3.1 57 0 (by decide)).trans e0'
          have hS2 := MS_row (MS_row hS' g3) a3
          refine ⟨mu m4 57 0 (S.1 + 1), ?_, MS_new hS2 (by omega) ?_ hK mu_s (fun q hq => ⟨(mu_a (by decide)).trans (b3.2.1 q hq).1, (mu_a (by decide)).trans (b3.2.1 q hq).2⟩) (fun a j ha hj => (mu_a (by omega)).trans (b3.2.2 a j ha (by omega))), MF_fr f2 (fun a i x y => ?_), fun a i x y => ?_⟩
          · rw [← e0'] at b1
            refine Ev.aload_n d_Mo_take_138 rfl ?_
            refine Ev.iload_n d_Mo_take_139 rfl ?_
            refine Ev.aload_n d_Mo_take_140 rfl ?_
            refine Ev.gf 0 d_Mo_take_141 lf_Mo_103 rfl rfl (is_57 hM) (by decide) ?_
            refine Ev.callVv d_Mo_take_144 mt_Mo_layRow lk_Mo_216 in_Mo_layRow se_Mo_layRow rfl (Nat.le_of_ble_eq_true rfl) rfl (Nat.le_of_ble_eq_true rfl) (by decide) (is_57 hM) (by decide) rfl rfl b1 ?_
            refine Ev.aload_n d_Mo_take_147 rfl ?_
            refine Ev.dup d_Mo_take_148 rfl ?_
            refine Ev.gf 0 d_Mo_take_149 lf_Mo_103 rfl rfl (is_57 hM) (by decide) ?_
            refine Ev.iconst d_Mo_take_152 ?_
            refine Ev.iadd d_Mo_take_153 ?_
            rw [e04]
            refine Ev.pf 0 d_Mo_take_154 lf_Mo_103 rfl rfl rfl rfl (is_57 hM) (by decide) ?_
            refine Ev.aload_n d_Mo_take_157 rfl ?_
            refine Ev.gf 0 d_Mo_take_158 lf_Mo_103 rfl rfl (is_57 hM) (by decide) ?_
            refine Ev.iconst d_Mo_take_161 ?_
            refine Ev.isub d_Mo_take_162 ?_
            exact Ev.to (Ev.ireturn d_Mo_take_163 rfl) (ri (by rw [mu_s]; omega)) rfl
          · exact ⟨(mu_a (by decide)).trans b2.1, (mu_a (by decide)).trans b2.2.1, At_eq (fun j _ _ => ⟨mu_a (by decide), mu_a (by decide), mu_a (by decide)⟩) b2.2.2⟩
          · rw [mu_a (by omega), b3.1 a i (by omega), a3 a i (by omega), g3 a i (by omega)]
          · rw [mu_n (by omega), b3.1 a i (by omega), a3 a i (by omega), g3 a i (by omega)]; exact f3.E a i x y)
        obtain ⟨mF, k1, k2⟩ := key
        refine ⟨mF, ?_, k2⟩
        show Ev 7 m_Mo_take 0 [some (vr 57), some (vi d), some (vi n), some (vi i), none, none, none] [] σ m _ σ _
        refine Ev.iload_n d_Mo_take_0 rfl ?_
        refine Ev.iload_n d_Mo_take_1 rfl ?_
        refine Ev.callS d_Mo_take_2 mt_Mo_areKnots lk_Mo_223 st_Mo_areKnots rfl (Nat.le_of_ble_eq_true rfl) rfl (Nat.le_of_ble_eq_true rfl) (by decide) rfl (c_Mo_areKnots (by omega) (by omega)) ?_
        refine Ev.if_eq (tgt := 12) d_Mo_take_5 rfl b01_b (fun hb5 => by exfalso; (first | rw [b01_ne] at hb5 | rw [b01_eq] at hb5); omega) (fun hb5 => ?_)
        rw [b01_ne] at hb5
        refine Ev.iload_n d_Mo_take_8 rfl ?_
        refine Ev.if_ge (tgt := 14) d_Mo_take_9 rfl (by first | omega | (simp [mu]; done) | (simp [mu]; omega)) (fun hb9 => ?_) (fun hb9 => by exfalso; first | omega | simp at hb9 | contradiction)
        refine Ev.aload_n d_Mo_take_14 rfl ?_
        refine Ev.iload_n d_Mo_take_15 rfl ?_
        refine Ev.iload_n d_Mo_take_16 rfl ?_
        refine Ev.callVv d_Mo_take_17 mt_Mo_find lk_Mo_227 in_Mo_find se_Mo_find rfl (Nat.le_of_ble_eq_true rfl) rfl (Nat.le_of_ble_eq_true rfl) (by decide) (is_57 hM) (by decide) rfl rfl q1 ?_
        refine Ev.iload_n d_Mo_take_20 rfl ?_
        refine Ev.aload_n d_Mo_take_21 rfl ?_
        refine Ev.gr 19 d_Mo_take_22 lf_Mo_61 rfl rfl (is_57 hM) (by decide) (rf_57_19 hM) ?_
        refine Ev.bipush d_Mo_take_25 rfl ?_
        refine Ev.iload_n d_Mo_take_27 rfl ?_
        refine Ev.imul d_Mo_take_28 ?_
        refine Ev.iload_n d_Mo_take_29 rfl ?_
        refine Ev.iadd d_Mo_take_30 ?_
        refine Ev.iaload d_Mo_take_31 (is_74 hM) (by omega) ?_
        refine Ev.icmp_lt (tgt := 38) d_Mo_take_32 rfl (by first | omega | (simp [mu]; done) | (simp [mu]; omega)) (by first | omega | (simp [mu]; done) | (simp [mu]; omega)) (fun hb32 => ?_) (fun hb32 => by exfalso; first | omega | simp at hb32 | contradiction)
        refine Ev.aload_n d_Mo_take_38 rfl ?_
        refine Ev.gf 0 d_Mo_take_39 lf_Mo_103 rfl rfl (is_57 hM) (by decide) ?_
        refine Ev.bipush d_Mo_take_42 rfl ?_
        refine Ev.icmp_ne (tgt := 50) d_Mo_take_44 rfl (by first | omega | (simp [mu]; done) | (simp [mu]; omega)) (by first | omega | (simp [mu]; done) | (simp [mu]; omega)) (fun hb44 => ?_) (fun hb44 => by exfalso; first | omega | simp at hb44 | contradiction)
        refine Ev.aload_n d_Mo_take_50 rfl ?_
        refine Ev.callVv d_Mo_take_51 mt_Mo_clearRow lk_Mo_209 in_Mo_clearRow se_Mo_clearRow rfl (Nat.le_of_ble_eq_true rfl) rfl (Nat.le_of_ble_eq_true rfl) (by decide) (is_57 hM) (by decide) rfl rfl g1 ?_
        refine Ev.iload_n d_Mo_take_54 rfl ?_
        refine Ev.istore_4 d_Mo_take_55 rfl ?_
        refine Ev.aload_n d_Mo_take_57 rfl ?_
        refine Ev.callV d_Mo_take_58 mt_Mo_rowMany lk_Mo_212 in_Mo_rowMany se_Mo_rowMany rfl (Nat.le_of_ble_eq_true rfl) rfl (Nat.le_of_ble_eq_true rfl) (by decide) (is_57 hM) (by decide) rfl rfl (c_Mo_rowMany hM g2 (fun x hx => by simp at hx)) ?_
        simp only [List.length_nil]
        refine Ev.iload_n d_Mo_take_61 rfl ?_
        refine Ev.iload_n d_Mo_take_62 rfl ?_
        refine Ev.iconst d_Mo_take_63 ?_
        refine Ev.isub d_Mo_take_64 ?_
        refine Ev.imul d_Mo_take_65 ?_
        refine Ev.iconst d_Mo_take_66 ?_
        refine Ev.idiv d_Mo_take_67 (by first | omega | (simp [mu]; done) | (simp [mu]; omega)) (by first | omega | (simp [mu]; done) | (simp [mu]; omega)) ?_
        refine Ev.iload_n d_Mo_take_68 rfl ?_
        refine Ev.isub d_Mo_take_69 ?_
        refine Ev.icmp_ne (tgt := 77) d_Mo_take_70 rfl (by first | omega | (simp [mu]; done) | (simp [mu]; omega)) (by first | omega | (simp [mu]; done) | (simp [mu]; omega)) (fun hb70 => ?_) (fun hb70 => ?_)
        · refine Ev.iconst d_Mo_take_77 ?_
          refine Ev.istore_5 d_Mo_take_78 rfl ?_
          rw [b01_f (show ¬ ((([] : List Int).length : Nat) : Int) = nst d n by unfold nst; simp only [List.length_nil] at *; omega)] at k1
          exact k1
        · refine Ev.iconst d_Mo_take_73 ?_
          refine Ev.goto (tgt := 78) d_Mo_take_74 rfl ?_
          refine Ev.istore_5 d_Mo_take_78 rfl ?_
          rw [b01_t (show ((([] : List Int).length : Nat) : Int) = nst d n by unfold nst; simp only [List.length_nil] at *; omega)] at k1
          exact k1
  · refine ⟨m, ?_, by rw [st_take, if_neg (by omega)]; exact hS, hF, fun _ _ _ _ => rfl⟩
    rw [sp_take, if_neg hk]
    show Ev 7 m_Mo_take 0 [some (vr 57), some (vi d), some (vi n), some (vi i), none, none, none] [] σ m _ σ _
    refine Ev.iload_n d_Mo_take_0 rfl ?_
    refine Ev.iload_n d_Mo_take_1 rfl ?_
    refine Ev.callS d_Mo_take_2 mt_Mo_areKnots lk_Mo_223 st_Mo_areKnots rfl (Nat.le_of_ble_eq_true rfl) rfl (Nat.le_of_ble_eq_true rfl) (by decide) rfl (c_Mo_areKnots (by omega) (by omega)) ?_
    refine Ev.if_eq (tgt := 12) d_Mo_take_5 rfl b01_b (fun hb5 => ?_) (fun hb5 => ?_)
    · rw [b01_eq] at hb5
      refine Ev.iconst d_Mo_take_12 ?_
      exact Ev.to (Ev.ireturn d_Mo_take_13 rfl) rfl rfl
    · rw [b01_ne] at hb5
      refine Ev.iload_n d_Mo_take_8 rfl ?_
      refine Ev.if_ge (tgt := 14) d_Mo_take_9 rfl (by first | omega | (simp [mu]; done) | (simp [mu]; omega)) (fun hb9 => ?_) (fun hb9 => ?_)
      · exfalso; omega
      · refine Ev.iconst d_Mo_take_12 ?_
        exact Ev.to (Ev.ireturn d_Mo_take_13 rfl) rfl rfl
end
