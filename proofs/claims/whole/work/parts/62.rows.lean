/-! rows in one number, choices, rationals, the tape -/
section
variable {σ : Sg} {m : Mm}
def o8 (l k : Int) : Int := 2 ^ (3 * (l * 5 + k - 1)).toNat
def am (r l k : Int) : Int := r / 2 ^ (3 * (l * 5 + k - 1)).toNat % 2 ^ 3
theorem am_b (r l k : Int) : 0 ≤ am r l k ∧ am r l k ≤ 7 := by unfold am; omega
theorem c_Rows_one {l k : Int} (hl : 0 ≤ l ∧ l ≤ 1) (hk : 1 ≤ k ∧ k ≤ 5) : Call 1 m_Rows_one [vi l, vi k] σ m (some (vi (o8 l k))) σ m := by
  show Ev 1 m_Rows_one 0 [some (vi l), some (vi k)] [] σ m _ σ m
  refine Ev.iconst d_Rows_one_0 ?_
  refine Ev.iconst d_Rows_one_1 ?_
  refine Ev.iload_n d_Rows_one_2 rfl ?_
  refine Ev.iconst d_Rows_one_3 ?_
  refine Ev.imul d_Rows_one_4 ?_
  refine Ev.iload_n d_Rows_one_5 rfl ?_
  refine Ev.iadd d_Rows_one_6 ?_
  refine Ev.iconst d_Rows_one_7 ?_
  refine Ev.isub d_Rows_one_8 ?_
  refine Ev.imul d_Rows_one_9 ?_
  refine Ev.ishl d_Rows_one_10 (by first | omega | (simp [mu]; done) | (simp [mu]; omega)) ?_
  exact Ev.to (Ev.ireturn d_Rows_one_11 rfl) (ri (by unfold o8; rw [Int.one_mul])) rfl
theorem c_Rows_amount {r l k : Int} (hr : -2147483648 ≤ r ∧ r ≤ 2147483647) (hl : 0 ≤ l ∧ l ≤ 1) (hk : 1 ≤ k ∧ k ≤ 5) : Call 1 m_Rows_amount [vi r, vi l, vi k] σ m (some (vi (am r l k))) σ m := by
  show Ev 1 m_Rows_amount 0 [some (vi r), some (vi l), some (vi k)] [] σ m _ σ m
  refine Ev.iload_n d_Rows_amount_0 rfl ?_
  refine Ev.iconst d_Rows_amount_1 ?_
  refine Ev.iload_n d_Rows_amount_2 rfl ?_
  refine Ev.iconst d_Rows_amount_3 ?_
  refine Ev.imul d_Rows_amount_4 ?_
  refine Ev.iload_n d_Rows_amount_5 rfl ?_
  refine Ev.iadd d_Rows_amount_6 ?_
  refine Ev.iconst d_Rows_amount_7 ?_
  refine Ev.isub d_Rows_amount_8 ?_
  refine Ev.imul d_Rows_amount_9 ?_
  refine Ev.ishr d_Rows_amount_10 (by first | omega | (simp [mu]; done) | (simp [mu]; omega)) (by first | omega | (simp [mu]; done) | (simp [mu]; omega)) ?_
  refine Ev.bipush d_Rows_amount_11 rfl ?_
  refine Ev.iandm 3 d_Rows_amount_13 (by decide) rfl ?_
  exact Ev.to (Ev.ireturn d_Rows_amount_14 rfl) rfl rfl
def dgS (r : Int) : Nat → Int → Int → Int
  | 0, _, s => s
  | q + 1, k, s => dgS r q (k + 1) (s + k * (am r 0 k + am r 1 k))
def dgR (r : Int) : Int := dgS r 5 1 0
theorem lp_Rows_degreeOf {r : Int} (hr : -2147483648 ≤ r ∧ r ≤ 2147483647) : ∀ (q : Nat) (k s : Int), k + q = 6 → 1 ≤ k → Ev 2 m_Rows_degreeOf 4 [some (vi r), some (vi s), some (vi k)] [] σ m (some (vi (dgS r q k s))) σ m
  | 0, k, s, hk, h1 => by
    simp only [dgS]
    refine Ev.iload_n d_Rows_degreeOf_4 rfl ?_
    refine Ev.iconst d_Rows_degreeOf_5 ?_
    refine Ev.icmp_gt (tgt := 33) d_Rows_degreeOf_6 rfl (by first | omega | (simp [mu]; done) | (simp [mu]; omega)) (by first | omega | (simp [mu]; done) | (simp [mu]; omega)) (fun hb6 => ?_) (fun hb6 => by exfalso; first | omega | simp at hb6 | contradiction)
    refine Ev.iload_n d_Rows_degreeOf_33 rfl ?_
    exact Ev.to (Ev.ireturn d_Rows_degreeOf_34 rfl) rfl rfl
  | q + 1, k, s, hk, h1 => by
    simp only [dgS]
    refine Ev.iload_n d_Rows_degreeOf_4 rfl ?_
    refine Ev.iconst d_Rows_degreeOf_5 ?_
    refine Ev.icmp_gt (tgt := 33) d_Rows_degreeOf_6 rfl (by first | omega | (simp [mu]; done) | (simp [mu]; omega)) (by first | omega | (simp [mu]; done) | (simp [mu]; omega)) (fun hb6 => by exfalso; first | omega | simp at hb6 | contradiction) (fun hb6 => ?_)
    refine Ev.iload_n d_Rows_degreeOf_9 rfl ?_
    refine Ev.iload_n d_Rows_degreeOf_10 rfl ?_
    refine Ev.iload_n d_Rows_degreeOf_11 rfl ?_
    refine Ev.iconst d_Rows_degreeOf_12 ?_
    refine Ev.iload_n d_Rows_degreeOf_13 rfl ?_
    refine Ev.callS d_Rows_degreeOf_14 mt_Rows_amount lk_Rows_19 st_Rows_amount rfl (Nat.le_of_ble_eq_true rfl) rfl (Nat.le_of_ble_eq_true rfl) (by decide) rfl (c_Rows_amount hr (by decide) (by omega)) ?_
    refine Ev.iload_n d_Rows_degreeOf_17 rfl ?_
    refine Ev.iconst d_Rows_degreeOf_18 ?_
    refine Ev.iload_n d_Rows_degreeOf_19 rfl ?_
    refine Ev.callS d_Rows_degreeOf_20 mt_Rows_amount lk_Rows_19 st_Rows_amount rfl (Nat.le_of_ble_eq_true rfl) rfl (Nat.le_of_ble_eq_true rfl) (by decide) rfl (c_Rows_amount hr (by decide) (by omega)) ?_
    refine Ev.iadd d_Rows_degreeOf_23 ?_
    refine Ev.imul d_Rows_degreeOf_24 ?_
    refine Ev.iadd d_Rows_degreeOf_25 ?_
    refine Ev.istore_1 d_Rows_degreeOf_26 rfl ?_
    refine Ev.iinc_2 d_Rows_degreeOf_27 rfl ?_
    refine Ev.goto (tgt := 4) d_Rows_degreeOf_30 rfl ?_
    exact lp_Rows_degreeOf hr q (k + 1) _ (by omega) (by omega)
theorem c_Rows_degreeOf {r : Int} (hr : -2147483648 ≤ r ∧ r ≤ 2147483647) : Call 2 m_Rows_degreeOf [vi r] σ m (some (vi (dgR r))) σ m := by
  show Ev 2 m_Rows_degreeOf 0 [some (vi r), none, none] [] σ m _ σ m
  refine Ev.iconst d_Rows_degreeOf_0 ?_
  refine Ev.istore_1 d_Rows_degreeOf_1 rfl ?_
  refine Ev.iconst d_Rows_degreeOf_2 ?_
  refine Ev.istore_2 d_Rows_degreeOf_3 rfl ?_
  exact lp_Rows_degreeOf hr 5 1 0 rfl (by decide)
def mbS (x p : Int) : Nat → Int → Int → Int
  | 0, _, s => s
  | q + 1, k, s => mbS x p q (k + 1) (s + (am p 1 k - am x 1 k))
def mbR (x p : Int) : Int := mbS x p 5 1 0
theorem lp_Rows_moreB {x p : Int} (hx : -2147483648 ≤ x ∧ x ≤ 2147483647) (hp : -2147483648 ≤ p ∧ p ≤ 2147483647) : ∀ (q : Nat) (k s : Int), k + q = 6 → 1 ≤ k → Ev 2 m_Rows_moreB 4 [some (vi x), some (vi p), some (vi s), some (vi k)] [] σ m (some (vi (mbS x p q k s))) σ m
  | 0, k, s, hk, h1 => by
    simp only [mbS]
    refine Ev.iload_n d_Rows_moreB_4 rfl ?_
    refine Ev.iconst d_Rows_moreB_5 ?_
    refine Ev.icmp_gt (tgt := 31) d_Rows_moreB_6 rfl (by first | omega | (simp [mu]; done) | (simp [mu]; omega)) (by first | omega | (simp [mu]; done) | (simp [mu]; omega)) (fun hb6 => ?_) (fun hb6 => by exfalso; first | omega | simp at hb6 | contradiction)
    refine Ev.iload_n d_Rows_moreB_31 rfl ?_
    exact Ev.to (Ev.ireturn d_Rows_moreB_32 rfl) rfl rfl
  | q + 1, k, s, hk, h1 => by
    simp only [mbS]
    refine Ev.iload_n d_Rows_moreB_4 rfl ?_
    refine Ev.iconst d_Rows_moreB_5 ?_
    refine Ev.icmp_gt (tgt := 31) d_Rows_moreB_6 rfl (by first | omega | (simp [mu]; done) | (simp [mu]; omega)) (by first | omega | (simp [mu]; done) | (simp [mu]; omega)) (fun hb6 => by exfalso; first | omega | simp at hb6 | contradiction) (fun hb6 => ?_)
    refine Ev.iload_n d_Rows_moreB_9 rfl ?_
    refine Ev.iload_n d_Rows_moreB_10 rfl ?_
    refine Ev.iconst d_Rows_moreB_11 ?_
    refine Ev.iload_n d_Rows_moreB_12 rfl ?_
    refine Ev.callS d_Rows_moreB_13 mt_Rows_amount lk_Rows_19 st_Rows_amount rfl (Nat.le_of_ble_eq_true rfl) rfl (Nat.le_of_ble_eq_true rfl) (by decide) rfl (c_Rows_amount hp (by decide) (by omega)) ?_
    refine Ev.iload_n d_Rows_moreB_16 rfl ?_
    refine Ev.iconst d_Rows_moreB_17 ?_
    refine Ev.iload_n d_Rows_moreB_18 rfl ?_
    refine Ev.callS d_Rows_moreB_19 mt_Rows_amount lk_Rows_19 st_Rows_amount rfl (Nat.le_of_ble_eq_true rfl) rfl (Nat.le_of_ble_eq_true rfl) (by decide) rfl (c_Rows_amount hx (by decide) (by omega)) ?_
    refine Ev.isub d_Rows_moreB_22 ?_
    refine Ev.iadd d_Rows_moreB_23 ?_
    refine Ev.istore_2 d_Rows_moreB_24 rfl ?_
    refine Ev.iinc_3 d_Rows_moreB_25 rfl ?_
    refine Ev.goto (tgt := 4) d_Rows_moreB_28 rfl ?_
    exact lp_Rows_moreB hx hp q (k + 1) _ (by omega) (by omega)
theorem c_Rows_moreB {x p : Int} (hx : -2147483648 ≤ x ∧ x ≤ 2147483647) (hp : -2147483648 ≤ p ∧ p ≤ 2147483647) : Call 2 m_Rows_moreB [vi x, vi p] σ m (some (vi (mbR x p))) σ m := by
  show Ev 2 m_Rows_moreB 0 [some (vi x), some (vi p), none, none] [] σ m _ σ m
  refine Ev.iconst d_Rows_moreB_0 ?_
  refine Ev.istore_2 d_Rows_moreB_1 rfl ?_
  refine Ev.iconst d_Rows_moreB_2 ?_
  refine Ev.istore_3 d_Rows_moreB_3 rfl ?_
  exact lp_Rows_moreB hx hp 5 1 0 rfl (by decide)
def cfS (n k : Int) : Nat → Int → Int → Int
  | 0, _, v => v
  | q + 1, i, v => cfS n k q (i + 1) (v * (n - k + i) / i)
def cfB (n k : Int) : Nat → Int → Int → Bool
  | 0, _, _ => true
  | q + 1, i, v => decide (0 ≤ v * (n - k + i) ∧ v * (n - k + i) ≤ 1000000000) && cfB n k q (i + 1) (v * (n - k + i) / i)
theorem cf_ok : ∀ n : Nat, n < 18 → ∀ k : Nat, k < n + 1 → cfS n k k 1 1 = chs n k ∧ cfB n k k 1 1 = true := by decide +kernel
theorem lp_FC_choose {n k : Int} (hn : 0 ≤ n ∧ n ≤ 17) (hk : 0 ≤ k ∧ k ≤ n) : ∀ (q : Nat) (i v : Int), i + q = k + 1 → 1 ≤ i → cfB n k q i v = true → Ev 1 m_FC_choose 16 [some (vi n), some (vi k), some (vl v), none, some (vi i)] [] σ m (some (vl (cfS n k q i v))) σ m
  | 0, i, v, hi, h1, hb => by
    simp only [cfS]
    refine Ev.iload d_FC_choose_16 rfl ?_
    refine Ev.iload_n d_FC_choose_18 rfl ?_
    refine Ev.icmp_gt (tgt := 42) d_FC_choose_19 rfl (by first | omega | (simp [mu]; done) | (simp [mu]; omega)) (by first | omega | (simp [mu]; done) | (simp [mu]; omega)) (fun hb19 => ?_) (fun hb19 => by exfalso; first | omega | simp at hb19 | contradiction)
    refine Ev.lload_n d_FC_choose_42 rfl ?_
    exact Ev.to (Ev.lreturn d_FC_choose_43 rfl) rfl rfl
  | q + 1, i, v, hi, h1, hb => by
    simp only [cfB, Bool.and_eq_true, decide_eq_true_eq] at hb
    simp only [cfS]
    refine Ev.iload d_FC_choose_16 rfl ?_
    refine Ev.iload_n d_FC_choose_18 rfl ?_
    refine Ev.icmp_gt (tgt := 42) d_FC_choose_19 rfl (by first | omega | (simp [mu]; done) | (simp [mu]; omega)) (by first | omega | (simp [mu]; done) | (simp [mu]; omega)) (fun hb19 => by exfalso; first | omega | simp at hb19 | contradiction) (fun hb19 => ?_)
    refine Ev.lload_n d_FC_choose_22 rfl ?_
    refine Ev.iload_n d_FC_choose_23 rfl ?_
    refine Ev.iload_n d_FC_choose_24 rfl ?_
    refine Ev.isub d_FC_choose_25 ?_
    refine Ev.iload d_FC_choose_26 rfl ?_
    refine Ev.iadd d_FC_choose_28 ?_
    refine Ev.i2l d_FC_choose_29 (by first | omega | (simp [mu]; done) | (simp [mu]; omega)) ?_
    refine Ev.lmul d_FC_choose_30 ?_
    refine Ev.iload d_FC_choose_31 rfl ?_
    refine Ev.i2l d_FC_choose_33 (by first | omega | (simp [mu]; done) | (simp [mu]; omega)) ?_
    refine Ev.ldiv d_FC_choose_34 ⟨hb.1.1, by omega⟩ (by omega) ?_
    refine Ev.lstore_2 d_FC_choose_35 rfl ?_
    refine Ev.iinc_4 d_FC_choose_36 rfl ?_
    refine Ev.goto (tgt := 16) d_FC_choose_39 rfl ?_
    exact lp_FC_choose hn hk q (i + 1) _ (by omega) (by omega) hb.2
theorem c_FC_choose {n k : Int} (hn : 0 ≤ n ∧ n ≤ 17) (hk : -2147483648 ≤ k ∧ k ≤ 2147483647) : Call 1 m_FC_choose [vi n, vi k] σ m (some (vl (chs n k))) σ m := by
  show Ev 1 m_FC_choose 0 [some (vi n), some (vi k), none, none, none] [] σ m _ σ m
  by_cases hc : 0 ≤ k ∧ k ≤ n
  · have h := cf_ok n.toNat (by omega) k.toNat (by omega)
    rw [Int.toNat_of_nonneg hn.1, Int.toNat_of_nonneg hc.1] at h
    rw [← h.1]
    refine Ev.iload_n d_FC_choose_0 rfl ?_
    refine Ev.if_lt (tgt := 9) d_FC_choose_1 rfl (by first | omega | (simp [mu]; done) | (simp [mu]; omega)) (fun hb1 => by exfalso; first | omega | simp at hb1 | contradiction) (fun hb1 => ?_)
    refine Ev.iload_n d_FC_choose_4 rfl ?_
    refine Ev.iload_n d_FC_choose_5 rfl ?_
    refine Ev.icmp_le (tgt := 11) d_FC_choose_6 rfl (by first | omega | (simp [mu]; done) | (simp [mu]; omega)) (by first | omega | (simp [mu]; done) | (simp [mu]; omega)) (fun hb6 => ?_) (fun hb6 => by exfalso; first | omega | simp at hb6 | contradiction)
    refine Ev.lconst (x := 1) d_FC_choose_11 rfl ?_
    refine Ev.lstore_2 d_FC_choose_12 rfl ?_
    refine Ev.iconst d_FC_choose_13 ?_
    refine Ev.istore_4 d_FC_choose_14 rfl ?_
    exact lp_FC_choose hn hc k.toNat 1 1 (by omega) (by decide) h.2
  · rw [show chs n k = 0 from if_neg hc]
    refine Ev.iload_n d_FC_choose_0 rfl ?_
    refine Ev.if_lt (tgt := 9) d_FC_choose_1 rfl (by first | omega | (simp [mu]; done) | (simp [mu]; omega)) (fun hb1 => ?_) (fun hb1 => ?_)
    · refine Ev.lconst (x := 0) d_FC_choose_9 rfl ?_
      exact Ev.to (Ev.lreturn d_FC_choose_10 rfl) rfl rfl
    · refine Ev.iload_n d_FC_choose_4 rfl ?_
      refine Ev.iload_n d_FC_choose_5 rfl ?_
      refine Ev.icmp_le (tgt := 11) d_FC_choose_6 rfl (by first | omega | (simp [mu]; done) | (simp [mu]; omega)) (by first | omega | (simp [mu]; done) | (simp [mu]; omega)) (fun hb6 => by exfalso; first | omega | simp at hb6 | contradiction) (fun hb6 => ?_)
      refine Ev.lconst (x := 0) d_FC_choose_9 rfl ?_
      exact Ev.to (Ev.lreturn d_FC_choose_10 rfl) rfl rfl
def spF (a b : Int) : Int := (b * chs (3 * (a + b) - 4) (3 * a - 2) - a * chs (3 * (a + b) - 4) (3 * a - 1)) * a * a * b
theorem c_FC_splitsOf {a b : Int} (ha : 1 ≤ a) (hb : 1 ≤ b) (hab : a + b ≤ 7) : Call 2 m_FC_splitsOf [vi a, vi b] σ m (some (vl (spF a b))) σ m := by
  show Ev 2 m_FC_splitsOf 0 [some (vi a), some (vi b), none, none, none] [] σ m _ σ m
  refine Ev.iconst d_FC_splitsOf_0 ?_
  refine Ev.iload_n d_FC_splitsOf_1 rfl ?_
  refine Ev.iload_n d_FC_splitsOf_2 rfl ?_
  refine Ev.iadd d_FC_splitsOf_3 ?_
  refine Ev.imul d_FC_splitsOf_4 ?_
  refine Ev.iconst d_FC_splitsOf_5 ?_
  refine Ev.isub d_FC_splitsOf_6 ?_
  refine Ev.istore_2 d_FC_splitsOf_7 rfl ?_
  refine Ev.iload_n d_FC_splitsOf_8 rfl ?_
  refine Ev.i2l d_FC_splitsOf_9 (by first | omega | (simp [mu]; done) | (simp [mu]; omega)) ?_
  refine Ev.iload_n d_FC_splitsOf_10 rfl ?_
  refine Ev.iconst d_FC_splitsOf_11 ?_
  refine Ev.iload_n d_FC_splitsOf_12 rfl ?_
  refine Ev.imul d_FC_splitsOf_13 ?_
  refine Ev.iconst d_FC_splitsOf_14 ?_
  refine Ev.isub d_FC_splitsOf_15 ?_
  refine Ev.callS d_FC_splitsOf_16 mt_FC_choose lk_FC_269 st_FC_choose rfl (Nat.le_of_ble_eq_true rfl) rfl (Nat.le_of_ble_eq_true rfl) (by decide) rfl (c_FC_choose (by omega) (by omega)) ?_
  refine Ev.lmul d_FC_splitsOf_19 ?_
  refine Ev.iload_n d_FC_splitsOf_20 rfl ?_
  refine Ev.i2l d_FC_splitsOf_21 (by first | omega | (simp [mu]; done) | (simp [mu]; omega)) ?_
  refine Ev.iload_n d_FC_splitsOf_22 rfl ?_
  refine Ev.iconst d_FC_splitsOf_23 ?_
  refine Ev.iload_n d_FC_splitsOf_24 rfl ?_
  refine Ev.imul d_FC_splitsOf_25 ?_
  refine Ev.iconst d_FC_splitsOf_26 ?_
  refine Ev.isub d_FC_splitsOf_27 ?_
  refine Ev.callS d_FC_splitsOf_28 mt_FC_choose lk_FC_269 st_FC_choose rfl (Nat.le_of_ble_eq_true rfl) rfl (Nat.le_of_ble_eq_true rfl) (by decide) rfl (c_FC_choose (by omega) (by omega)) ?_
  refine Ev.lmul d_FC_splitsOf_31 ?_
  refine Ev.lsub d_FC_splitsOf_32 ?_
  refine Ev.lstore_3 d_FC_splitsOf_33 rfl ?_
  refine Ev.lload_n d_FC_splitsOf_34 rfl ?_
  refine Ev.iload_n d_FC_splitsOf_35 rfl ?_
  refine Ev.i2l d_FC_splitsOf_36 (by first | omega | (simp [mu]; done) | (simp [mu]; omega)) ?_
  refine Ev.lmul d_FC_splitsOf_37 ?_
  refine Ev.iload_n d_FC_splitsOf_38 rfl ?_
  refine Ev.i2l d_FC_splitsOf_39 (by first | omega | (simp [mu]; done) | (simp [mu]; omega)) ?_
  refine Ev.lmul d_FC_splitsOf_40 ?_
  refine Ev.iload_n d_FC_splitsOf_41 rfl ?_
  refine Ev.i2l d_FC_splitsOf_42 (by first | omega | (simp [mu]; done) | (simp [mu]; omega)) ?_
  refine Ev.lmul d_FC_splitsOf_43 ?_
  exact Ev.to (Ev.lreturn d_FC_splitsOf_44 rfl) rfl rfl
def raS (k : Int) : Nat → Int → Int → Int
  | 0, _, s => s
  | q + 1, a, s => raS k q (a + 1) (s + RT a * RT (k - a) * spF a (k - a))
theorem ra_RT : ∀ k : Nat, k < 8 → 2 ≤ k → raS k (k - 1) 1 0 = RT k := by decide +kernel
theorem lpa_FC_rational (hF : FcS σ) {d k : Int} (hk : 2 ≤ k ∧ k ≤ 7) {r : Option AV} {mF : Mm} (hr : ∀ a : Int, 1 ≤ a → a < k → m 23 a = RT a) : ∀ (q : Nat) (a s : Int), a + q = k → 1 ≤ a → Ev 3 m_FC_rational 76 [some (vr 3), some (vi d), some (vi k), some (vl (raS k q a s)), none, some (vi k)] [] σ m r σ mF → Ev 3 m_FC_rational 34 [some (vr 3), some (vi d), some (vi k), some (vl s), none, some (vi a)] [] σ m r σ mF
  | 0, a, s, ha, h1, c => by
    have e : a = k := by omega
    simp only [raS] at c
    rw [e]
    refine Ev.iload d_FC_rational_34 rfl ?_
    refine Ev.iload_n d_FC_rational_36 rfl ?_
    refine Ev.icmp_ge (tgt := 76) d_FC_rational_37 rfl (by first | omega | (simp [mu]; done) | (simp [mu]; omega)) (by first | omega | (simp [mu]; done) | (simp [mu]; omega)) (fun hb37 => ?_) (fun hb37 => by exfalso; first | omega | simp at hb37 | contradiction)
    exact c
  | q + 1, a, s, ha, h1, c => by
    have e1 := hr a h1 (by omega)
    have e2 := hr (k - a) (by omega) (by omega)
    simp only [raS] at c
    refine Ev.iload d_FC_rational_34 rfl ?_
    refine Ev.iload_n d_FC_rational_36 rfl ?_
    refine Ev.icmp_ge (tgt := 76) d_FC_rational_37 rfl (by first | omega | (simp [mu]; done) | (simp [mu]; omega)) (by first | omega | (simp [mu]; done) | (simp [mu]; omega)) (fun hb37 => by exfalso; first | omega | simp at hb37 | contradiction) (fun hb37 => ?_)
    refine Ev.lload_n d_FC_rational_40 rfl ?_
    refine Ev.aload_n d_FC_rational_41 rfl ?_
    refine Ev.gr 7 d_FC_rational_42 lf_FC_54 rfl rfl (fi_3 hF) (by decide) (fr_3_7 hF) ?_
    refine Ev.iload d_FC_rational_45 rfl ?_
    refine Ev.laload d_FC_rational_47 (fi_23 hF) (by first | omega | (simp [mu]; done) | (simp [mu]; omega)) ?_
    rw [e1]
    refine Ev.aload_n d_FC_rational_48 rfl ?_
    refine Ev.gr 7 d_FC_rational_49 lf_FC_54 rfl rfl (fi_3 hF) (by decide) (fr_3_7 hF) ?_
    refine Ev.iload_n d_FC_rational_52 rfl ?_
    refine Ev.iload d_FC_rational_53 rfl ?_
    refine Ev.isub d_FC_rational_55 ?_
    refine Ev.laload d_FC_rational_56 (fi_23 hF) (by first | omega | (simp [mu]; done) | (simp [mu]; omega)) ?_
    rw [e2]
    refine Ev.lmul d_FC_rational_57 ?_
    refine Ev.iload d_FC_rational_58 rfl ?_
    refine Ev.iload_n d_FC_rational_60 rfl ?_
    refine Ev.iload d_FC_rational_61 rfl ?_
    refine Ev.isub d_FC_rational_63 ?_
    refine Ev.callS d_FC_rational_64 mt_FC_splitsOf lk_FC_226 st_FC_splitsOf rfl (Nat.le_of_ble_eq_true rfl) rfl (Nat.le_of_ble_eq_true rfl) (by decide) rfl (c_FC_splitsOf h1 (by omega) (by omega)) ?_
    refine Ev.lmul d_FC_rational_67 ?_
    refine Ev.ladd d_FC_rational_68 ?_
    refine Ev.lstore_3 d_FC_rational_69 rfl ?_
    refine Ev.iinc_5 d_FC_rational_70 rfl ?_
    refine Ev.goto (tgt := 34) d_FC_rational_73 rfl ?_
    exact lpa_FC_rational hF hk hr q (a + 1) _ (by omega) (by omega) c
theorem lp_FC_rational (hF : FcS σ) {d : Int} (hd : 1 ≤ d ∧ d ≤ 7) : ∀ (q : Nat) (k : Int) (m : Mm) (x3 x5 : Option AV), k + q = (if d = 1 then 2 else d + 1) → 2 ≤ k → (∀ a : Int, 1 ≤ a → a < k → m 23 a = RT a) → ∃ mF, Ev 3 m_FC_rational 24 [some (vr 3), some (vi d), some (vi k), x3, none, x5] [] σ m (some (vl (RT d))) σ mF ∧ ∀ b i : Int, b ≠ 23 → mF b i = m b i
  | 0, k, m, x3, x5, hq, h2, hr => by
    have hkd : d < k := by split at hq <;> omega
    have e := hr d hd.1 hkd
    refine ⟨m, ?_, fun _ _ _ => rfl⟩
    have hk8 : k ≤ 8 := by split at hq <;> omega
    refine Ev.iload_n d_FC_rational_24 rfl ?_
    refine Ev.iload_n d_FC_rational_25 rfl ?_
    refine Ev.icmp_gt (tgt := 89) d_FC_rational_26 rfl (by first | omega | (simp [mu]; done) | (simp [mu]; omega)) (by first | omega | (simp [mu]; done) | (simp [mu]; omega)) (fun hb26 => ?_) (fun hb26 => by exfalso; first | omega | simp at hb26 | contradiction)
    refine Ev.aload_n d_FC_rational_89 rfl ?_
    refine Ev.gr 7 d_FC_rational_90 lf_FC_54 rfl rfl (fi_3 hF) (by decide) (fr_3_7 hF) ?_
    refine Ev.iload_n d_FC_rational_93 rfl ?_
    refine Ev.laload d_FC_rational_94 (fi_23 hF) (by first | omega | (simp [mu]; done) | (simp [mu]; omega)) ?_
    rw [e]
    exact Ev.to (Ev.lreturn d_FC_rational_95 rfl) rfl rfl
  | q + 1, k, m, x3, x5, hq, h2, hr => by
    have hkd : k ≤ d := by split at hq <;> omega
    have hv := ra_RT k.toNat (by omega) (by omega)
    rw [Int.toNat_of_nonneg (by omega)] at hv
    obtain ⟨mF, g1, g2⟩ := lp_FC_rational hF hd q (k + 1) (mu m 23 k (RT k)) (some (vl (RT k))) (some (vi k)) (by split at hq <;> omega) (by omega) (fun a h1 h3 => by
      by_cases e : a = k
      · rw [e, mu_s]
      · rw [mu_n (Or.inr e)]; exact hr a h1 (by omega))
    refine ⟨mF, ?_, fun b i h => (g2 b i h).trans (mu_a h)⟩
    refine Ev.iload_n d_FC_rational_24 rfl ?_
    refine Ev.iload_n d_FC_rational_25 rfl ?_
    refine Ev.icmp_gt (tgt := 89) d_FC_rational_26 rfl (by first | omega | (simp [mu]; done) | (simp [mu]; omega)) (by first | omega | (simp [mu]; done) | (simp [mu]; omega)) (fun hb26 => by exfalso; first | omega | simp at hb26 | contradiction) (fun hb26 => ?_)
    refine Ev.lconst (x := 0) d_FC_rational_29 rfl ?_
    refine Ev.lstore_3 d_FC_rational_30 rfl ?_
    refine Ev.iconst d_FC_rational_31 ?_
    refine Ev.istore_5 d_FC_rational_32 rfl ?_
    refine lpa_FC_rational hF (by omega) hr (k.toNat - 1) 1 0 (by omega) (by decide) ?_
    rw [hv]
    refine Ev.aload_n d_FC_rational_76 rfl ?_
    refine Ev.gr 7 d_FC_rational_77 lf_FC_54 rfl rfl (fi_3 hF) (by decide) (fr_3_7 hF) ?_
    refine Ev.iload_n d_FC_rational_80 rfl ?_
    refine Ev.lload_n d_FC_rational_81 rfl ?_
    refine Ev.lastore d_FC_rational_82 (fi_23 hF) (by decide) (by first | omega | (simp [mu]; done) | (simp [mu]; omega)) ?_
    refine Ev.iinc_2 d_FC_rational_83 rfl ?_
    refine Ev.goto (tgt := 24) d_FC_rational_86 rfl ?_
    exact g1
theorem c_FC_rational (hF : FcS σ) {d : Int} (h1 : -2147483648 ≤ d ∧ d ≤ 2147483647) : ∃ m', Call 3 m_FC_rational [vr 3, vi d] σ m (some (vl (sp_rational d))) σ m' ∧ ∀ b i : Int, b ≠ 23 → m' b i = m b i := by
  unfold sp_rational
  by_cases hd : 1 ≤ d ∧ d ≤ 7
  · rw [if_pos hd]
    obtain ⟨mF, g1, g2⟩ := lp_FC_rational hF hd ((if d = 1 then 2 else d + 1) - 2 : Int).toNat 2 (mu m 23 1 1) none none (by split <;> omega) (by decide) (fun a x y => by
      have e : a = 1 := by omega
      rw [e, mu_s]; rfl)
    refine ⟨mF, ?_, fun b i h => (g2 b i h).trans (mu_a h)⟩
    show Ev 3 m_FC_rational 0 [some (vr 3), some (vi d), none, none, none, none] [] σ m _ σ mF
    refine Ev.iload_n d_FC_rational_0 rfl ?_
    refine Ev.iconst d_FC_rational_1 ?_
    refine Ev.icmp_lt (tgt := 11) d_FC_rational_2 rfl (by first | omega | (simp [mu]; done) | (simp [mu]; omega)) (by first | omega | (simp [mu]; done) | (simp [mu]; omega)) (fun hb2 => by exfalso; first | omega | simp at hb2 | contradiction) (fun hb2 => ?_)
    refine Ev.iload_n d_FC_rational_5 rfl ?_
    refine Ev.bipush d_FC_rational_6 rfl ?_
    refine Ev.icmp_le (tgt := 15) d_FC_rational_8 rfl (by first | omega | (simp [mu]; done) | (simp [mu]; omega)) (by first | omega | (simp [mu]; done) | (simp [mu]; omega)) (fun hb8 => ?_) (fun hb8 => by exfalso; first | omega | simp at hb8 | contradiction)
    refine Ev.aload_n d_FC_rational_15 rfl ?_
    refine Ev.gr 7 d_FC_rational_16 lf_FC_54 rfl rfl (fi_3 hF) (by decide) (fr_3_7 hF) ?_
    refine Ev.iconst d_FC_rational_19 ?_
    refine Ev.lconst (x := 1) d_FC_rational_20 rfl ?_
    refine Ev.lastore d_FC_rational_21 (fi_23 hF) (by decide) (by first | omega | (simp [mu]; done) | (simp [mu]; omega)) ?_
    refine Ev.iconst d_FC_rational_22 ?_
    refine Ev.istore_2 d_FC_rational_23 rfl ?_
    exact g1
  · rw [if_neg hd]
    refine ⟨m, ?_, fun _ _ _ => rfl⟩
    show Ev 3 m_FC_rational 0 [some (vr 3), some (vi d), none, none, none, none] [] σ m _ σ m
    refine Ev.iload_n d_FC_rational_0 rfl ?_
    refine Ev.iconst d_FC_rational_1 ?_
    refine Ev.icmp_lt (tgt := 11) d_FC_rational_2 rfl (by first | omega | (simp [mu]; done) | (simp [mu]; omega)) (by first | omega | (simp [mu]; done) | (simp [mu]; omega)) (fun hb2 => ?_) (fun hb2 => ?_)
    · refine Ev.ldc2 (x := (-1)) d_FC_rational_11 kl_FC_139 ?_
      exact Ev.to (Ev.lreturn d_FC_rational_14 rfl) rfl rfl
    · refine Ev.iload_n d_FC_rational_5 rfl ?_
      refine Ev.bipush d_FC_rational_6 rfl ?_
      refine Ev.icmp_le (tgt := 15) d_FC_rational_8 rfl (by first | omega | (simp [mu]; done) | (simp [mu]; omega)) (by first | omega | (simp [mu]; done) | (simp [mu]; omega)) (fun hb8 => by exfalso; first | omega | simp at hb8 | contradiction) (fun hb8 => ?_)
      refine Ev.ldc2 (x := (-1)) d_FC_rational_11 kl_FC_139 ?_
      exact Ev.to (Ev.lreturn d_FC_rational_14 rfl) rfl rfl
end
