section
variable {σ : Sg} {m : Mm}
/-! spots: a stair (from, to, weight) by its number -/
def fS (s : Int) : Int := if s < 12 then 0 else if s < 20 then 1 else 2
def tS (s : Int) : Int := if s < 4 then 1 else if s < 8 then 2 else if s < 12 then 3 else if s < 16 then 2 else 3
def wS (s : Int) : Int := s % 4 + 1
theorem fS_b (s : Int) : 0 ≤ fS s ∧ fS s ≤ 2 := by unfold fS; split <;> (try split) <;> omega
theorem tS_b (s : Int) : 1 ≤ tS s ∧ tS s ≤ 3 := by
  unfold tS
  repeat' split
  all_goals omega
theorem wS_b (s : Int) : 1 ≤ wS s ∧ wS s ≤ 4 := by unfold wS; omega
/-- the rows of the reference from place a on hold the stairs l -/
def At (m : Mm) : Int → List Int → Prop
  | _, [] => True
  | a, s :: t => (m 60 a = fS s ∧ m 61 a = tS s ∧ m 62 a = wS s) ∧ At m (a + 1) t
theorem At_app {m : Mm} : ∀ {a : Int} {l1 l2 : List Int}, At m a (l1 ++ l2) ↔ At m a l1 ∧ At m (a + l1.length) l2
  | a, [], l2 => by simp [At]
  | a, s :: t, l2 => by
    simp only [List.cons_append, At, At_app (a := a + 1) (l1 := t) (l2 := l2), List.length_cons]
    rw [show a + 1 + (t.length : Int) = a + ((t.length + 1 : Nat) : Int) by omega]
    simp only [and_assoc]
theorem At_eq {m m' : Mm} : ∀ {a : Int} {l : List Int}, (∀ j : Int, a ≤ j → j < a + l.length → m' 60 j = m 60 j ∧ m' 61 j = m 61 j ∧ m' 62 j = m 62 j) → At m a l → At m' a l
  | a, [], _, _ => trivial
  | a, s :: t, h, hA => by
    obtain ⟨h1, h2, h3⟩ := h a (by omega) (by simp only [List.length_cons]; omega)
    refine ⟨⟨h1.trans hA.1.1, h2.trans hA.1.2.1, h3.trans hA.1.2.2⟩, At_eq (fun j hj1 hj2 => h j (by omega) (by simp only [List.length_cons]; omega)) hA.2⟩
def oc (f s : Int) : Int := if fS s = f then wS s else if tS s = f then -wS s else 0
def outL (f : Int) : List Int → Int
  | [] => 0
  | s :: t => oc f s + outL f t
theorem oc_b (f s : Int) : -4 ≤ oc f s ∧ oc f s ≤ 4 := by
  have := wS_b s
  unfold oc; split <;> (try split) <;> omega
theorem outL_b (f : Int) : ∀ l : List Int, -4 * (l.length : Int) ≤ outL f l ∧ outL f l ≤ 4 * (l.length : Int)
  | [] => by simp [outL]
  | s :: t => by
    have h1 := outL_b f t
    have h2 := oc_b f s
    simp only [outL, List.length_cons]
    omega
theorem c_Mo_isStair {d i j w : Int} (h1 : -2147483648 ≤ d ∧ d ≤ 2147483647) (h2 : -2147483648 ≤ i ∧ i ≤ 2147483647) (h3 : -2147483648 ≤ j ∧ j ≤ 2147483647) (h4 : -2147483648 ≤ w ∧ w ≤ 2147483647) : Call 2 m_Mo_isStair [vi d, vi i, vi j, vi w] σ m (some (vi (b01 (0 ≤ i ∧ i < j ∧ j < d ∧ 1 ≤ w ∧ w ≤ 4)))) σ m := by
  show Ev 2 m_Mo_isStair 0 [some (vi d), some (vi i), some (vi j), some (vi w)] [] σ m _ σ m
  refine Ev.iload_n d_Mo_isStair_0 rfl ?_
  refine Ev.if_lt (tgt := 30) d_Mo_isStair_1 rfl (by omega) (fun hb1 => ?_) (fun hb1 => ?_)
  · refine Ev.iconst d_Mo_isStair_30 ?_
    exact Ev.to (Ev.zreturn d_Mo_isStair_31 rfl (by first | omega | exact b01_01)) (r0 (by omega)) rfl
  · refine Ev.iload_n d_Mo_isStair_4 rfl ?_
    refine Ev.iload_n d_Mo_isStair_5 rfl ?_
    refine Ev.icmp_ge (tgt := 30) d_Mo_isStair_6 rfl (by omega) (by omega) (fun hb6 => ?_) (fun hb6 => ?_)
    · refine Ev.iconst d_Mo_isStair_30 ?_
      exact Ev.to (Ev.zreturn d_Mo_isStair_31 rfl (by first | omega | exact b01_01)) (r0 (by omega)) rfl
    · refine Ev.iload_n d_Mo_isStair_9 rfl ?_
      refine Ev.iload_n d_Mo_isStair_10 rfl ?_
      refine Ev.icmp_ge (tgt := 30) d_Mo_isStair_11 rfl (by omega) (by omega) (fun hb11 => ?_) (fun hb11 => ?_)
      · refine Ev.iconst d_Mo_isStair_30 ?_
        exact Ev.to (Ev.zreturn d_Mo_isStair_31 rfl (by first | omega | exact b01_01)) (r0 (by omega)) rfl
      · refine Ev.iload_n d_Mo_isStair_14 rfl ?_
        refine Ev.i2l d_Mo_isStair_15 (by omega) ?_
        refine Ev.lconst (x := 1) d_Mo_isStair_16 rfl ?_
        refine Ev.ldc2 (x := 4) d_Mo_isStair_17 kl_Mo_111 ?_
        refine Ev.callS d_Mo_isStair_20 mt_Mo_in lk_Mo_107 st_Mo_in rfl (Nat.le_of_ble_eq_true rfl) rfl (Nat.le_of_ble_eq_true rfl) (by decide) rfl (c_Mo_in (by omega) (by omega) (by omega)) ?_
        refine Ev.if_eq (tgt := 30) d_Mo_isStair_23 rfl b01_b (fun hb23 => ?_) (fun hb23 => ?_)
        · rw [b01_eq] at hb23
          refine Ev.iconst d_Mo_isStair_30 ?_
          exact Ev.to (Ev.zreturn d_Mo_isStair_31 rfl (by first | omega | exact b01_01)) (r0 (by omega)) rfl
        · rw [b01_ne] at hb23
          refine Ev.iconst d_Mo_isStair_26 ?_
          refine Ev.goto (tgt := 31) d_Mo_isStair_27 rfl ?_
          exact Ev.to (Ev.zreturn d_Mo_isStair_31 rfl (by first | omega | exact b01_01)) (r1 (by omega)) rfl
theorem c_Mo_isAhead (hM : MoS σ) {k i j w : Int} (hk : 0 ≤ k ∧ k < 54) (h2 : -2147483648 ≤ i ∧ i ≤ 2147483647) (h3 : -2147483648 ≤ j ∧ j ≤ 2147483647) (h4 : -2147483648 ≤ w ∧ w ≤ 2147483647) (b0 : -2147483648 ≤ m 60 k ∧ m 60 k ≤ 2147483647) (b1 : -2147483648 ≤ m 61 k ∧ m 61 k ≤ 2147483647) (b2 : -2147483648 ≤ m 62 k ∧ m 62 k ≤ 2147483647) : Call 1 m_Mo_isAhead [vr 57, vi k, vi i, vi j, vi w] σ m (some (vi (b01 (m 60 k < i ∨ m 60 k = i ∧ (m 61 k < j ∨ m 61 k = j ∧ m 62 k ≤ w))))) σ m := by
  show Ev 1 m_Mo_isAhead 0 [some (vr 57), some (vi k), some (vi i), some (vi j), some (vi w)] [] σ m _ σ m
  refine Ev.aload_n d_Mo_isAhead_0 rfl ?_
  refine Ev.gr 3 d_Mo_isAhead_1 lf_Mo_16 rfl rfl (is_57 hM) (by decide) (rf_57_3 hM) ?_
  refine Ev.iload_n d_Mo_isAhead_4 rfl ?_
  refine Ev.iaload d_Mo_isAhead_5 (is_60 hM) (by omega) ?_
  refine Ev.iload_n d_Mo_isAhead_6 rfl ?_
  refine Ev.icmp_lt (tgt := 51) d_Mo_isAhead_7 rfl (by omega) (by omega) (fun hb7 => ?_) (fun hb7 => ?_)
  · refine Ev.iconst d_Mo_isAhead_51 ?_
    refine Ev.goto (tgt := 56) d_Mo_isAhead_52 rfl ?_
    exact Ev.to (Ev.zreturn d_Mo_isAhead_56 rfl (by first | omega | exact b01_01)) (r1 (by omega)) rfl
  · refine Ev.aload_n d_Mo_isAhead_10 rfl ?_
    refine Ev.gr 3 d_Mo_isAhead_11 lf_Mo_16 rfl rfl (is_57 hM) (by decide) (rf_57_3 hM) ?_
    refine Ev.iload_n d_Mo_isAhead_14 rfl ?_
    refine Ev.iaload d_Mo_isAhead_15 (is_60 hM) (by omega) ?_
    refine Ev.iload_n d_Mo_isAhead_16 rfl ?_
    refine Ev.icmp_ne (tgt := 55) d_Mo_isAhead_17 rfl (by omega) (by omega) (fun hb17 => ?_) (fun hb17 => ?_)
    · refine Ev.iconst d_Mo_isAhead_55 ?_
      exact Ev.to (Ev.zreturn d_Mo_isAhead_56 rfl (by first | omega | exact b01_01)) (r0 (by omega)) rfl
    · refine Ev.aload_n d_Mo_isAhead_20 rfl ?_
      refine Ev.gr 4 d_Mo_isAhead_21 lf_Mo_19 rfl rfl (is_57 hM) (by decide) (rf_57_4 hM) ?_
      refine Ev.iload_n d_Mo_isAhead_24 rfl ?_
      refine Ev.iaload d_Mo_isAhead_25 (is_61 hM) (by omega) ?_
      refine Ev.iload_n d_Mo_isAhead_26 rfl ?_
      refine Ev.icmp_lt (tgt := 51) d_Mo_isAhead_27 rfl (by omega) (by omega) (fun hb27 => ?_) (fun hb27 => ?_)
      · refine Ev.iconst d_Mo_isAhead_51 ?_
        refine Ev.goto (tgt := 56) d_Mo_isAhead_52 rfl ?_
        exact Ev.to (Ev.zreturn d_Mo_isAhead_56 rfl (by first | omega | exact b01_01)) (r1 (by omega)) rfl
      · refine Ev.aload_n d_Mo_isAhead_30 rfl ?_
        refine Ev.gr 4 d_Mo_isAhead_31 lf_Mo_19 rfl rfl (is_57 hM) (by decide) (rf_57_4 hM) ?_
        refine Ev.iload_n d_Mo_isAhead_34 rfl ?_
        refine Ev.iaload d_Mo_isAhead_35 (is_61 hM) (by omega) ?_
        refine Ev.iload_n d_Mo_isAhead_36 rfl ?_
        refine Ev.icmp_ne (tgt := 55) d_Mo_isAhead_37 rfl (by omega) (by omega) (fun hb37 => ?_) (fun hb37 => ?_)
        · refine Ev.iconst d_Mo_isAhead_55 ?_
          exact Ev.to (Ev.zreturn d_Mo_isAhead_56 rfl (by first | omega | exact b01_01)) (r0 (by omega)) rfl
        · refine Ev.aload_n d_Mo_isAhead_40 rfl ?_
          refine Ev.gr 5 d_Mo_isAhead_41 lf_Mo_22 rfl rfl (is_57 hM) (by decide) (rf_57_5 hM) ?_
          refine Ev.iload_n d_Mo_isAhead_44 rfl ?_
          refine Ev.iaload d_Mo_isAhead_45 (is_62 hM) (by omega) ?_
          refine Ev.iload d_Mo_isAhead_46 rfl ?_
          refine Ev.icmp_gt (tgt := 55) d_Mo_isAhead_48 rfl (by omega) (by omega) (fun hb48 => ?_) (fun hb48 => ?_)
          · refine Ev.iconst d_Mo_isAhead_55 ?_
            exact Ev.to (Ev.zreturn d_Mo_isAhead_56 rfl (by first | omega | exact b01_01)) (r0 (by omega)) rfl
          · refine Ev.iconst d_Mo_isAhead_51 ?_
            refine Ev.goto (tgt := 56) d_Mo_isAhead_52 rfl ?_
            exact Ev.to (Ev.zreturn d_Mo_isAhead_56 rfl (by first | omega | exact b01_01)) (r1 (by omega)) rfl
theorem c_Mo_fromOf {k : Int} (hk : 0 ≤ k ∧ k < 24) : Call 1 m_Mo_fromOf [vi k] σ m (some (vi (fS k))) σ m := by
  show Ev 1 m_Mo_fromOf 0 [some (vi k)] [] σ m _ σ m
  refine Ev.iload_n d_Mo_fromOf_0 rfl ?_
  refine Ev.bipush d_Mo_fromOf_1 rfl ?_
  refine Ev.icmp_ge (tgt := 10) d_Mo_fromOf_3 rfl (by omega) (by omega) (fun hb3 => ?_) (fun hb3 => ?_)
  · refine Ev.iload_n d_Mo_fromOf_10 rfl ?_
    refine Ev.bipush d_Mo_fromOf_11 rfl ?_
    refine Ev.icmp_ge (tgt := 20) d_Mo_fromOf_13 rfl (by omega) (by omega) (fun hb13 => ?_) (fun hb13 => ?_)
    · refine Ev.iconst d_Mo_fromOf_20 ?_
      exact Ev.to (Ev.ireturn d_Mo_fromOf_21 rfl) (ri (by unfold fS; (repeat' split) <;> omega)) rfl
    · refine Ev.iconst d_Mo_fromOf_16 ?_
      refine Ev.goto (tgt := 21) d_Mo_fromOf_17 rfl ?_
      exact Ev.to (Ev.ireturn d_Mo_fromOf_21 rfl) (ri (by unfold fS; (repeat' split) <;> omega)) rfl
  · refine Ev.iconst d_Mo_fromOf_6 ?_
    refine Ev.goto (tgt := 21) d_Mo_fromOf_7 rfl ?_
    exact Ev.to (Ev.ireturn d_Mo_fromOf_21 rfl) (ri (by unfold fS; (repeat' split) <;> omega)) rfl
theorem c_Mo_toOf {k : Int} (hk : 0 ≤ k ∧ k < 24) : Call 1 m_Mo_toOf [vi k] σ m (some (vi (tS k))) σ m := by
  show Ev 1 m_Mo_toOf 0 [some (vi k), none] [] σ m _ σ m
  refine Ev.iload_n d_Mo_toOf_0 rfl ?_
  refine Ev.iconst d_Mo_toOf_1 ?_
  refine Ev.idiv d_Mo_toOf_2 (by omega) (by omega) ?_
  refine Ev.istore_1 d_Mo_toOf_3 rfl ?_
  refine Ev.iload_n d_Mo_toOf_4 rfl ?_
  refine Ev.iconst d_Mo_toOf_5 ?_
  refine Ev.icmp_ge (tgt := 15) d_Mo_toOf_6 rfl (by omega) (by omega) (fun hb6 => ?_) (fun hb6 => ?_)
  · refine Ev.iload_n d_Mo_toOf_15 rfl ?_
    refine Ev.iconst d_Mo_toOf_16 ?_
    refine Ev.icmp_ge (tgt := 26) d_Mo_toOf_17 rfl (by omega) (by omega) (fun hb17 => ?_) (fun hb17 => ?_)
    · refine Ev.iconst d_Mo_toOf_26 ?_
      exact Ev.to (Ev.ireturn d_Mo_toOf_27 rfl) (ri (by unfold tS; (repeat' split) <;> omega)) rfl
    · refine Ev.iload_n d_Mo_toOf_20 rfl ?_
      refine Ev.iconst d_Mo_toOf_21 ?_
      refine Ev.isub d_Mo_toOf_22 ?_
      refine Ev.goto (tgt := 27) d_Mo_toOf_23 rfl ?_
      exact Ev.to (Ev.ireturn d_Mo_toOf_27 rfl) (ri (by unfold tS; (repeat' split) <;> omega)) rfl
  · refine Ev.iload_n d_Mo_toOf_9 rfl ?_
    refine Ev.iconst d_Mo_toOf_10 ?_
    refine Ev.iadd d_Mo_toOf_11 ?_
    refine Ev.goto (tgt := 27) d_Mo_toOf_12 rfl ?_
    exact Ev.to (Ev.ireturn d_Mo_toOf_27 rfl) (ri (by unfold tS; (repeat' split) <;> omega)) rfl
def pairS (i j : Int) : Int := if i = 0 then j - 1 else if i = 1 then j + 1 else 5
theorem c_Mo_pairOf {i j : Int} (h1 : -2147483648 ≤ i ∧ i ≤ 2147483647) (h2 : -2147483648 ≤ j ∧ j ≤ 2147483647) : Call 1 m_Mo_pairOf [vi i, vi j] σ m (some (vi (pairS i j))) σ m := by
  show Ev 1 m_Mo_pairOf 0 [some (vi i), some (vi j)] [] σ m _ σ m
  refine Ev.iload_n d_Mo_pairOf_0 rfl ?_
  refine Ev.if_ne (tgt := 10) d_Mo_pairOf_1 rfl (by omega) (fun hb1 => ?_) (fun hb1 => ?_)
  · refine Ev.iload_n d_Mo_pairOf_10 rfl ?_
    refine Ev.iconst d_Mo_pairOf_11 ?_
    refine Ev.icmp_ne (tgt := 21) d_Mo_pairOf_12 rfl (by omega) (by omega) (fun hb12 => ?_) (fun hb12 => ?_)
    · refine Ev.iconst d_Mo_pairOf_21 ?_
      exact Ev.to (Ev.ireturn d_Mo_pairOf_22 rfl) (ri (by unfold pairS; split <;> (try split) <;> omega)) rfl
    · refine Ev.iload_n d_Mo_pairOf_15 rfl ?_
      refine Ev.iconst d_Mo_pairOf_16 ?_
      refine Ev.iadd d_Mo_pairOf_17 ?_
      refine Ev.goto (tgt := 22) d_Mo_pairOf_18 rfl ?_
      exact Ev.to (Ev.ireturn d_Mo_pairOf_22 rfl) (ri (by unfold pairS; split <;> (try split) <;> omega)) rfl
  · refine Ev.iload_n d_Mo_pairOf_4 rfl ?_
    refine Ev.iconst d_Mo_pairOf_5 ?_
    refine Ev.isub d_Mo_pairOf_6 ?_
    refine Ev.goto (tgt := 22) d_Mo_pairOf_7 rfl ?_
    exact Ev.to (Ev.ireturn d_Mo_pairOf_22 rfl) (ri (by unfold pairS; split <;> (try split) <;> omega)) rfl
theorem c_Mo_areKnots {d n : Int} (h1 : -2147483648 ≤ d ∧ d ≤ 2147483647) (h2 : -2147483648 ≤ n ∧ n ≤ 2147483647) : Call 2 m_Mo_areKnots [vi d, vi n] σ m (some (vi (b01 (1 ≤ d ∧ d ≤ 4 ∧ 0 ≤ n ∧ n ≤ 6)))) σ m := by
  show Ev 2 m_Mo_areKnots 0 [some (vi d), some (vi n)] [] σ m _ σ m
  refine Ev.iload_n d_Mo_areKnots_0 rfl ?_
  refine Ev.i2l d_Mo_areKnots_1 (by omega) ?_
  refine Ev.lconst (x := 1) d_Mo_areKnots_2 rfl ?_
  refine Ev.ldc2 (x := 4) d_Mo_areKnots_3 kl_Mo_111 ?_
  refine Ev.callS d_Mo_areKnots_6 mt_Mo_in lk_Mo_107 st_Mo_in rfl (Nat.le_of_ble_eq_true rfl) rfl (Nat.le_of_ble_eq_true rfl) (by decide) rfl (c_Mo_in (by omega) (by omega) (by omega)) ?_
  refine Ev.if_eq (tgt := 28) d_Mo_areKnots_9 rfl b01_b (fun hb9 => ?_) (fun hb9 => ?_)
  · rw [b01_eq] at hb9
    refine Ev.iconst d_Mo_areKnots_28 ?_
    exact Ev.to (Ev.zreturn d_Mo_areKnots_29 rfl (by first | omega | exact b01_01)) (r0 (by omega)) rfl
  · rw [b01_ne] at hb9
    refine Ev.iload_n d_Mo_areKnots_12 rfl ?_
    refine Ev.i2l d_Mo_areKnots_13 (by omega) ?_
    refine Ev.lconst (x := 0) d_Mo_areKnots_14 rfl ?_
    refine Ev.ldc2 (x := 6) d_Mo_areKnots_15 kl_Mo_132 ?_
    refine Ev.callS d_Mo_areKnots_18 mt_Mo_in lk_Mo_107 st_Mo_in rfl (Nat.le_of_ble_eq_true rfl) rfl (Nat.le_of_ble_eq_true rfl) (by decide) rfl (c_Mo_in (by omega) (by omega) (by omega)) ?_
    refine Ev.if_eq (tgt := 28) d_Mo_areKnots_21 rfl b01_b (fun hb21 => ?_) (fun hb21 => ?_)
    · rw [b01_eq] at hb21
      refine Ev.iconst d_Mo_areKnots_28 ?_
      exact Ev.to (Ev.zreturn d_Mo_areKnots_29 rfl (by first | omega | exact b01_01)) (r0 (by omega)) rfl
    · rw [b01_ne] at hb21
      refine Ev.iconst d_Mo_areKnots_24 ?_
      refine Ev.goto (tgt := 29) d_Mo_areKnots_25 rfl ?_
      exact Ev.to (Ev.zreturn d_Mo_areKnots_29 rfl (by first | omega | exact b01_01)) (r1 (by omega)) rfl
theorem lp_Mo_outOf (hM : MoS σ) {p f n : Int} (hp : 0 ≤ p ∧ p ≤ 8) (hf : -2147483648 ≤ f ∧ f ≤ 2147483647) (hn : m 59 p = n) (h6 : 0 ≤ n ∧ n ≤ 6) : ∀ (l : List Int) (k acc res : Int), At m k l → k + l.length = 6 * p + n → 6 * p ≤ k → res = acc + outL f l → Ev 1 m_Mo_outOf 8 [some (vr 57), some (vi p), some (vi f), some (vi acc), some (vi k)] [] σ m (some (vi res)) σ m
  | [], k, acc, res, hA, he, hk, hres => by
    simp only [List.length_nil, outL] at he hres
    refine Ev.iload d_Mo_outOf_8 rfl ?_
    refine Ev.bipush d_Mo_outOf_10 rfl ?_
    refine Ev.iload_n d_Mo_outOf_12 rfl ?_
    refine Ev.imul d_Mo_outOf_13 ?_
    refine Ev.aload_n d_Mo_outOf_14 rfl ?_
    refine Ev.gr 2 d_Mo_outOf_15 lf_Mo_13 rfl rfl (is_57 hM) (by decide) (rf_57_2 hM) ?_
    refine Ev.iload_n d_Mo_outOf_18 rfl ?_
    refine Ev.iaload d_Mo_outOf_19 (is_59 hM) (by omega) ?_
    refine Ev.iadd d_Mo_outOf_20 ?_
    refine Ev.icmp_ge (tgt := 77) d_Mo_outOf_21 rfl (by omega) (by omega) (fun hb21 => ?_) (fun hb21 => by exfalso; first | omega | simp at hb21 | contradiction)
    refine Ev.iload_n d_Mo_outOf_77 rfl ?_
    exact Ev.to (Ev.ireturn d_Mo_outOf_78 rfl) (ri (by omega)) rfl
  | s :: t, k, acc, res, hA, he, hk, hres => by
    obtain ⟨⟨e1, e2, e3⟩, hA2⟩ := hA
    have b1 := fS_b s
    have b2 := tS_b s
    have b3 := wS_b s
    simp only [List.length_cons] at he
    simp only [outL, oc] at hres
    refine Ev.iload d_Mo_outOf_8 rfl ?_
    refine Ev.bipush d_Mo_outOf_10 rfl ?_
    refine Ev.iload_n d_Mo_outOf_12 rfl ?_
    refine Ev.imul d_Mo_outOf_13 ?_
    refine Ev.aload_n d_Mo_outOf_14 rfl ?_
    refine Ev.gr 2 d_Mo_outOf_15 lf_Mo_13 rfl rfl (is_57 hM) (by decide) (rf_57_2 hM) ?_
    refine Ev.iload_n d_Mo_outOf_18 rfl ?_
    refine Ev.iaload d_Mo_outOf_19 (is_59 hM) (by omega) ?_
    refine Ev.iadd d_Mo_outOf_20 ?_
    refine Ev.icmp_ge (tgt := 77) d_Mo_outOf_21 rfl (by omega) (by omega) (fun hb21 => by exfalso; first | omega | simp at hb21 | contradiction) (fun hb21 => ?_)
    refine Ev.iload_n d_Mo_outOf_24 rfl ?_
    refine Ev.aload_n d_Mo_outOf_25 rfl ?_
    refine Ev.gr 3 d_Mo_outOf_26 lf_Mo_16 rfl rfl (is_57 hM) (by decide) (rf_57_3 hM) ?_
    refine Ev.iload d_Mo_outOf_29 rfl ?_
    refine Ev.iaload d_Mo_outOf_31 (is_60 hM) (by omega) ?_
    refine Ev.iload_n d_Mo_outOf_32 rfl ?_
    refine Ev.icmp_ne (tgt := 46) d_Mo_outOf_33 rfl (by omega) (by omega) (fun hb33 => ?_) (fun hb33 => ?_)
    · refine Ev.aload_n d_Mo_outOf_46 rfl ?_
      refine Ev.gr 4 d_Mo_outOf_47 lf_Mo_19 rfl rfl (is_57 hM) (by decide) (rf_57_4 hM) ?_
      refine Ev.iload d_Mo_outOf_50 rfl ?_
      refine Ev.iaload d_Mo_outOf_52 (is_61 hM) (by omega) ?_
      refine Ev.iload_n d_Mo_outOf_53 rfl ?_
      refine Ev.icmp_ne (tgt := 68) d_Mo_outOf_54 rfl (by omega) (by omega) (fun hb54 => ?_) (fun hb54 => ?_)
      · refine Ev.iconst d_Mo_outOf_68 ?_
        refine Ev.iadd d_Mo_outOf_69 ?_
        refine Ev.istore_3 d_Mo_outOf_70 rfl ?_
        refine Ev.iinc_4 d_Mo_outOf_71 rfl ?_
        refine Ev.goto (tgt := 8) d_Mo_outOf_74 rfl ?_
        exact lp_Mo_outOf hM hp hf hn h6 t (k + 1) _ res hA2 (by omega) (by omega) (by split at hres <;> (try split at hres) <;> omega)
      · refine Ev.aload_n d_Mo_outOf_57 rfl ?_
        refine Ev.gr 5 d_Mo_outOf_58 lf_Mo_22 rfl rfl (is_57 hM) (by decide) (rf_57_5 hM) ?_
        refine Ev.iload d_Mo_outOf_61 rfl ?_
        refine Ev.iaload d_Mo_outOf_63 (is_62 hM) (by omega) ?_
        refine Ev.ineg d_Mo_outOf_64 ?_
        refine Ev.goto (tgt := 69) d_Mo_outOf_65 rfl ?_
        refine Ev.iadd d_Mo_outOf_69 ?_
        refine Ev.istore_3 d_Mo_outOf_70 rfl ?_
        refine Ev.iinc_4 d_Mo_outOf_71 rfl ?_
        refine Ev.goto (tgt := 8) d_Mo_outOf_74 rfl ?_
        exact lp_Mo_outOf hM hp hf hn h6 t (k + 1) _ res hA2 (by omega) (by omega) (by split at hres <;> (try split at hres) <;> omega)
    · refine Ev.aload_n d_Mo_outOf_36 rfl ?_
      refine Ev.gr 5 d_Mo_outOf_37 lf_Mo_22 rfl rfl (is_57 hM) (by decide) (rf_57_5 hM) ?_
      refine Ev.iload d_Mo_outOf_40 rfl ?_
      refine Ev.iaload d_Mo_outOf_42 (is_62 hM) (by omega) ?_
      refine Ev.goto (tgt := 69) d_Mo_outOf_43 rfl ?_
      refine Ev.iadd d_Mo_outOf_69 ?_
      refine Ev.istore_3 d_Mo_outOf_70 rfl ?_
      refine Ev.iinc_4 d_Mo_outOf_71 rfl ?_
      refine Ev.goto (tgt := 8) d_Mo_outOf_74 rfl ?_
      exact lp_Mo_outOf hM hp hf hn h6 t (k + 1) _ res hA2 (by omega) (by omega) (by split at hres <;> (try split at hres) <;> omega)
theorem c_Mo_outOf (hM : MoS σ) {p f : Int} {l : List Int} (hp : 0 ≤ p ∧ p ≤ 8) (hf : -2147483648 ≤ f ∧ f ≤ 2147483647) (hn : m 59 p = l.length) (h6 : l.length ≤ 6) (hA : At m (6 * p) l) : Call 1 m_Mo_outOf [vr 57, vi p, vi f] σ m (some (vi (outL f l))) σ m := by
  show Ev 1 m_Mo_outOf 0 [some (vr 57), some (vi p), some (vi f), none, none] [] σ m _ σ m
  refine Ev.iconst d_Mo_outOf_0 ?_
  refine Ev.istore_3 d_Mo_outOf_1 rfl ?_
  refine Ev.bipush d_Mo_outOf_2 rfl ?_
  refine Ev.iload_n d_Mo_outOf_4 rfl ?_
  refine Ev.imul d_Mo_outOf_5 ?_
  refine Ev.istore_4 d_Mo_outOf_6 rfl ?_
  exact lp_Mo_outOf hM hp hf hn (by omega) l _ _ _ hA (by omega) (by omega) (by omega)
end
