/-! tangents of the class: rows entered, one row added to another -/
def CRl : List Int := [1, 32768, 2, 8, 32769, 65536, 262144, 3, 9, 64, 32770, 32776, 65537, 98304, 262145, 294912, 2097152, 4, 10, 16, 65, 512, 32771, 32777, 32832, 65538, 65544, 98305, 131072, 262146, 262152, 294913, 327680, 524288, 2097153, 2129920, 16777216, 5, 11, 17, 66, 72, 513, 4096, 32772, 32778, 32784, 32833, 33280, 65539, 65545, 65600, 98306, 98312, 131073, 163840, 262147, 262153, 262208, 294914, 294920, 327681, 360448, 524289, 557056, 2097154, 2097160, 2129921, 2162688, 2359296, 16777217, 16809984, 134217728]
def fstl : List Nat := [0, 0, 2, 7, 17, 37, 73]
def pil : List Nat := [35, 6, 55, 25, 40, 11, 3, 65, 50, 21, 58, 28, 43, 14, 38, 9, 2, 70, 63, 33, 48, 19, 67, 52, 23, 60, 30, 45, 16, 57, 27, 42, 13, 5, 37, 8, 1, 72, 69, 54, 62, 32, 47, 18, 71, 64, 34, 49, 20, 68, 53, 24, 61, 31, 46, 17, 66, 51, 22, 59, 29, 44, 15, 39, 10, 56, 26, 41, 12, 4, 36, 7, 0]
def cr (i : Nat) : Int := CRl.getD i 0
def fst_ (d : Nat) : Nat := fstl.getD d 0
def cv (i n : Nat) : Int := wt (pil.getD i 0) n
def erR (F : Int → Int → List Int) (k o left made : Int) : Nat → Int → List Int
  | 0, _ => []
  | n + 1, t => F (left - t * k) (made + t * o) ++ erR F k o left made n (t + 1)
def er : Nat → Int → Int → List Int
  | 0, left, made => if left = 0 then [made] else []
  | q + 1, left, made => erR (er q) ((q : Int) % 5 + 1) (o8 ((q : Int) / 5) ((q : Int) % 5 + 1)) left made (left / ((q : Int) % 5 + 1) + 1).toNat 0
def RWl (m : Mm) (L : List Int) : Prop := m 19 3 = L.length ∧ ∀ i : Nat, i < L.length → m 20 i = L.getD i 0
def FrU (m m' : Mm) : Prop := ∀ b j : Int, ¬ (b = 19 ∧ j = 3) → b ≠ 20 → m' b j = m b j
theorem FrU.tr {m m1 m2 : Mm} (h : FrU m m1) (g : FrU m1 m2) : FrU m m2 := fun b j x y => (g b j x y).trans (h b j x y)
section
variable {σ : Sg} {m : Mm}
theorem c_Rows_figureOfField {f : Int} (hf : 0 ≤ f ∧ f ≤ 9) : Call 1 m_Rows_figureOfField [vi f] σ m (some (vi (f % 5 + 1))) σ m := by
  show Ev 1 m_Rows_figureOfField 0 [some (vi f)] [] σ m _ σ m
  refine Ev.iload_n d_Rows_figureOfField_0 rfl ?_
  refine Ev.iconst d_Rows_figureOfField_1 ?_
  refine Ev.irem d_Rows_figureOfField_2 (by first | omega | (simp [mu]; done) | (simp [mu]; omega)) (by first | omega | (simp [mu]; done) | (simp [mu]; omega)) ?_
  refine Ev.iconst d_Rows_figureOfField_3 ?_
  refine Ev.iadd d_Rows_figureOfField_4 ?_
  exact Ev.to (Ev.ireturn d_Rows_figureOfField_5 rfl) rfl rfl
theorem c_Rows_oneOfField {f : Int} (hf : 0 ≤ f ∧ f ≤ 9) : Call 2 m_Rows_oneOfField [vi f] σ m (some (vi (o8 (f / 5) (f % 5 + 1)))) σ m := by
  show Ev 2 m_Rows_oneOfField 0 [some (vi f)] [] σ m _ σ m
  refine Ev.iload_n d_Rows_oneOfField_0 rfl ?_
  refine Ev.iconst d_Rows_oneOfField_1 ?_
  refine Ev.idiv d_Rows_oneOfField_2 (by first | omega | (simp [mu]; done) | (simp [mu]; omega)) (by first | omega | (simp [mu]; done) | (simp [mu]; omega)) ?_
  refine Ev.iload_n d_Rows_oneOfField_3 rfl ?_
  refine Ev.callS d_Rows_oneOfField_4 mt_Rows_figureOfField lk_Rows_11 st_Rows_figureOfField rfl (Nat.le_of_ble_eq_true rfl) rfl (Nat.le_of_ble_eq_true rfl) (by decide) rfl (c_Rows_figureOfField hf) ?_
  refine Ev.callS d_Rows_oneOfField_7 mt_Rows_one lk_Rows_15 st_Rows_one rfl (Nat.le_of_ble_eq_true rfl) rfl (Nat.le_of_ble_eq_true rfl) (by decide) rfl (c_Rows_one (by omega) (by omega)) ?_
  exact Ev.to (Ev.ireturn d_Rows_oneOfField_10 rfl) rfl rfl
theorem lp_Tg_enter {D : Nat} (hD : 3 ≤ D) (hF : FcS σ) {f left made k o_ : Int} {F : Int → Int → List Int} (hf : 0 ≤ f ∧ f ≤ 9) (hk : f % 5 + 1 = k) (ho : o8 (f / 5) (f % 5 + 1) = o_) (hl : 0 ≤ left ∧ left ≤ 5) (H : ∀ (left made : Int) (L : List Int) (m : Mm), 0 ≤ left ∧ left ≤ 5 → RWl m L → L.length + (F left made).length ≤ 73 → ∃ m', Call D m_Tg_enterRows [vr 19, vi (f - 1), vi left, vi made] σ m none σ m' ∧ RWl m' (L ++ F left made) ∧ FrU m m') : ∀ (n : Nat) (t : Int) (L : List Int) (m : Mm), 0 ≤ t → t + n = left / k + 1 → RWl m L → L.length + (erR F k o_ left made n t).length ≤ 73 → ∃ mF, Ev (D + 1) m_Tg_enterRows 47 [some (vr 19), some (vi f), some (vi left), some (vi made), some (vi k), some (vi t)] [] σ m none σ mF ∧ RWl mF (L ++ erR F k o_ left made n t) ∧ FrU m mF
  | 0, t, L, m, h0, ht, hL, hn => by
    have hkb : 1 ≤ k ∧ k ≤ 5 := by omega
    have hkt : left < t * k := by
      have : left / k < t := by omega
      exact (Int.ediv_lt_iff_lt_mul (by omega)).mp this
    have hkt2 : t * k ≤ 100 := by
      have h1 : t ≤ 6 := by have := Int.ediv_le_self k hl.1; omega
      have : t * k ≤ 6 * 5 := Int.mul_le_mul h1 hkb.2 (by omega) (by omega)
      omega
    simp only [erR, List.append_nil]
    refine ⟨m, ?_, hL, fun _ _ _ _ => rfl⟩
    refine Ev.iload d_Tg_enterRows_47 rfl ?_
    refine Ev.iload d_Tg_enterRows_49 rfl ?_
    refine Ev.imul d_Tg_enterRows_51 ?_
    refine Ev.iload_n d_Tg_enterRows_52 rfl ?_
    refine Ev.icmp_gt (tgt := 85) d_Tg_enterRows_53 rfl (by first | omega | (simp [mu]; done) | (simp [mu]; omega)) (by first | omega | (simp [mu]; done) | (simp [mu]; omega)) (fun hb53 => ?_) (fun hb53 => by exfalso; first | omega | simp at hb53 | contradiction)
    exact Ev.to (Ev.return d_Tg_enterRows_85 rfl) rfl rfl
  | n + 1, t, L, m, h0, ht, hL, hn => by
    have hkb : 1 ≤ k ∧ k ≤ 5 := by omega
    have hkt : t * k ≤ left := by
      have : t ≤ left / k := by omega
      exact (Int.le_ediv_iff_mul_le (by omega)).mp this
    have hkt2 : 0 ≤ t * k := Int.mul_nonneg h0 (by omega)
    simp only [erR] at hn ⊢
    rw [List.length_append] at hn
    obtain ⟨m1, q1, q2, q3⟩ := H (left - t * k) (made + t * o_) L m (by omega) hL (by omega)
    obtain ⟨mF, g1, g2, g3⟩ := lp_Tg_enter hD hF hf hk ho hl H (made := made) n (t + 1) _ m1 (by omega) (by omega) q2 (by rw [List.length_append]; omega)
    rw [List.append_assoc] at g2
    refine ⟨mF, ?_, g2, q3.tr g3⟩
    have co := c_Rows_oneOfField (σ := σ) (m := m) hf
    rw [ho] at co
    refine Ev.iload d_Tg_enterRows_47 rfl ?_
    refine Ev.iload d_Tg_enterRows_49 rfl ?_
    refine Ev.imul d_Tg_enterRows_51 ?_
    refine Ev.iload_n d_Tg_enterRows_52 rfl ?_
    refine Ev.icmp_gt (tgt := 85) d_Tg_enterRows_53 rfl (by first | omega | (simp [mu]; done) | (simp [mu]; omega)) (by first | omega | (simp [mu]; done) | (simp [mu]; omega)) (fun hb53 => by exfalso; first | omega | simp at hb53 | contradiction) (fun hb53 => ?_)
    refine Ev.aload_n d_Tg_enterRows_56 rfl ?_
    refine Ev.iload_n d_Tg_enterRows_57 rfl ?_
    refine Ev.iconst d_Tg_enterRows_58 ?_
    refine Ev.isub d_Tg_enterRows_59 ?_
    refine Ev.iload_n d_Tg_enterRows_60 rfl ?_
    refine Ev.iload d_Tg_enterRows_61 rfl ?_
    refine Ev.iload d_Tg_enterRows_63 rfl ?_
    refine Ev.imul d_Tg_enterRows_65 ?_
    refine Ev.isub d_Tg_enterRows_66 ?_
    refine Ev.iload_n d_Tg_enterRows_67 rfl ?_
    refine Ev.iload d_Tg_enterRows_68 rfl ?_
    refine Ev.iload_n d_Tg_enterRows_70 rfl ?_
    refine Ev.callS d_Tg_enterRows_71 mt_Rows_oneOfField lk_Tg_57 st_Rows_oneOfField rfl (Nat.le_of_ble_eq_true rfl) rfl (Nat.le_of_ble_eq_true rfl) (by omega) rfl co ?_
    refine Ev.imul d_Tg_enterRows_74 ?_
    refine Ev.iadd d_Tg_enterRows_75 ?_
    refine Ev.callVv d_Tg_enterRows_76 mt_Tg_enterRows lk_Tg_43 in_Tg_enterRows se_Tg_enterRows rfl (Nat.le_of_ble_eq_true rfl) rfl (Nat.le_of_ble_eq_true rfl) (by omega) (fi_19 hF) (by decide) rfl rfl q1 ?_
    refine Ev.iinc_5 d_Tg_enterRows_79 rfl ?_
    refine Ev.goto (tgt := 47) d_Tg_enterRows_82 rfl ?_
    exact g1
theorem c_Tg_enter (hF : FcS σ) : ∀ (q : Nat) (left made : Int) (L : List Int) (m : Mm), q ≤ 10 → 0 ≤ left ∧ left ≤ 5 → RWl m L → L.length + (er q left made).length ≤ 73 → ∃ m', Call (3 + q) m_Tg_enterRows [vr 19, vi ((q : Int) - 1), vi left, vi made] σ m none σ m' ∧ RWl m' (L ++ er q left made) ∧ FrU m m' := by
  intro q
  induction q with
  | zero =>
    intro left made L m hq hl hL hn
    have e3 := hL.1
    by_cases h : left = 0
    · have e : er 0 left made = [made] := if_pos h
      rw [e] at hn ⊢
      simp only [List.length_cons, List.length_nil] at hn
      have e3' : mu m 20 L.length made 19 3 = L.length := by rw [mu_a (by decide)]; exact e3
      refine ⟨mu (mu m 20 L.length made) 19 3 ((L.length : Int) + 1), ?_, ⟨?_, fun i hi => ?_⟩, fun b j x y => ?_⟩
      rotate_left
      · rw [mu_s, List.length_append]; simp
      · rw [mu_a (by decide)]
        rw [List.length_append] at hi
        simp only [List.length_cons, List.length_nil] at hi
        by_cases ei : i = L.length
        · rw [ei, mu_s, List.getD_eq_getElem?_getD, List.getElem?_append_right (Nat.le_refl _), Nat.sub_self]; rfl
        · rw [mu_n (Or.inr (by omega)), hL.2 i (by omega), List.getD_eq_getElem?_getD, List.getD_eq_getElem?_getD, List.getElem?_append_left (by omega)]
      · rw [mu_n (by omega), mu_a y]
      show Ev 3 m_Tg_enterRows 0 [some (vr 19), some (vi (((0 : Nat) : Int) - 1)), some (vi left), some (vi made), none, none] [] σ m _ σ _
      refine Ev.iload_n d_Tg_enterRows_0 rfl ?_
      refine Ev.if_ge (tgt := 38) d_Tg_enterRows_1 rfl (by first | omega | (simp [mu]; done) | (simp [mu]; omega)) (fun hb1 => by exfalso; first | omega | simp at hb1 | contradiction) (fun hb1 => ?_)
      refine Ev.iload_n d_Tg_enterRows_4 rfl ?_
      refine Ev.if_ne (tgt := 37) d_Tg_enterRows_5 rfl (by first | omega | (simp [mu]; done) | (simp [mu]; omega)) (fun hb5 => by exfalso; first | omega | simp at hb5 | contradiction) (fun hb5 => ?_)
      refine Ev.aload_n d_Tg_enterRows_8 rfl ?_
      refine Ev.gf 3 d_Tg_enterRows_9 lf_Tg_40 rfl rfl (fi_19 hF) (by decide) ?_
      rw [e3]
      refine Ev.bipush d_Tg_enterRows_12 rfl ?_
      refine Ev.icmp_ge (tgt := 37) d_Tg_enterRows_14 rfl (by first | omega | (simp [mu]; done) | (simp [mu]; omega)) (by first | omega | (simp [mu]; done) | (simp [mu]; omega)) (fun hb14 => by exfalso; first | omega | simp at hb14 | contradiction) (fun hb14 => ?_)
      refine Ev.aload_n d_Tg_enterRows_17 rfl ?_
      refine Ev.gr 0 d_Tg_enterRows_18 lf_Tg_11 rfl rfl (fi_19 hF) (by decide) (fr_19_0 hF) ?_
      refine Ev.aload_n d_Tg_enterRows_21 rfl ?_
      refine Ev.gf 3 d_Tg_enterRows_22 lf_Tg_40 rfl rfl (fi_19 hF) (by decide) ?_
      rw [e3]
      refine Ev.iload_n d_Tg_enterRows_25 rfl ?_
      refine Ev.iastore d_Tg_enterRows_26 (fi_20 hF) (by decide) (by first | omega | (simp [mu]; done) | (simp [mu]; omega)) ?_
      refine Ev.aload_n d_Tg_enterRows_27 rfl ?_
      refine Ev.dup d_Tg_enterRows_28 rfl ?_
      refine Ev.gf 3 d_Tg_enterRows_29 lf_Tg_40 rfl rfl (fi_19 hF) (by decide) ?_
      rw [e3']
      refine Ev.iconst d_Tg_enterRows_32 ?_
      refine Ev.iadd d_Tg_enterRows_33 ?_
      refine Ev.pf 3 d_Tg_enterRows_34 lf_Tg_40 rfl rfl rfl rfl (fi_19 hF) (by decide) ?_
      exact Ev.to (Ev.return d_Tg_enterRows_37 rfl) rfl rfl
    · have e : er 0 left made = [] := if_neg h
      rw [e, List.append_nil]
      refine ⟨m, ?_, hL, fun _ _ _ _ => rfl⟩
      show Ev 3 m_Tg_enterRows 0 [some (vr 19), some (vi (((0 : Nat) : Int) - 1)), some (vi left), some (vi made), none, none] [] σ m _ σ _
      refine Ev.iload_n d_Tg_enterRows_0 rfl ?_
      refine Ev.if_ge (tgt := 38) d_Tg_enterRows_1 rfl (by first | omega | (simp [mu]; done) | (simp [mu]; omega)) (fun hb1 => by exfalso; first | omega | simp at hb1 | contradiction) (fun hb1 => ?_)
      refine Ev.iload_n d_Tg_enterRows_4 rfl ?_
      refine Ev.if_ne (tgt := 37) d_Tg_enterRows_5 rfl (by first | omega | (simp [mu]; done) | (simp [mu]; omega)) (fun hb5 => ?_) (fun hb5 => by exfalso; first | omega | simp at hb5 | contradiction)
      exact Ev.to (Ev.return d_Tg_enterRows_37 rfl) rfl rfl
  | succ q ih =>
    intro left made L m hq hl hL hn
    have eq1 : ((q + 1 : Nat) : Int) - 1 = (q : Int) := by omega
    simp only [er] at hn ⊢
    rw [eq1]
    have hdv : 0 ≤ left / ((q : Int) % 5 + 1) := Int.ediv_nonneg hl.1 (by omega)
    obtain ⟨mF, g1, g2, g3⟩ := lp_Tg_enter (D := 3 + q) (by omega) hF (f := q) (left := left) (made := made) (F := er q) (by omega) rfl rfl hl (fun l1 m1 L m a b c => ih l1 m1 L m (by omega) a b c) (left / ((q : Int) % 5 + 1) + 1).toNat 0 L m (by decide) (by omega) hL hn
    refine ⟨mF, ?_, g2, g3⟩
    show Ev (3 + q + 1) m_Tg_enterRows 0 [some (vr 19), some (vi (q : Int)), some (vi left), some (vi made), none, none] [] σ m _ σ _
    refine Ev.iload_n d_Tg_enterRows_0 rfl ?_
    refine Ev.if_ge (tgt := 38) d_Tg_enterRows_1 rfl (by first | omega | (simp [mu]; done) | (simp [mu]; omega)) (fun hb1 => ?_) (fun hb1 => by exfalso; first | omega | simp at hb1 | contradiction)
    refine Ev.iload_n d_Tg_enterRows_38 rfl ?_
    refine Ev.callS d_Tg_enterRows_39 mt_Rows_figureOfField lk_Tg_54 st_Rows_figureOfField rfl (Nat.le_of_ble_eq_true rfl) rfl (Nat.le_of_ble_eq_true rfl) (by omega) rfl (c_Rows_figureOfField (by omega)) ?_
    refine Ev.istore_4 d_Tg_enterRows_42 rfl ?_
    refine Ev.iconst d_Tg_enterRows_44 ?_
    refine Ev.istore_5 d_Tg_enterRows_45 rfl ?_
    exact g1
def ixS (a : Int) : Nat → Nat → Int
  | 0, _ => -1
  | q + 1, r => if cr r = a then r else ixS a q (r + 1)
def ixC (d : Nat) (a : Int) : Int := ixS a (fst_ (d + 1) - fst_ d) (fst_ d)
def RC (m : Mm) (N : Nat) : Prop := ∀ i : Nat, i < N → m 20 i = cr i
def RF (m : Mm) (D : Nat) : Prop := ∀ d : Nat, 1 ≤ d → d ≤ D → m 22 d = fst_ d
theorem fst_b : ∀ d : Nat, d < 7 → fst_ d ≤ 73 ∧ (d < 6 → fst_ d ≤ fst_ (d + 1)) := by decide +kernel
theorem cr_b : ∀ i : Nat, i < 73 → 0 ≤ cr i ∧ cr i ≤ 1073741823 := by decide +kernel
theorem lp_Tg_indexOf (hF : FcS σ) {d e : Nat} {a : Int} (hd : 1 ≤ d ∧ d ≤ 5) (ha : -2147483648 ≤ a ∧ a ≤ 2147483647) (he : e ≤ 73) (h22 : m 22 ((d : Int) + 1) = e) (hR : RC m e) : ∀ (q r : Nat), r + q = e → Ev 1 m_Tg_indexOf 19 [some (vr 19), some (vi d), some (vi a), some (vi r)] [] σ m (some (vi (ixS a q r))) σ m
  | 0, r, hr => by
    simp only [ixS]
    refine Ev.iload_n d_Tg_indexOf_19 rfl ?_
    refine Ev.aload_n d_Tg_indexOf_20 rfl ?_
    refine Ev.gr 2 d_Tg_indexOf_21 lf_Tg_19 rfl rfl (fi_19 hF) (by decide) (fr_19_2 hF) ?_
    refine Ev.iload_n d_Tg_indexOf_24 rfl ?_
    refine Ev.iconst d_Tg_indexOf_25 ?_
    refine Ev.iadd d_Tg_indexOf_26 ?_
    refine Ev.iaload d_Tg_indexOf_27 (fi_22 hF) (by first | omega | (simp [mu]; done) | (simp [mu]; omega)) ?_
    rw [h22]
    refine Ev.icmp_ge (tgt := 55) d_Tg_indexOf_28 rfl (by first | omega | (simp [mu]; done) | (simp [mu]; omega)) (by first | omega | (simp [mu]; done) | (simp [mu]; omega)) (fun hb28 => ?_) (fun hb28 => by exfalso; first | omega | simp at hb28 | contradiction)
    refine Ev.iconst d_Tg_indexOf_55 ?_
    exact Ev.to (Ev.ireturn d_Tg_indexOf_56 rfl) rfl rfl
  | q + 1, r, hr => by
    have e20 := hR r (by omega)
    have hc := cr_b r (by omega)
    by_cases h : cr r = a
    · have e : ixS a (q + 1) r = r := if_pos h
      rw [e]
      refine Ev.iload_n d_Tg_indexOf_19 rfl ?_
      refine Ev.aload_n d_Tg_indexOf_20 rfl ?_
      refine Ev.gr 2 d_Tg_indexOf_21 lf_Tg_19 rfl rfl (fi_19 hF) (by decide) (fr_19_2 hF) ?_
      refine Ev.iload_n d_Tg_indexOf_24 rfl ?_
      refine Ev.iconst d_Tg_indexOf_25 ?_
      refine Ev.iadd d_Tg_indexOf_26 ?_
      refine Ev.iaload d_Tg_indexOf_27 (fi_22 hF) (by first | omega | (simp [mu]; done) | (simp [mu]; omega)) ?_
      rw [h22]
      refine Ev.icmp_ge (tgt := 55) d_Tg_indexOf_28 rfl (by first | omega | (simp [mu]; done) | (simp [mu]; omega)) (by first | omega | (simp [mu]; done) | (simp [mu]; omega)) (fun hb28 => by exfalso; first | omega | simp at hb28 | contradiction) (fun hb28 => ?_)
      refine Ev.iload_n d_Tg_indexOf_31 rfl ?_
      refine Ev.bipush d_Tg_indexOf_32 rfl ?_
      refine Ev.icmp_ge (tgt := 55) d_Tg_indexOf_34 rfl (by first | omega | (simp [mu]; done) | (simp [mu]; omega)) (by first | omega | (simp [mu]; done) | (simp [mu]; omega)) (fun hb34 => by exfalso; first | omega | simp at hb34 | contradiction) (fun hb34 => ?_)
      refine Ev.aload_n d_Tg_indexOf_37 rfl ?_
      refine Ev.gr 0 d_Tg_indexOf_38 lf_Tg_11 rfl rfl (fi_19 hF) (by decide) (fr_19_0 hF) ?_
      refine Ev.iload_n d_Tg_indexOf_41 rfl ?_
      refine Ev.iaload d_Tg_indexOf_42 (fi_20 hF) (by first | omega | (simp [mu]; done) | (simp [mu]; omega)) ?_
      rw [e20]
      refine Ev.iload_n d_Tg_indexOf_43 rfl ?_
      refine Ev.icmp_ne (tgt := 49) d_Tg_indexOf_44 rfl (by first | omega | (simp [mu]; done) | (simp [mu]; omega)) (by first | omega | (simp [mu]; done) | (simp [mu]; omega)) (fun hb44 => by exfalso; first | omega | simp at hb44 | contradiction) (fun hb44 => ?_)
      refine Ev.iload_n d_Tg_indexOf_47 rfl ?_
      exact Ev.to (Ev.ireturn d_Tg_indexOf_48 rfl) rfl rfl
    · have e : ixS a (q + 1) r = ixS a q (r + 1) := if_neg h
      rw [e]
      refine Ev.iload_n d_Tg_indexOf_19 rfl ?_
      refine Ev.aload_n d_Tg_indexOf_20 rfl ?_
      refine Ev.gr 2 d_Tg_indexOf_21 lf_Tg_19 rfl rfl (fi_19 hF) (by decide) (fr_19_2 hF) ?_
      refine Ev.iload_n d_Tg_indexOf_24 rfl ?_
      refine Ev.iconst d_Tg_indexOf_25 ?_
      refine Ev.iadd d_Tg_indexOf_26 ?_
      refine Ev.iaload d_Tg_indexOf_27 (fi_22 hF) (by first | omega | (simp [mu]; done) | (simp [mu]; omega)) ?_
      rw [h22]
      refine Ev.icmp_ge (tgt := 55) d_Tg_indexOf_28 rfl (by first | omega | (simp [mu]; done) | (simp [mu]; omega)) (by first | omega | (simp [mu]; done) | (simp [mu]; omega)) (fun hb28 => by exfalso; first | omega | simp at hb28 | contradiction) (fun hb28 => ?_)
      refine Ev.iload_n d_Tg_indexOf_31 rfl ?_
      refine Ev.bipush d_Tg_indexOf_32 rfl ?_
      refine Ev.icmp_ge (tgt := 55) d_Tg_indexOf_34 rfl (by first | omega | (simp [mu]; done) | (simp [mu]; omega)) (by first | omega | (simp [mu]; done) | (simp [mu]; omega)) (fun hb34 => by exfalso; first | omega | simp at hb34 | contradiction) (fun hb34 => ?_)
      refine Ev.aload_n d_Tg_indexOf_37 rfl ?_
      refine Ev.gr 0 d_Tg_indexOf_38 lf_Tg_11 rfl rfl (fi_19 hF) (by decide) (fr_19_0 hF) ?_
      refine Ev.iload_n d_Tg_indexOf_41 rfl ?_
      refine Ev.iaload d_Tg_indexOf_42 (fi_20 hF) (by first | omega | (simp [mu]; done) | (simp [mu]; omega)) ?_
      rw [e20]
      refine Ev.iload_n d_Tg_indexOf_43 rfl ?_
      refine Ev.icmp_ne (tgt := 49) d_Tg_indexOf_44 rfl (by first | omega | (simp [mu]; done) | (simp [mu]; omega)) (by first | omega | (simp [mu]; done) | (simp [mu]; omega)) (fun hb44 => ?_) (fun hb44 => by exfalso; first | omega | simp at hb44 | contradiction)
      refine Ev.iinc_3 d_Tg_indexOf_49 rfl ?_
      refine Ev.goto (tgt := 19) d_Tg_indexOf_52 rfl ?_
      exact lp_Tg_indexOf hF hd ha he h22 hR q (r + 1) (by omega)
theorem c_Tg_indexOf (hF : FcS σ) {d : Nat} {a : Int} (hd : 1 ≤ d ∧ d ≤ 5) (ha : -2147483648 ≤ a ∧ a ≤ 2147483647) (hf : RF m (d + 1)) (hR : RC m (fst_ (d + 1))) : Call 1 m_Tg_indexOf [vr 19, vi d, vi a] σ m (some (vi (ixC d a))) σ m := by
  have hfa := fst_b d (by omega)
  have hfb := fst_b (d + 1) (by omega)
  have e1 := hf d (by omega) (by omega)
  have e2 := hf (d + 1) (by omega) (by omega)
  push_cast at e2
  show Ev 1 m_Tg_indexOf 0 [some (vr 19), some (vi d), some (vi a), none] [] σ m _ σ m
  refine Ev.iload_n d_Tg_indexOf_0 rfl ?_
  refine Ev.iconst d_Tg_indexOf_1 ?_
  refine Ev.icmp_lt (tgt := 10) d_Tg_indexOf_2 rfl (by first | omega | (simp [mu]; done) | (simp [mu]; omega)) (by first | omega | (simp [mu]; done) | (simp [mu]; omega)) (fun hb2 => by exfalso; first | omega | simp at hb2 | contradiction) (fun hb2 => ?_)
  refine Ev.iload_n d_Tg_indexOf_5 rfl ?_
  refine Ev.iconst d_Tg_indexOf_6 ?_
  refine Ev.icmp_le (tgt := 12) d_Tg_indexOf_7 rfl (by first | omega | (simp [mu]; done) | (simp [mu]; omega)) (by first | omega | (simp [mu]; done) | (simp [mu]; omega)) (fun hb7 => ?_) (fun hb7 => by exfalso; first | omega | simp at hb7 | contradiction)
  refine Ev.aload_n d_Tg_indexOf_12 rfl ?_
  refine Ev.gr 2 d_Tg_indexOf_13 lf_Tg_19 rfl rfl (fi_19 hF) (by decide) (fr_19_2 hF) ?_
  refine Ev.iload_n d_Tg_indexOf_16 rfl ?_
  refine Ev.iaload d_Tg_indexOf_17 (fi_22 hF) (by first | omega | (simp [mu]; done) | (simp [mu]; omega)) ?_
  rw [e1]
  refine Ev.istore_3 d_Tg_indexOf_18 rfl ?_
  exact lp_Tg_indexOf hF hd ha hfb.1 e2 hR (fst_ (d + 1) - fst_ d) (fst_ d) (by have := hfa.2 (by omega); omega)
theorem lp_Tg_addTo (hF : FcS σ) {r oth : Nat} {t few : Int} {V U : Int → Int} (hr : r < 73) (ho : oth < 73) (hro : r ≠ oth) (hfw : 0 ≤ few) : ∀ (q : Nat) (n : Int) (m : Mm), few ≤ n → n + q = 11 → (∀ j : Int, 0 ≤ j → j < 11 → m 21 ((r : Int) * 11 + j) = if few ≤ j ∧ j < n then V j + t * U (j - few) else V j) → (∀ j : Int, 0 ≤ j → j < 11 → m 21 ((oth : Int) * 11 + j) = U j) → ∃ mF, Ev 1 m_Tg_addTo 30 [some (vr 19), some (vi r), some (vi oth), some (vl t), none, some (vi few), some (vi n)] [] σ m none σ mF ∧ (∀ j : Int, 0 ≤ j → j < 11 → mF 21 ((r : Int) * 11 + j) = if few ≤ j then V j + t * U (j - few) else V j) ∧ (∀ b j : Int, ¬ (b = 21 ∧ (r : Int) * 11 ≤ j ∧ j < (r : Int) * 11 + 11) → mF b j = m b j)
  | 0, n, m, hf, hn, hV, hU => by
    refine ⟨m, ?_, fun j a b => ?_, fun _ _ _ => rfl⟩
    rotate_left
    · rw [hV j a b]
      by_cases h : few ≤ j
      · rw [if_pos (by omega), if_pos h]
      · rw [if_neg (by omega), if_neg h]
    refine Ev.iload d_Tg_addTo_30 rfl ?_
    refine Ev.bipush d_Tg_addTo_32 rfl ?_
    refine Ev.icmp_ge (tgt := 75) d_Tg_addTo_34 rfl (by first | omega | (simp [mu]; done) | (simp [mu]; omega)) (by first | omega | (simp [mu]; done) | (simp [mu]; omega)) (fun hb34 => ?_) (fun hb34 => by exfalso; first | omega | simp at hb34 | contradiction)
    exact Ev.to (Ev.return d_Tg_addTo_75 rfl) rfl rfl
  | q + 1, n, m, hf, hn, hV, hU => by
    have e1 := hV n (by omega) (by omega)
    rw [if_neg (by omega)] at e1
    have e2 := hU (n - few) (by omega) (by omega)
    rw [← Int.add_sub_assoc] at e2
    obtain ⟨mF, g1, g2, g3⟩ := lp_Tg_addTo hF hr ho hro hfw (t := t) (V := V) (U := U) q (n + 1) (mu m 21 ((r : Int) * 11 + n) (V n + t * U (n - few))) (by omega) (by omega) (fun j a b => by
      by_cases e : j = n
      · rw [e, mu_s, if_pos (by omega)]
      · rw [mu_n (Or.inr (by omega)), hV j a b]
        by_cases h : few ≤ j ∧ j < n
        · rw [if_pos h, if_pos (by omega)]
        · rw [if_neg h, if_neg (by omega)]) (fun j a b => by rw [mu_n (Or.inr (by omega))]; exact hU j a b)
    refine ⟨mF, ?_, g2, fun b j h => (g3 b j h).trans (mu_n (by omega))⟩
    refine Ev.iload d_Tg_addTo_30 rfl ?_
    refine Ev.bipush d_Tg_addTo_32 rfl ?_
    refine Ev.icmp_ge (tgt := 75) d_Tg_addTo_34 rfl (by first | omega | (simp [mu]; done) | (simp [mu]; omega)) (by first | omega | (simp [mu]; done) | (simp [mu]; omega)) (fun hb34 => by exfalso; first | omega | simp at hb34 | contradiction) (fun hb34 => ?_)
    refine Ev.aload_n d_Tg_addTo_37 rfl ?_
    refine Ev.gr 1 d_Tg_addTo_38 lf_Tg_15 rfl rfl (fi_19 hF) (by decide) (fr_19_1 hF) ?_
    refine Ev.iload_n d_Tg_addTo_41 rfl ?_
    refine Ev.bipush d_Tg_addTo_42 rfl ?_
    refine Ev.imul d_Tg_addTo_44 ?_
    refine Ev.iload d_Tg_addTo_45 rfl ?_
    refine Ev.iadd d_Tg_addTo_47 ?_
    refine Ev.dup2 d_Tg_addTo_48 rfl rfl ?_
    refine Ev.laload d_Tg_addTo_49 (fi_21 hF) (by first | omega | (simp [mu]; done) | (simp [mu]; omega)) ?_
    rw [e1]
    refine Ev.lload_n d_Tg_addTo_50 rfl ?_
    refine Ev.aload_n d_Tg_addTo_51 rfl ?_
    refine Ev.gr 1 d_Tg_addTo_52 lf_Tg_15 rfl rfl (fi_19 hF) (by decide) (fr_19_1 hF) ?_
    refine Ev.iload_n d_Tg_addTo_55 rfl ?_
    refine Ev.bipush d_Tg_addTo_56 rfl ?_
    refine Ev.imul d_Tg_addTo_58 ?_
    refine Ev.iload d_Tg_addTo_59 rfl ?_
    refine Ev.iadd d_Tg_addTo_61 ?_
    refine Ev.iload d_Tg_addTo_62 rfl ?_
    refine Ev.isub d_Tg_addTo_64 ?_
    refine Ev.laload d_Tg_addTo_65 (fi_21 hF) (by first | omega | (simp [mu]; done) | (simp [mu]; omega)) ?_
    rw [e2]
    refine Ev.lmul d_Tg_addTo_66 ?_
    refine Ev.ladd d_Tg_addTo_67 ?_
    refine Ev.lastore d_Tg_addTo_68 (fi_21 hF) (by decide) (by first | omega | (simp [mu]; done) | (simp [mu]; omega)) ?_
    refine Ev.iinc_6 d_Tg_addTo_69 rfl ?_
    refine Ev.goto (tgt := 30) d_Tg_addTo_72 rfl ?_
    exact g1
def avV (V : Int → Int) (t few : Int) (U : Int → Int) : Int → Int := fun j => if few ≤ j then V j + t * U (j - few) else V j
theorem c_Tg_addTo (hF : FcS σ) {r oth : Nat} {t few : Int} {V U : Int → Int} (hr : r < 73) (ho : oth < 73) (hro : r ≠ oth) (hfw : 0 ≤ few ∧ few ≤ 10) (hV : ∀ j : Int, 0 ≤ j → j < 11 → m 21 ((r : Int) * 11 + j) = V j) (hU : ∀ j : Int, 0 ≤ j → j < 11 → m 21 ((oth : Int) * 11 + j) = U j) : ∃ m', Call 1 m_Tg_addTo [vr 19, vi r, vi oth, vl t, vi few] σ m none σ m' ∧ (∀ j : Int, 0 ≤ j → j < 11 → m' 21 ((r : Int) * 11 + j) = avV V t few U j) ∧ (∀ b j : Int, ¬ (b = 21 ∧ (r : Int) * 11 ≤ j ∧ j < (r : Int) * 11 + 11) → m' b j = m b j) := by
  obtain ⟨mF, g1, g2, g3⟩ := lp_Tg_addTo hF hr ho hro hfw.1 (t := t) (V := V) (U := U) (11 - few).toNat few m (by omega) (by omega) (fun j a b => by rw [if_neg (by omega)]; exact hV j a b) hU
  refine ⟨mF, ?_, g2, g3⟩
  show Ev 1 m_Tg_addTo 0 [some (vr 19), some (vi r), some (vi oth), some (vl t), none, some (vi few), none] [] σ m _ σ mF
  refine Ev.iload_n d_Tg_addTo_0 rfl ?_
  refine Ev.if_lt (tgt := 25) d_Tg_addTo_1 rfl (by first | omega | (simp [mu]; done) | (simp [mu]; omega)) (fun hb1 => by exfalso; first | omega | simp at hb1 | contradiction) (fun hb1 => ?_)
  refine Ev.iload_n d_Tg_addTo_4 rfl ?_
  refine Ev.bipush d_Tg_addTo_5 rfl ?_
  refine Ev.icmp_ge (tgt := 25) d_Tg_addTo_7 rfl (by first | omega | (simp [mu]; done) | (simp [mu]; omega)) (by first | omega | (simp [mu]; done) | (simp [mu]; omega)) (fun hb7 => by exfalso; first | omega | simp at hb7 | contradiction) (fun hb7 => ?_)
  refine Ev.iload_n d_Tg_addTo_10 rfl ?_
  refine Ev.if_lt (tgt := 25) d_Tg_addTo_11 rfl (by first | omega | (simp [mu]; done) | (simp [mu]; omega)) (fun hb11 => by exfalso; first | omega | simp at hb11 | contradiction) (fun hb11 => ?_)
  refine Ev.iload_n d_Tg_addTo_14 rfl ?_
  refine Ev.bipush d_Tg_addTo_15 rfl ?_
  refine Ev.icmp_ge (tgt := 25) d_Tg_addTo_17 rfl (by first | omega | (simp [mu]; done) | (simp [mu]; omega)) (by first | omega | (simp [mu]; done) | (simp [mu]; omega)) (fun hb17 => by exfalso; first | omega | simp at hb17 | contradiction) (fun hb17 => ?_)
  refine Ev.iload d_Tg_addTo_20 rfl ?_
  refine Ev.if_ge (tgt := 26) d_Tg_addTo_22 rfl (by first | omega | (simp [mu]; done) | (simp [mu]; omega)) (fun hb22 => ?_) (fun hb22 => by exfalso; first | omega | simp at hb22 | contradiction)
  refine Ev.iload d_Tg_addTo_26 rfl ?_
  refine Ev.istore_6 d_Tg_addTo_28 rfl ?_
  exact g1
def tpT (x p k t : Int) : Int := itn (fun t => t * k) (am p 1 k - am x 1 k).toNat (t * chs (am x 0 k) (am p 0 k) * chs (am p 1 k) (am x 1 k))
def tpS (x p : Int) : Nat → Int → Int → Int
  | 0, _, t => t
  | q + 1, k, t => if t ≤ 0 then t else tpS x p q (k + 1) (tpT x p k t)
def tpB (x p : Int) : Nat → Int → Int → Bool
  | 0, _, t => decide (-1000000000000 ≤ t ∧ t ≤ 1000000000000)
  | q + 1, k, t => decide (-1000000000000 ≤ t ∧ t ≤ 1000000000000) && (decide (t ≤ 0) || tpB x p q (k + 1) (tpT x p k t))
theorem lpi_times {x p k more : Int} (hk : 1 ≤ k ∧ k ≤ 5) (hm : more ≤ 7) {r : Option AV} {mF : Mm} : ∀ (q : Nat) (i t : Int), 0 ≤ i → (i + q = more ∨ (q = 0 ∧ more ≤ i)) → i ≤ 7 → (∀ i : Int, Ev 2 m_Rows_timesOfPart 96 [some (vi x), some (vi p), some (vl (itn (fun t => t * k) q t)), none, some (vi k), some (vi more), some (vi i)] [] σ m r σ mF) → -7 ≤ more → Ev 2 m_Rows_timesOfPart 77 [some (vi x), some (vi p), some (vl t), none, some (vi k), some (vi more), some (vi i)] [] σ m r σ mF
  | 0, i, t, h0, hi, hi7, c, hm7 => by
    simp only [itn] at c
    refine Ev.iload d_Rows_timesOfPart_77 rfl ?_
    refine Ev.iload d_Rows_timesOfPart_79 rfl ?_
    refine Ev.icmp_ge (tgt := 96) d_Rows_timesOfPart_81 rfl (by first | omega | (simp [mu]; done) | (simp [mu]; omega)) (by first | omega | (simp [mu]; done) | (simp [mu]; omega)) (fun hb81 => ?_) (fun hb81 => by exfalso; first | omega | simp at hb81 | contradiction)
    exact c i
  | q + 1, i, t, h0, hi, hi7, c, hm7 => by
    refine Ev.iload d_Rows_timesOfPart_77 rfl ?_
    refine Ev.iload d_Rows_timesOfPart_79 rfl ?_
    refine Ev.icmp_ge (tgt := 96) d_Rows_timesOfPart_81 rfl (by first | omega | (simp [mu]; done) | (simp [mu]; omega)) (by first | omega | (simp [mu]; done) | (simp [mu]; omega)) (fun hb81 => by exfalso; first | omega | simp at hb81 | contradiction) (fun hb81 => ?_)
    refine Ev.lload_n d_Rows_timesOfPart_84 rfl ?_
    refine Ev.iload d_Rows_timesOfPart_85 rfl ?_
    refine Ev.i2l d_Rows_timesOfPart_87 (by first | omega | (simp [mu]; done) | (simp [mu]; omega)) ?_
    refine Ev.lmul d_Rows_timesOfPart_88 ?_
    refine Ev.lstore_2 d_Rows_timesOfPart_89 rfl ?_
    refine Ev.iinc_6 d_Rows_timesOfPart_90 rfl ?_
    refine Ev.goto (tgt := 77) d_Rows_timesOfPart_93 rfl ?_
    exact lpi_times hk hm q (i + 1) _ (by omega) (by omega) (by omega) c hm7
theorem lp_times {x p : Int} (hx : -2147483648 ≤ x ∧ x ≤ 2147483647) (hp : -2147483648 ≤ p ∧ p ≤ 2147483647) : ∀ (q : Nat) (k t : Int) (x5 x6 : Option AV), k + q = 6 → 1 ≤ k → tpB x p q k t = true → Ev 2 m_Rows_timesOfPart 5 [some (vi x), some (vi p), some (vl t), none, some (vi k), x5, x6] [] σ m (some (vl (tpS x p q k t))) σ m
  | 0, k, t, x5, x6, hk, h1, hb => by
    simp only [tpS]
    refine Ev.iload d_Rows_timesOfPart_5 rfl ?_
    refine Ev.iconst d_Rows_timesOfPart_7 ?_
    refine Ev.icmp_gt (tgt := 102) d_Rows_timesOfPart_8 rfl (by first | omega | (simp [mu]; done) | (simp [mu]; omega)) (by first | omega | (simp [mu]; done) | (simp [mu]; omega)) (fun hb8 => ?_) (fun hb8 => by exfalso; first | omega | simp at hb8 | contradiction)
    refine Ev.lload_n d_Rows_timesOfPart_102 rfl ?_
    exact Ev.to (Ev.lreturn d_Rows_timesOfPart_103 rfl) rfl rfl
  | q + 1, k, t, x5, x6, hk, h1, hb => by
    simp only [tpB, Bool.and_eq_true, Bool.or_eq_true, decide_eq_true_eq] at hb
    have a1 := am_b p 1 k
    have a2 := am_b x 1 k
    have a3 := am_b x 0 k
    have a4 := am_b p 0 k
    by_cases ht : t ≤ 0
    · have e : tpS x p (q + 1) k t = t := if_pos ht
      rw [e]
      refine Ev.iload d_Rows_timesOfPart_5 rfl ?_
      refine Ev.iconst d_Rows_timesOfPart_7 ?_
      refine Ev.icmp_gt (tgt := 102) d_Rows_timesOfPart_8 rfl (by first | omega | (simp [mu]; done) | (simp [mu]; omega)) (by first | omega | (simp [mu]; done) | (simp [mu]; omega)) (fun hb8 => by exfalso; first | omega | simp at hb8 | contradiction) (fun hb8 => ?_)
      refine Ev.lload_n d_Rows_timesOfPart_11 rfl ?_
      refine Ev.lconst (x := 0) d_Rows_timesOfPart_12 rfl ?_
      refine Ev.lcmp d_Rows_timesOfPart_13 (by first | omega | (simp [mu]; done) | (simp [mu]; omega)) (by first | omega | (simp [mu]; done) | (simp [mu]; omega)) ?_
      refine Ev.if_le (tgt := 102) d_Rows_timesOfPart_14 rfl lcm_b (fun hb14 => ?_) (fun hb14 => by exfalso; (try rw [lcm_le] at hb14); omega)
      rw [lcm_le] at hb14
      refine Ev.lload_n d_Rows_timesOfPart_102 rfl ?_
      exact Ev.to (Ev.lreturn d_Rows_timesOfPart_103 rfl) rfl rfl
    · have e : tpS x p (q + 1) k t = tpS x p q (k + 1) (tpT x p k t) := if_neg ht
      have hb2 : tpB x p q (k + 1) (tpT x p k t) = true := by
        rcases hb.2 with h | h
        · exact absurd h ht
        · exact h
      rw [e]
      refine Ev.iload d_Rows_timesOfPart_5 rfl ?_
      refine Ev.iconst d_Rows_timesOfPart_7 ?_
      refine Ev.icmp_gt (tgt := 102) d_Rows_timesOfPart_8 rfl (by first | omega | (simp [mu]; done) | (simp [mu]; omega)) (by first | omega | (simp [mu]; done) | (simp [mu]; omega)) (fun hb8 => by exfalso; first | omega | simp at hb8 | contradiction) (fun hb8 => ?_)
      refine Ev.lload_n d_Rows_timesOfPart_11 rfl ?_
      refine Ev.lconst (x := 0) d_Rows_timesOfPart_12 rfl ?_
      refine Ev.lcmp d_Rows_timesOfPart_13 (by first | omega | (simp [mu]; done) | (simp [mu]; omega)) (by first | omega | (simp [mu]; done) | (simp [mu]; omega)) ?_
      refine Ev.if_le (tgt := 102) d_Rows_timesOfPart_14 rfl lcm_b (fun hb14 => by exfalso; (try rw [lcm_le] at hb14); omega) (fun hb14 => ?_)
      rw [lcm_le] at hb14
      refine Ev.iload_n d_Rows_timesOfPart_17 rfl ?_
      refine Ev.iconst d_Rows_timesOfPart_18 ?_
      refine Ev.iload d_Rows_timesOfPart_19 rfl ?_
      refine Ev.callS d_Rows_timesOfPart_21 mt_Rows_amount lk_Rows_19 st_Rows_amount rfl (Nat.le_of_ble_eq_true rfl) rfl (Nat.le_of_ble_eq_true rfl) (by decide) rfl (c_Rows_amount hp (by decide) (by omega)) ?_
      refine Ev.iload_n d_Rows_timesOfPart_24 rfl ?_
      refine Ev.iconst d_Rows_timesOfPart_25 ?_
      refine Ev.iload d_Rows_timesOfPart_26 rfl ?_
      refine Ev.callS d_Rows_timesOfPart_28 mt_Rows_amount lk_Rows_19 st_Rows_amount rfl (Nat.le_of_ble_eq_true rfl) rfl (Nat.le_of_ble_eq_true rfl) (by decide) rfl (c_Rows_amount hx (by decide) (by omega)) ?_
      refine Ev.isub d_Rows_timesOfPart_31 ?_
      refine Ev.istore_5 d_Rows_timesOfPart_32 rfl ?_
      refine Ev.lload_n d_Rows_timesOfPart_34 rfl ?_
      refine Ev.iload_n d_Rows_timesOfPart_35 rfl ?_
      refine Ev.iconst d_Rows_timesOfPart_36 ?_
      refine Ev.iload d_Rows_timesOfPart_37 rfl ?_
      refine Ev.callS d_Rows_timesOfPart_39 mt_Rows_amount lk_Rows_19 st_Rows_amount rfl (Nat.le_of_ble_eq_true rfl) rfl (Nat.le_of_ble_eq_true rfl) (by decide) rfl (c_Rows_amount hx (by decide) (by omega)) ?_
      refine Ev.iload_n d_Rows_timesOfPart_42 rfl ?_
      refine Ev.iconst d_Rows_timesOfPart_43 ?_
      refine Ev.iload d_Rows_timesOfPart_44 rfl ?_
      refine Ev.callS d_Rows_timesOfPart_46 mt_Rows_amount lk_Rows_19 st_Rows_amount rfl (Nat.le_of_ble_eq_true rfl) rfl (Nat.le_of_ble_eq_true rfl) (by decide) rfl (c_Rows_amount hp (by decide) (by omega)) ?_
      refine Ev.callSN d_Rows_timesOfPart_49 mt_FC_choose lk_Rows_23 st_FC_choose rfl (Nat.le_of_ble_eq_true rfl) rfl (Nat.le_of_ble_eq_true rfl) (by decide) rfl (c_FC_choose (by omega) (by omega)) ?_
      refine Ev.lmul d_Rows_timesOfPart_52 ?_
      refine Ev.lstore_2 d_Rows_timesOfPart_53 rfl ?_
      refine Ev.lload_n d_Rows_timesOfPart_54 rfl ?_
      refine Ev.iload_n d_Rows_timesOfPart_55 rfl ?_
      refine Ev.iconst d_Rows_timesOfPart_56 ?_
      refine Ev.iload d_Rows_timesOfPart_57 rfl ?_
      refine Ev.callS d_Rows_timesOfPart_59 mt_Rows_amount lk_Rows_19 st_Rows_amount rfl (Nat.le_of_ble_eq_true rfl) rfl (Nat.le_of_ble_eq_true rfl) (by decide) rfl (c_Rows_amount hp (by decide) (by omega)) ?_
      refine Ev.iload_n d_Rows_timesOfPart_62 rfl ?_
      refine Ev.iconst d_Rows_timesOfPart_63 ?_
      refine Ev.iload d_Rows_timesOfPart_64 rfl ?_
      refine Ev.callS d_Rows_timesOfPart_66 mt_Rows_amount lk_Rows_19 st_Rows_amount rfl (Nat.le_of_ble_eq_true rfl) rfl (Nat.le_of_ble_eq_true rfl) (by decide) rfl (c_Rows_amount hx (by decide) (by omega)) ?_
      refine Ev.callSN d_Rows_timesOfPart_69 mt_FC_choose lk_Rows_23 st_FC_choose rfl (Nat.le_of_ble_eq_true rfl) rfl (Nat.le_of_ble_eq_true rfl) (by decide) rfl (c_FC_choose (by omega) (by omega)) ?_
      refine Ev.lmul d_Rows_timesOfPart_72 ?_
      refine Ev.lstore_2 d_Rows_timesOfPart_73 rfl ?_
      refine Ev.iconst d_Rows_timesOfPart_74 ?_
      refine Ev.istore_6 d_Rows_timesOfPart_75 rfl ?_
      refine lpi_times (by omega) (by omega) (am p 1 k - am x 1 k).toNat 0 _ (by decide) (by omega) (by decide) (fun i => ?_) (by omega)
      refine Ev.iinc_4 d_Rows_timesOfPart_96 rfl ?_
      refine Ev.goto (tgt := 5) d_Rows_timesOfPart_99 rfl ?_
      exact lp_times hx hp q (k + 1) _ _ _ (by omega) (by omega) hb2
theorem c_times {x p : Int} (hx : -2147483648 ≤ x ∧ x ≤ 2147483647) (hp : -2147483648 ≤ p ∧ p ≤ 2147483647) (hb : tpB x p 5 1 1 = true) : Call 2 m_Rows_timesOfPart [vi x, vi p] σ m (some (vl (tpS x p 5 1 1))) σ m := by
  show Ev 2 m_Rows_timesOfPart 0 [some (vi x), some (vi p), none, none, none, none, none] [] σ m _ σ m
  refine Ev.lconst (x := 1) d_Rows_timesOfPart_0 rfl ?_
  refine Ev.lstore_2 d_Rows_timesOfPart_1 rfl ?_
  refine Ev.iconst d_Rows_timesOfPart_2 ?_
  refine Ev.istore_4 d_Rows_timesOfPart_3 rfl ?_
  exact lp_times hx hp 5 1 1 none none rfl (by decide) hb
end
