/-! all kinds, and the ways of a picture -/
def FrK5 (c : Int) (m m' : Mm) : Prop := ∀ b j : Int, (b < c ∨ c + 4 < b) → m' b j = m b j
theorem FrK5.tr {c : Int} {m m1 m2 : Mm} (h : FrK5 c m m1) (g : FrK5 c m1 m2) : FrK5 c m m2 := fun b j x => (g b j x).trans (h b j x)
def kd1 (f t n : Int) : KN := if 0 < n then [(f.toNat, t.toNat, n.toNat)] else []
def KLs (l : List Int) : Nat → Int → KN
  | 0, _ => []
  | q + 1, x => kd1 (fS x) (tS x - 1) (cn x l) ++ KLs l q (x + 1)
def KLf (d : Int) (l : List Int) : Nat → Int → KN
  | 0, _ => []
  | n + 1, f => kd1 f (d - 1) (1 - outL f l) ++ KLf d l n (f + 1)
def KLn (d : Int) (l : List Int) : KN := KLs l 24 0 ++ KLf d l d.toNat 0
theorem KAt_app {m : Mm} {c : Int} : ∀ (K K2 : KN) (i : Nat), KAt m c i (K ++ K2) ↔ KAt m c i K ∧ KAt m c (i + K.length) K2
  | [], K2, i => by simp [KAt]
  | k :: t, K2, i => by
    rw [List.cons_append]
    simp only [KAt, List.length_cons]
    rw [KAt_app t K2 (i + 1), show i + 1 + t.length = i + (t.length + 1) by omega]
    exact and_assoc.symm
theorem KAt_lo {m m' : Mm} {c : Int} {N : Nat} (f : ∀ (b : Int) (j : Nat), b = c + 1 ∨ b = c + 2 ∨ b = c + 3 → j < N → m' b j = m b j) : ∀ (K : KN) (i : Nat), i + K.length ≤ N → KAt m c i K → KAt m' c i K
  | [], _, _, _ => trivial
  | k :: t, i, hN, h => by
    simp only [List.length_cons] at hN
    exact ⟨⟨(f _ _ (by omega) (by omega)).trans h.1.1, (f _ _ (by omega) (by omega)).trans h.1.2.1, (f _ _ (by omega) (by omega)).trans h.1.2.2⟩, KAt_lo f t (i + 1) (by omega) h.2⟩
section
variable {σ : Sg} {m : Mm}
theorem c_Mk_addKind {c : Int} (hC : MkS σ c) {K : KN} {w wn f t n : Int} (hR : MkR m c 0 K w wn) (hf : 0 ≤ f) (ht : 0 ≤ t) (hn : -100 ≤ n ∧ n ≤ 100) (hl : (K ++ kd1 f t n).length ≤ 10) : ∃ m', Call 1 m_Mk_addKind [vr c, vi f, vi t, vi n] σ m none σ m' ∧ MkR m' c 0 (K ++ kd1 f t n) w wn ∧ FrK5 c m m' ∧ (∀ j : Int, m' (c + 4) j = m (c + 4) j) := by
  have h4 := hR.1
  by_cases h0 : 0 < n
  · have e : kd1 f t n = [(f.toNat, t.toNat, n.toNat)] := if_pos h0
    rw [e] at hl ⊢
    rw [List.length_append] at hl
    simp only [List.length_cons, List.length_nil] at hl
    have h4' : m c 4 = (K.length : Int) := by rw [h4]; omega
    have h41 : mu m (c + 1) K.length f c 4 = (K.length : Int) := by rw [mu_a (by omega)]; exact h4'
    have h42 : mu (mu m (c + 1) K.length f) (c + 2) K.length t c 4 = (K.length : Int) := by rw [mu_a (by omega)]; exact h41
    have h43 : mu (mu (mu m (c + 1) K.length f) (c + 2) K.length t) (c + 3) K.length n c 4 = (K.length : Int) := by rw [mu_a (by omega)]; exact h42
    refine ⟨mu (mu (mu (mu m (c + 1) K.length f) (c + 2) K.length t) (c + 3) K.length n) c 4 ((K.length : Int) + 1), ?_, ⟨?_, ?_, ?_, ?_⟩, fun b j x => ?_, fun j => ?_⟩
    rotate_left
    · rw [mu_s, List.length_append]; simp
    · rw [mu_n (by omega), mu_a (by omega), mu_a (by omega), mu_a (by omega)]; exact hR.2.1
    · rw [mu_n (by omega), mu_a (by omega), mu_a (by omega), mu_a (by omega)]; exact hR.2.2.1
    · rw [KAt_app]
      refine ⟨KAt_lo (N := K.length) (fun b j hb hj => ?_) K 0 (by omega) hR.2.2.2, ⟨?_, ?_, ?_⟩, trivial⟩
      · rw [mu_a (by omega), mu_n (by omega), mu_n (by omega), mu_n (by omega)]
      · show mu _ c 4 _ (c + 1) ((0 + K.length : Nat) : Int) = _
        rw [Nat.zero_add, mu_a (by omega), mu_a (by omega), mu_a (by omega), mu_s]; show f = ((f.toNat : Nat) : Int); omega
      · show mu _ c 4 _ (c + 2) ((0 + K.length : Nat) : Int) = _
        rw [Nat.zero_add, mu_a (by omega), mu_a (by omega), mu_s]; show t = ((t.toNat : Nat) : Int); omega
      · show mu _ c 4 _ (c + 3) ((0 + K.length : Nat) : Int) = _
        rw [Nat.zero_add, mu_a (by omega), mu_s]; show n = ((n.toNat : Nat) : Int); omega
    · rw [mu_a (by omega), mu_a (by omega), mu_a (by omega), mu_a (by omega)]
    · rw [mu_a (by omega), mu_a (by omega), mu_a (by omega), mu_a (by omega)]
    show Ev 1 m_Mk_addKind 0 [some (vr c), some (vi f), some (vi t), some (vi n)] [] σ m _ σ _
    refine Ev.iload_n d_Mk_addKind_0 rfl ?_
    refine Ev.if_le (tgt := 53) d_Mk_addKind_1 rfl (by first | omega | (simp [mu]; done) | (simp [mu]; omega)) (fun hb1 => by exfalso; first | omega | simp at hb1 | contradiction) (fun hb1 => ?_)
    refine Ev.aload_n d_Mk_addKind_4 rfl ?_
    refine Ev.gf 4 d_Mk_addKind_5 lf_Mk_30 rfl rfl hC.2.1 (by decide) ?_
    refine Ev.bipush d_Mk_addKind_8 rfl ?_
    rw [h4']
    refine Ev.icmp_ge (tgt := 53) d_Mk_addKind_10 rfl (by first | omega | (simp [mu]; done) | (simp [mu]; omega)) (by first | omega | (simp [mu]; done) | (simp [mu]; omega)) (fun hb10 => by exfalso; first | omega | simp at hb10 | contradiction) (fun hb10 => ?_)
    refine Ev.aload_n d_Mk_addKind_13 rfl ?_
    refine Ev.gr 0 d_Mk_addKind_14 lf_Mk_11 rfl rfl hC.2.1 (by decide) hC.2.2.2.2.2.2.1 ?_
    refine Ev.aload_n d_Mk_addKind_17 rfl ?_
    refine Ev.gf 4 d_Mk_addKind_18 lf_Mk_30 rfl rfl hC.2.1 (by decide) ?_
    rw [h4']
    refine Ev.iload_n d_Mk_addKind_21 rfl ?_
    refine Ev.iastore d_Mk_addKind_22 hC.2.2.1 (by have := hC.1; omega) (by first | omega | (simp [mu]; done) | (simp [mu]; omega)) ?_
    refine Ev.aload_n d_Mk_addKind_23 rfl ?_
    refine Ev.gr 1 d_Mk_addKind_24 lf_Mk_15 rfl rfl hC.2.1 (by decide) hC.2.2.2.2.2.2.2.1 ?_
    refine Ev.aload_n d_Mk_addKind_27 rfl ?_
    refine Ev.gf 4 d_Mk_addKind_28 lf_Mk_30 rfl rfl hC.2.1 (by decide) ?_
    rw [h41]
    refine Ev.iload_n d_Mk_addKind_31 rfl ?_
    refine Ev.iastore d_Mk_addKind_32 hC.2.2.2.1 (by have := hC.1; omega) (by first | omega | (simp [mu]; done) | (simp [mu]; omega)) ?_
    refine Ev.aload_n d_Mk_addKind_33 rfl ?_
    refine Ev.gr 2 d_Mk_addKind_34 lf_Mk_18 rfl rfl hC.2.1 (by decide) hC.2.2.2.2.2.2.2.2.1 ?_
    refine Ev.aload_n d_Mk_addKind_37 rfl ?_
    refine Ev.gf 4 d_Mk_addKind_38 lf_Mk_30 rfl rfl hC.2.1 (by decide) ?_
    rw [h42]
    refine Ev.iload_n d_Mk_addKind_41 rfl ?_
    refine Ev.iastore d_Mk_addKind_42 hC.2.2.2.2.1 (by have := hC.1; omega) (by first | omega | (simp [mu]; done) | (simp [mu]; omega)) ?_
    refine Ev.aload_n d_Mk_addKind_43 rfl ?_
    refine Ev.dup d_Mk_addKind_44 rfl ?_
    refine Ev.gf 4 d_Mk_addKind_45 lf_Mk_30 rfl rfl hC.2.1 (by decide) ?_
    rw [h43]
    refine Ev.iconst d_Mk_addKind_48 ?_
    refine Ev.iadd d_Mk_addKind_49 ?_
    refine Ev.pf 4 d_Mk_addKind_50 lf_Mk_30 rfl rfl rfl rfl hC.2.1 (by decide) ?_
    exact Ev.to (Ev.return d_Mk_addKind_53 rfl) rfl rfl
  · have e : kd1 f t n = [] := if_neg h0
    rw [e, List.append_nil]
    refine ⟨m, ?_, hR, fun _ _ _ => rfl, fun _ => rfl⟩
    show Ev 1 m_Mk_addKind 0 [some (vr c), some (vi f), some (vi t), some (vi n)] [] σ m _ σ _
    refine Ev.iload_n d_Mk_addKind_0 rfl ?_
    refine Ev.if_le (tgt := 53) d_Mk_addKind_1 rfl (by first | omega | (simp [mu]; done) | (simp [mu]; omega)) (fun hb1 => ?_) (fun hb1 => by exfalso; first | omega | simp at hb1 | contradiction)
    exact Ev.to (Ev.return d_Mk_addKind_53 rfl) rfl rfl
theorem lps_Mk_ways {c a d : Int} {l : List Int} (hC : MkS σ c) (hA : PicS σ a) (hca : a + 2 < c ∨ c + 4 < a) (hK : PK d l) {w wn : Int} {Post : Mm → Prop} {r : Option AV} : ∀ (q : Nat) (x : Int) (m : Mm) (K : KN), x + q = 24 → 0 ≤ x → SR σ m → PicM m a d l → MkR m c 0 K w wn → (K ++ KLs l q x).length ≤ 10 → (∀ m' : Mm, FrK5 c m m' → (∀ j : Int, m' (c + 4) j = m (c + 4) j) → MkR m' c 0 (K ++ KLs l q x) w wn → ∃ mF, Ev 62 m_Mk_ways 67 [some (vr c), some (vr a), some (vi w), some (vi wn), some (vi 24)] [] σ m' r σ mF ∧ Post mF) → ∃ mF, Ev 62 m_Mk_ways 32 [some (vr c), some (vr a), some (vi w), some (vi wn), some (vi x)] [] σ m r σ mF ∧ Post mF
  | 0, x, m, K, hx, h0, hS, hm, hR, hl, cont => by
    have e : x = 24 := by omega
    subst e
    simp only [KLs, List.append_nil] at cont
    obtain ⟨mF, g1, g2⟩ := cont m (fun _ _ _ => rfl) (fun _ => rfl) hR
    refine ⟨mF, ?_, g2⟩
    refine Ev.iload d_Mk_ways_32 rfl ?_
    refine Ev.bipush d_Mk_ways_34 rfl ?_
    refine Ev.icmp_ge (tgt := 67) d_Mk_ways_36 rfl (by first | omega | (simp [mu]; done) | (simp [mu]; omega)) (by first | omega | (simp [mu]; done) | (simp [mu]; omega)) (fun hb36 => ?_) (fun hb36 => by exfalso; first | omega | simp at hb36 | contradiction)
    exact g1
  | q + 1, x, m, K, hx, h0, hS, hm, hR, hl, cont => by
    have hs : 0 ≤ x ∧ x < 24 := by omega
    have h3 := hC.1
    have h3a := hA.1
    have bf := fS_b x
    have bt := tS_b x
    have b := cn_b x l
    have h6 := hK.2.1
    simp only [KLs] at hl cont
    rw [← List.append_assoc] at hl cont
    obtain ⟨m1, q1, q2, q3, q4⟩ := c_Mk_addKind hC hR (f := fS x) (t := tS x - 1) (n := cn x l) (by omega) (by omega) (by omega) (by rw [List.length_append] at hl; omega)
    have hS1 : SR σ m1 := SR_fr hS (fun b j h => q3 b j (by omega))
    obtain ⟨mF, g1, g2⟩ := lps_Mk_ways hC hA hca hK (Post := Post) (r := r) q (x + 1) m1 _ (by omega) (by omega) hS1 (PicM_fr hm (fun b j h1 h2 => q3 b j (by omega))) q2 hl (fun m' f1 f2 => cont m' (q3.tr f1) (fun j => (f2 j).trans (q4 j)))
    refine ⟨mF, ?_, g2⟩
    refine Ev.iload d_Mk_ways_32 rfl ?_
    refine Ev.bipush d_Mk_ways_34 rfl ?_
    refine Ev.icmp_ge (tgt := 67) d_Mk_ways_36 rfl (by first | omega | (simp [mu]; done) | (simp [mu]; omega)) (by first | omega | (simp [mu]; done) | (simp [mu]; omega)) (fun hb36 => by exfalso; first | omega | simp at hb36 | contradiction) (fun hb36 => ?_)
    refine Ev.aload_n d_Mk_ways_39 rfl ?_
    refine Ev.iload d_Mk_ways_40 rfl ?_
    refine Ev.callSN d_Mk_ways_42 mt_FC_fromOf lk_Mk_40 st_FC_fromOf rfl (Nat.le_of_ble_eq_true rfl) rfl (Nat.le_of_ble_eq_true rfl) (by decide) rfl (c_FC_fromOf hS hs) ?_
    refine Ev.iload d_Mk_ways_45 rfl ?_
    refine Ev.callSN d_Mk_ways_47 mt_FC_toOf lk_Mk_44 st_FC_toOf rfl (Nat.le_of_ble_eq_true rfl) rfl (Nat.le_of_ble_eq_true rfl) (by decide) rfl (c_FC_toOf hS hs) ?_
    refine Ev.iconst d_Mk_ways_50 ?_
    refine Ev.isub d_Mk_ways_51 ?_
    refine Ev.aload_n d_Mk_ways_52 rfl ?_
    refine Ev.iload d_Mk_ways_53 rfl ?_
    refine Ev.callV d_Mk_ways_55 mt_Pic_amountAt lk_Mk_47 in_Pic_amountAt se_Pic_amountAt rfl (Nat.le_of_ble_eq_true rfl) rfl (Nat.le_of_ble_eq_true rfl) (by decide) hA.2.1 (by decide) rfl rfl (c_Pic_amountAt hA hm hs) ?_
    refine Ev.callVv d_Mk_ways_58 mt_Mk_addKind lk_Mk_52 in_Mk_addKind se_Mk_addKind rfl (Nat.le_of_ble_eq_true rfl) rfl (Nat.le_of_ble_eq_true rfl) (by decide) hC.2.1 (by decide) rfl rfl q1 ?_
    refine Ev.iinc_4 d_Mk_ways_61 rfl ?_
    refine Ev.goto (tgt := 32) d_Mk_ways_64 rfl ?_
    exact g1
theorem lpf_Mk_ways {c a d : Int} {l : List Int} (hC : MkS σ c) (hA : PicS σ a) (hca : a + 2 < c ∨ c + 4 < a) (hK : PK d l) {w wn : Int} {Post : Mm → Prop} {r : Option AV} : ∀ (q : Nat) (f : Int) (m : Mm) (K : KN), f + q = d → 0 ≤ f → PicM m a d l → MkR m c 0 K w wn → (K ++ KLf d l q f).length ≤ 10 → (∀ m' : Mm, FrK5 c m m' → (∀ j : Int, m' (c + 4) j = m (c + 4) j) → MkR m' c 0 (K ++ KLf d l q f) w wn → ∃ mF, Ev 62 m_Mk_ways 105 [some (vr c), some (vr a), some (vi w), some (vi wn), some (vi d)] [] σ m' r σ mF ∧ Post mF) → ∃ mF, Ev 62 m_Mk_ways 70 [some (vr c), some (vr a), some (vi w), some (vi wn), some (vi f)] [] σ m r σ mF ∧ Post mF
  | 0, f, m, K, hx, h0, hm, hR, hl, cont => by
    have hd := hK.1
    have e : f = d := by omega
    simp only [KLf, List.append_nil] at cont
    obtain ⟨mF, g1, g2⟩ := cont m (fun _ _ _ => rfl) (fun _ => rfl) hR
    refine ⟨mF, ?_, g2⟩
    rw [e]
    refine Ev.iload d_Mk_ways_70 rfl ?_
    refine Ev.aload_n d_Mk_ways_72 rfl ?_
    refine Ev.callV d_Mk_ways_73 mt_Pic_degree lk_Mk_56 in_Pic_degree se_Pic_degree rfl (Nat.le_of_ble_eq_true rfl) rfl (Nat.le_of_ble_eq_true rfl) (by decide) hA.2.1 (by decide) rfl rfl (c_Pic_degree hA hm) ?_
    refine Ev.icmp_ge (tgt := 105) d_Mk_ways_76 rfl (by first | omega | (simp [mu]; done) | (simp [mu]; omega)) (by first | omega | (simp [mu]; done) | (simp [mu]; omega)) (fun hb76 => ?_) (fun hb76 => by exfalso; first | omega | simp at hb76 | contradiction)
    exact g1
  | q + 1, f, m, K, hx, h0, hm, hR, hl, cont => by
    have hd := hK.1
    have h3 := hC.1
    have hb := outL_b f l
    have h6 := hK.2.1
    simp only [KLf] at hl cont
    rw [← List.append_assoc] at hl cont
    obtain ⟨m1, q1, q2, q3, q4⟩ := c_Mk_addKind hC hR (f := f) (t := d - 1) (n := 1 - outL f l) (by omega) (by omega) (by omega) (by rw [List.length_append] at hl; omega)
    obtain ⟨mF, g1, g2⟩ := lpf_Mk_ways hC hA hca hK (Post := Post) (r := r) q (f + 1) m1 _ (by omega) (by omega) (PicM_fr hm (fun b j h1 h2 => q3 b j (by omega))) q2 hl (fun m' f1 f2 => cont m' (q3.tr f1) (fun j => (f2 j).trans (q4 j)))
    refine ⟨mF, ?_, g2⟩
    refine Ev.iload d_Mk_ways_70 rfl ?_
    refine Ev.aload_n d_Mk_ways_72 rfl ?_
    refine Ev.callV d_Mk_ways_73 mt_Pic_degree lk_Mk_56 in_Pic_degree se_Pic_degree rfl (Nat.le_of_ble_eq_true rfl) rfl (Nat.le_of_ble_eq_true rfl) (by decide) hA.2.1 (by decide) rfl rfl (c_Pic_degree hA hm) ?_
    refine Ev.icmp_ge (tgt := 105) d_Mk_ways_76 rfl (by first | omega | (simp [mu]; done) | (simp [mu]; omega)) (by first | omega | (simp [mu]; done) | (simp [mu]; omega)) (fun hb76 => by exfalso; first | omega | simp at hb76 | contradiction) (fun hb76 => ?_)
    refine Ev.aload_n d_Mk_ways_79 rfl ?_
    refine Ev.iload d_Mk_ways_80 rfl ?_
    refine Ev.aload_n d_Mk_ways_82 rfl ?_
    refine Ev.callV d_Mk_ways_83 mt_Pic_degree lk_Mk_56 in_Pic_degree se_Pic_degree rfl (Nat.le_of_ble_eq_true rfl) rfl (Nat.le_of_ble_eq_true rfl) (by decide) hA.2.1 (by decide) rfl rfl (c_Pic_degree hA hm) ?_
    refine Ev.iconst d_Mk_ways_86 ?_
    refine Ev.isub d_Mk_ways_87 ?_
    refine Ev.iconst d_Mk_ways_88 ?_
    refine Ev.aload_n d_Mk_ways_89 rfl ?_
    refine Ev.iload d_Mk_ways_90 rfl ?_
    refine Ev.callV d_Mk_ways_92 mt_Pic_outOf lk_Mk_60 in_Pic_outOf se_Pic_outOf rfl (Nat.le_of_ble_eq_true rfl) rfl (Nat.le_of_ble_eq_true rfl) (by decide) hA.2.1 (by decide) rfl rfl (c_Pic_outOf hA hm hd (by omega)) ?_
    refine Ev.isub d_Mk_ways_95 ?_
    refine Ev.callVv d_Mk_ways_96 mt_Mk_addKind lk_Mk_52 in_Mk_addKind se_Mk_addKind rfl (Nat.le_of_ble_eq_true rfl) rfl (Nat.le_of_ble_eq_true rfl) (by decide) hC.2.1 (by decide) rfl rfl q1 ?_
    refine Ev.iinc_4 d_Mk_ways_99 rfl ?_
    refine Ev.goto (tgt := 70) d_Mk_ways_102 rfl ?_
    exact g1
theorem c_Mk_ways (hS : SR σ m) {c a d : Int} {l : List Int} (hC : MkS σ c) (hA : PicS σ a) (hca : a + 2 < c ∨ c + 4 < a) (hK : PK d l) {w wn : Int} (hm : PicM m a d l) (hw : -2147483648 ≤ w ∧ w ≤ 2147483647) (hwn : -2147483648 ≤ wn ∧ wn ≤ 2147483647) (h10 : (KLn d l).length ≤ 10) (hk : kok (KLn d l) = true) (ht : tot (KLn d l) ≤ 13) : ∃ m', Call 62 m_Mk_ways [vr c, vr a, vi w, vi wn] σ m (some (vl (dN (lfW w wn) (KLn d l) 0 : Nat))) σ m' ∧ FrK5 c m m' := by
  have h3 := hC.1
  have h3a := hA.1
  have hd := hK.1
  have F0 : FrK5 c m (mu (mu (mu (ms m (c + 4) 0 4 (fun _ => 0)) c 4 0) c 5 w) c 6 wn) := fun b j x => by rw [mu_a (by omega), mu_a (by omega), mu_a (by omega), ms_a (by omega)]
  have h10s : ([] ++ KLs l 24 0).length ≤ 10 := by
    unfold KLn at h10
    rw [List.length_append] at h10
    rw [List.nil_append]; omega
  obtain ⟨mF, g1, g2⟩ := lps_Mk_ways hC hA hca hK (w := w) (wn := wn) (Post := fun mF => FrK5 c m mF) (r := some (vl (dN (lfW w wn) (KLn d l) 0 : Nat))) 24 0 (mu (mu (mu (ms m (c + 4) 0 4 (fun _ => 0)) c 4 0) c 5 w) c 6 wn) [] rfl (by decide) (SR_fr hS (fun b j h => F0 b j (by omega))) (PicM_fr hm (fun b j h1 h2 => F0 b j (by omega))) ⟨by rw [mu_n (by omega), mu_n (by omega), mu_s]; rfl, by rw [mu_n (by omega), mu_s], mu_s, trivial⟩ h10s (fun m1 f1 f2 r1 => by
    rw [List.nil_append] at r1
    obtain ⟨mF, g1, g2⟩ := lpf_Mk_ways hC hA hca hK (w := w) (wn := wn) (Post := fun mF => FrK5 c m mF) (r := some (vl (dN (lfW w wn) (KLn d l) 0 : Nat))) d.toNat 0 m1 (KLs l 24 0) (by omega) (by decide) (PicM_fr hm (fun b j h1 h2 => (f1 b j (by omega)).trans (F0 b j (by omega)))) r1 h10 (fun m2 f3 f4 r2 => by
      have hG : InG m2 c 0 := fun i hi => by
        rw [f4, f2, mu_a (by omega), mu_a (by omega), mu_a (by omega), ms_in (by omega)]
        show (0 : Int) = ((gtT 0 i : Nat) : Int)
        rw [gtTd, Nat.zero_div]; rfl
      have cN := c_Mk_dealNext hC hw hwn (KLn d l) 0 m2 0 hk (by omega) r2 hG (fun i hi => by rw [gtTd, Nat.zero_div]; omega)
      refine ⟨m2, ?_, (F0.tr f1).tr f3⟩
      refine Ev.aload_n d_Mk_ways_105 rfl ?_
      refine Ev.iconst d_Mk_ways_106 ?_
      refine Ev.callV d_Mk_ways_107 mt_Mk_dealNext lk_Mk_63 in_Mk_dealNext se_Mk_dealNext rfl (Nat.le_of_ble_eq_true rfl) rfl (Nat.le_of_ble_eq_true rfl) (by omega) hC.2.1 (by decide) rfl rfl cN ?_
      exact Ev.to (Ev.lreturn d_Mk_ways_110 rfl) rfl rfl)
    refine ⟨mF, ?_, g2⟩
    refine Ev.iconst d_Mk_ways_67 ?_
    refine Ev.istore_4 d_Mk_ways_68 rfl ?_
    exact g1)
  refine ⟨mF, ?_, g2⟩
  show Ev 62 m_Mk_ways 0 [some (vr c), some (vr a), some (vi w), some (vi wn), none] [] σ m _ σ _
  refine Ev.aload_n d_Mk_ways_0 rfl ?_
  refine Ev.ifnonnull (tgt := 6) d_Mk_ways_1 rfl (fun hb1 => ?_) (fun hb1 => by exfalso; first | omega | simp at hb1 | contradiction)
  refine Ev.aload_n d_Mk_ways_6 rfl ?_
  refine Ev.gr 3 d_Mk_ways_7 lf_Mk_21 rfl rfl hC.2.1 (by decide) hC.2.2.2.2.2.2.2.2.2 ?_
  refine Ev.iconst d_Mk_ways_10 ?_
  refine Ev.callSv d_Mk_ways_11 mt_Arr_fillI lk_Mk_24 st_Arr_fillI rfl (Nat.le_of_ble_eq_true rfl) rfl (Nat.le_of_ble_eq_true rfl) (by decide) rfl (c_Arr_fillI hC.2.2.2.2.2.1 (by omega) (by decide)) ?_
  refine Ev.aload_n d_Mk_ways_14 rfl ?_
  refine Ev.iconst d_Mk_ways_15 ?_
  refine Ev.pf 4 d_Mk_ways_16 lf_Mk_30 rfl rfl rfl rfl hC.2.1 (by decide) ?_
  refine Ev.aload_n d_Mk_ways_19 rfl ?_
  refine Ev.iload_n d_Mk_ways_20 rfl ?_
  refine Ev.pf 5 d_Mk_ways_21 lf_Mk_34 rfl rfl rfl rfl hC.2.1 (by decide) ?_
  refine Ev.aload_n d_Mk_ways_24 rfl ?_
  refine Ev.iload_n d_Mk_ways_25 rfl ?_
  refine Ev.pf 6 d_Mk_ways_26 lf_Mk_37 rfl rfl rfl rfl hC.2.1 (by decide) ?_
  refine Ev.iconst d_Mk_ways_29 ?_
  refine Ev.istore_4 d_Mk_ways_30 rfl ?_
  exact g1
end
