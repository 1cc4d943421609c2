/-! THE CLASS: its things by place -/
def pF (j : Int) : Int := if j < 3 then 0 else if j < 5 then 1 else 2
def pT (j : Int) : Int := if j = 0 then 1 else if j = 1 then 2 else if j = 2 then 3 else if j = 3 then 2 else 3
def SR (σ : Sg) (m : Mm) : Prop := Is σ 1 100 6 ∧ Is σ 2 100 6 ∧ (∀ j : Int, 0 ≤ j → j < 6 → m 1 j = pF j) ∧ (∀ j : Int, 0 ≤ j → j < 6 → m 2 j = pT j)
def PicS (σ : Sg) (a : Int) : Prop := 3 ≤ a ∧ Is σ a 2 0 ∧ Is σ (a + 1) 100 24 ∧ Is σ (a + 2) 100 4 ∧ σ.2.2.2.2 a 2 = a + 1 ∧ σ.2.2.2.2 a 3 = a + 2
def PicM (m : Mm) (a d : Int) (l : List Int) : Prop := m a 0 = d ∧ m a 1 = l.length ∧ (∀ s : Int, 0 ≤ s → s < 24 → m (a + 1) s = cn s l) ∧ (∀ f : Int, 0 ≤ f → f < 4 → m (a + 2) f = outL f l)
def FrA (a : Int) (m m' : Mm) : Prop := ∀ b j : Int, b ≠ a → b ≠ a + 1 → b ≠ a + 2 → m' b j = m b j
theorem FrA.rf {a : Int} {m : Mm} : FrA a m m := fun _ _ _ _ _ => rfl
theorem FrA.tr {a : Int} {m m1 m2 : Mm} (h : FrA a m m1) (g : FrA a m1 m2) : FrA a m m2 := fun b j x y z => (g b j x y z).trans (h b j x y z)
theorem SR_fr {σ : Sg} {m m' : Mm} (h : SR σ m) (f : ∀ b j : Int, b < 3 → m' b j = m b j) : SR σ m' := ⟨h.1, h.2.1, fun j x y => (f 1 j (by decide)).trans (h.2.2.1 j x y), fun j x y => (f 2 j (by decide)).trans (h.2.2.2 j x y)⟩
theorem PicM_fr {m m' : Mm} {a d : Int} {l : List Int} (h : PicM m a d l) (f : ∀ b j : Int, a ≤ b → b ≤ a + 2 → m' b j = m b j) : PicM m' a d l := ⟨(f _ _ (by omega) (by omega)).trans h.1, (f _ _ (by omega) (by omega)).trans h.2.1, fun s x y => (f _ _ (by omega) (by omega)).trans (h.2.2.1 s x y), fun s x y => (f _ _ (by omega) (by omega)).trans (h.2.2.2 s x y)⟩
theorem pF_fS : ∀ s : Nat, s < 24 → pF ((s : Int) / 4) = fS s ∧ pT ((s : Int) / 4) = tS s := by decide +kernel
theorem pF_s {s : Int} (h : 0 ≤ s ∧ s < 24) : pF (s / 4) = fS s ∧ pT (s / 4) = tS s := by
  have := pF_fS s.toNat (by omega)
  rwa [Int.toNat_of_nonneg h.1] at this
theorem fS_tS : ∀ s : Nat, s < 24 → fS s < tS s := by decide +kernel
theorem fS_lt {s : Int} (h : 0 ≤ s ∧ s < 24) : fS s < tS s := by
  have := fS_tS s.toNat (by omega)
  rwa [Int.toNat_of_nonneg h.1] at this
section
variable {σ : Sg} {m : Mm}
theorem mcp_in {a sp b dp n j : Int} (h : dp ≤ j ∧ j < dp + n) : mcp m a sp b dp n b j = m a (sp + (j - dp)) := if_pos ⟨rfl, h⟩
theorem mcp_out {a sp b dp n c j : Int} (h : c ≠ b ∨ j < dp ∨ dp + n ≤ j) : mcp m a sp b dp n c j = m c j := if_neg (by omega)
theorem c_FC_fromOf (hS : SR σ m) {s : Int} (hs : 0 ≤ s ∧ s < 24) : Call 1 m_FC_fromOf [vi s] σ m (some (vi (fS s))) σ m := by
  show Ev 1 m_FC_fromOf 0 [some (vi s)] [] σ m _ σ m
  have e := hS.2.2.1 (s / 4) (by omega) (by omega)
  have e2 := (pF_s hs).1
  refine Ev.iload_n d_FC_fromOf_0 rfl ?_
  refine Ev.if_lt (tgt := 20) d_FC_fromOf_1 rfl (by first | omega | (simp [mu]; done) | (simp [mu]; omega)) (fun hb1 => by exfalso; first | omega | simp at hb1 | contradiction) (fun hb1 => ?_)
  refine Ev.iload_n d_FC_fromOf_4 rfl ?_
  refine Ev.bipush d_FC_fromOf_5 rfl ?_
  refine Ev.icmp_ge (tgt := 20) d_FC_fromOf_7 rfl (by first | omega | (simp [mu]; done) | (simp [mu]; omega)) (by first | omega | (simp [mu]; done) | (simp [mu]; omega)) (fun hb7 => by exfalso; first | omega | simp at hb7 | contradiction) (fun hb7 => ?_)
  refine Ev.getF d_FC_fromOf_10 lf_FC_272 ?_
  refine Ev.iload_n d_FC_fromOf_13 rfl ?_
  refine Ev.iconst d_FC_fromOf_14 ?_
  refine Ev.idiv d_FC_fromOf_15 (by first | omega | (simp [mu]; done) | (simp [mu]; omega)) (by first | omega | (simp [mu]; done) | (simp [mu]; omega)) ?_
  refine Ev.iaload d_FC_fromOf_16 hS.1 (by first | omega | (simp [mu]; done) | (simp [mu]; omega)) ?_
  rw [e, e2]
  refine Ev.goto (tgt := 21) d_FC_fromOf_17 rfl ?_
  exact Ev.to (Ev.ireturn d_FC_fromOf_21 rfl) rfl rfl
theorem c_FC_toOf (hS : SR σ m) {s : Int} (hs : 0 ≤ s ∧ s < 24) : Call 1 m_FC_toOf [vi s] σ m (some (vi (tS s))) σ m := by
  show Ev 1 m_FC_toOf 0 [some (vi s)] [] σ m _ σ m
  have e := hS.2.2.2 (s / 4) (by omega) (by omega)
  have e2 := (pF_s hs).2
  refine Ev.iload_n d_FC_toOf_0 rfl ?_
  refine Ev.if_lt (tgt := 20) d_FC_toOf_1 rfl (by first | omega | (simp [mu]; done) | (simp [mu]; omega)) (fun hb1 => by exfalso; first | omega | simp at hb1 | contradiction) (fun hb1 => ?_)
  refine Ev.iload_n d_FC_toOf_4 rfl ?_
  refine Ev.bipush d_FC_toOf_5 rfl ?_
  refine Ev.icmp_ge (tgt := 20) d_FC_toOf_7 rfl (by first | omega | (simp [mu]; done) | (simp [mu]; omega)) (by first | omega | (simp [mu]; done) | (simp [mu]; omega)) (fun hb7 => by exfalso; first | omega | simp at hb7 | contradiction) (fun hb7 => ?_)
  refine Ev.getT d_FC_toOf_10 lf_FC_276 ?_
  refine Ev.iload_n d_FC_toOf_13 rfl ?_
  refine Ev.iconst d_FC_toOf_14 ?_
  refine Ev.idiv d_FC_toOf_15 (by first | omega | (simp [mu]; done) | (simp [mu]; omega)) (by first | omega | (simp [mu]; done) | (simp [mu]; omega)) ?_
  refine Ev.iaload d_FC_toOf_16 hS.2.1 (by first | omega | (simp [mu]; done) | (simp [mu]; omega)) ?_
  rw [e, e2]
  refine Ev.goto (tgt := 21) d_FC_toOf_17 rfl ?_
  exact Ev.to (Ev.ireturn d_FC_toOf_21 rfl) rfl rfl
theorem c_FC_weightOf {s : Int} (hs : 0 ≤ s ∧ s < 24) : Call 1 m_FC_weightOf [vi s] σ m (some (vi (wS s))) σ m := by
  show Ev 1 m_FC_weightOf 0 [some (vi s)] [] σ m _ σ m
  refine Ev.iload_n d_FC_weightOf_0 rfl ?_
  refine Ev.if_lt (tgt := 18) d_FC_weightOf_1 rfl (by first | omega | (simp [mu]; done) | (simp [mu]; omega)) (fun hb1 => by exfalso; first | omega | simp at hb1 | contradiction) (fun hb1 => ?_)
  refine Ev.iload_n d_FC_weightOf_4 rfl ?_
  refine Ev.bipush d_FC_weightOf_5 rfl ?_
  refine Ev.icmp_ge (tgt := 18) d_FC_weightOf_7 rfl (by first | omega | (simp [mu]; done) | (simp [mu]; omega)) (by first | omega | (simp [mu]; done) | (simp [mu]; omega)) (fun hb7 => by exfalso; first | omega | simp at hb7 | contradiction) (fun hb7 => ?_)
  refine Ev.iload_n d_FC_weightOf_10 rfl ?_
  refine Ev.iconst d_FC_weightOf_11 ?_
  refine Ev.irem d_FC_weightOf_12 (by first | omega | (simp [mu]; done) | (simp [mu]; omega)) (by first | omega | (simp [mu]; done) | (simp [mu]; omega)) ?_
  refine Ev.iconst d_FC_weightOf_13 ?_
  refine Ev.iadd d_FC_weightOf_14 ?_
  refine Ev.goto (tgt := 19) d_FC_weightOf_15 rfl ?_
  exact Ev.to (Ev.ireturn d_FC_weightOf_19 rfl) rfl rfl
theorem c_FC_isDegree {d : Int} (h1 : -2147483648 ≤ d ∧ d ≤ 2147483647) : Call 1 m_FC_isDegree [vi d] σ m (some (vi (b01 (1 ≤ d ∧ d ≤ 4)))) σ m := by
  show Ev 1 m_FC_isDegree 0 [some (vi d)] [] σ m _ σ m
  refine Ev.iload_n d_FC_isDegree_0 rfl ?_
  refine Ev.iconst d_FC_isDegree_1 ?_
  refine Ev.icmp_lt (tgt := 14) d_FC_isDegree_2 rfl (by first | omega | (simp [mu]; done) | (simp [mu]; omega)) (by first | omega | (simp [mu]; done) | (simp [mu]; omega)) (fun hb2 => ?_) (fun hb2 => ?_)
  · refine Ev.iconst d_FC_isDegree_14 ?_
    exact Ev.to (Ev.zreturn d_FC_isDegree_15 rfl (by first | omega | exact b01_01)) (r0 (by omega)) rfl
  · refine Ev.iload_n d_FC_isDegree_5 rfl ?_
    refine Ev.iconst d_FC_isDegree_6 ?_
    refine Ev.icmp_gt (tgt := 14) d_FC_isDegree_7 rfl (by first | omega | (simp [mu]; done) | (simp [mu]; omega)) (by first | omega | (simp [mu]; done) | (simp [mu]; omega)) (fun hb7 => ?_) (fun hb7 => ?_)
    · refine Ev.iconst d_FC_isDegree_14 ?_
      exact Ev.to (Ev.zreturn d_FC_isDegree_15 rfl (by first | omega | exact b01_01)) (r0 (by omega)) rfl
    · refine Ev.iconst d_FC_isDegree_10 ?_
      refine Ev.goto (tgt := 15) d_FC_isDegree_11 rfl ?_
      exact Ev.to (Ev.zreturn d_FC_isDegree_15 rfl (by first | omega | exact b01_01)) (r1 (by omega)) rfl
theorem lp_fillI {a n v : Int} (ha : Is σ a 100 n) (h3 : 3 ≤ a) (hn : 0 ≤ n ∧ n ≤ 60000) : ∀ (q : Nat) (i : Int) (m mF : Mm), i + q = n → 0 ≤ i → mF = ms m a i n (fun _ => v) → Ev 1 m_Arr_fillI 5 [some (vr a), some (vi v), some (vi i), some (vi n)] [] σ m none σ mF
  | 0, i, m, mF, hi, h0, hF => by
    rw [ms_e (by omega)] at hF
    subst hF
    refine Ev.iload_n d_Arr_fillI_5 rfl ?_
    refine Ev.iload_n d_Arr_fillI_6 rfl ?_
    refine Ev.icmp_ge (tgt := 20) d_Arr_fillI_7 rfl (by first | omega | (simp [mu]; done) | (simp [mu]; omega)) (by first | omega | (simp [mu]; done) | (simp [mu]; omega)) (fun hb7 => ?_) (fun hb7 => by exfalso; first | omega | simp at hb7 | contradiction)
    exact Ev.to (Ev.return d_Arr_fillI_20 rfl) rfl rfl
  | q + 1, i, m, mF, hi, h0, hF => by
    have c := lp_fillI ha h3 hn q (i + 1) (mu m a i v) mF (by omega) (by omega) (by rw [hF]; exact (ms_s (F := fun _ => v) (by omega)).symm)
    refine Ev.iload_n d_Arr_fillI_5 rfl ?_
    refine Ev.iload_n d_Arr_fillI_6 rfl ?_
    refine Ev.icmp_ge (tgt := 20) d_Arr_fillI_7 rfl (by first | omega | (simp [mu]; done) | (simp [mu]; omega)) (by first | omega | (simp [mu]; done) | (simp [mu]; omega)) (fun hb7 => by exfalso; first | omega | simp at hb7 | contradiction) (fun hb7 => ?_)
    refine Ev.aload_n d_Arr_fillI_10 rfl ?_
    refine Ev.iload_n d_Arr_fillI_11 rfl ?_
    refine Ev.iload_n d_Arr_fillI_12 rfl ?_
    refine Ev.iastore d_Arr_fillI_13 ha h3 (by first | omega | (simp [mu]; done) | (simp [mu]; omega)) ?_
    refine Ev.iinc_2 d_Arr_fillI_14 rfl ?_
    refine Ev.goto (tgt := 5) d_Arr_fillI_17 rfl ?_
    exact c
theorem c_Arr_fillI {a n v : Int} (ha : Is σ a 100 n) (h3 : 3 ≤ a) (hn : 0 ≤ n ∧ n ≤ 60000) : Call 1 m_Arr_fillI [vr a, vi v] σ m none σ (ms m a 0 n (fun _ => v)) := by
  show Ev 1 m_Arr_fillI 0 [some (vr a), some (vi v), none, none] [] σ m _ σ _
  refine Ev.iconst d_Arr_fillI_0 ?_
  refine Ev.istore_2 d_Arr_fillI_1 rfl ?_
  refine Ev.aload_n d_Arr_fillI_2 rfl ?_
  refine Ev.arraylength d_Arr_fillI_3 ha (by decide) ?_
  refine Ev.istore_3 d_Arr_fillI_4 rfl ?_
  exact lp_fillI ha h3 hn n.toNat 0 _ _ (by omega) (by decide) rfl
theorem lp_fillL {a n v : Int} (ha : Is σ a 101 n) (h3 : 3 ≤ a) (hn : 0 ≤ n ∧ n ≤ 60000) : ∀ (q : Nat) (i : Int) (m mF : Mm), i + q = n → 0 ≤ i → mF = ms m a i n (fun _ => v) → Ev 1 m_Arr_fillL 6 [some (vr a), some (vl v), none, some (vi i), some (vi n)] [] σ m none σ mF
  | 0, i, m, mF, hi, h0, hF => by
    rw [ms_e (by omega)] at hF
    subst hF
    refine Ev.iload_n d_Arr_fillL_6 rfl ?_
    refine Ev.iload d_Arr_fillL_7 rfl ?_
    refine Ev.icmp_ge (tgt := 22) d_Arr_fillL_9 rfl (by first | omega | (simp [mu]; done) | (simp [mu]; omega)) (by first | omega | (simp [mu]; done) | (simp [mu]; omega)) (fun hb9 => ?_) (fun hb9 => by exfalso; first | omega | simp at hb9 | contradiction)
    exact Ev.to (Ev.return d_Arr_fillL_22 rfl) rfl rfl
  | q + 1, i, m, mF, hi, h0, hF => by
    have c := lp_fillL ha h3 hn q (i + 1) (mu m a i v) mF (by omega) (by omega) (by rw [hF]; exact (ms_s (F := fun _ => v) (by omega)).symm)
    refine Ev.iload_n d_Arr_fillL_6 rfl ?_
    refine Ev.iload d_Arr_fillL_7 rfl ?_
    refine Ev.icmp_ge (tgt := 22) d_Arr_fillL_9 rfl (by first | omega | (simp [mu]; done) | (simp [mu]; omega)) (by first | omega | (simp [mu]; done) | (simp [mu]; omega)) (fun hb9 => by exfalso; first | omega | simp at hb9 | contradiction) (fun hb9 => ?_)
    refine Ev.aload_n d_Arr_fillL_12 rfl ?_
    refine Ev.iload_n d_Arr_fillL_13 rfl ?_
    refine Ev.lload_n d_Arr_fillL_14 rfl ?_
    refine Ev.lastore d_Arr_fillL_15 ha h3 (by first | omega | (simp [mu]; done) | (simp [mu]; omega)) ?_
    refine Ev.iinc_3 d_Arr_fillL_16 rfl ?_
    refine Ev.goto (tgt := 6) d_Arr_fillL_19 rfl ?_
    exact c
theorem c_Arr_fillL {a n v : Int} (ha : Is σ a 101 n) (h3 : 3 ≤ a) (hn : 0 ≤ n ∧ n ≤ 60000) : Call 1 m_Arr_fillL [vr a, vl v] σ m none σ (ms m a 0 n (fun _ => v)) := by
  show Ev 1 m_Arr_fillL 0 [some (vr a), some (vl v), none, none, none] [] σ m _ σ _
  refine Ev.iconst d_Arr_fillL_0 ?_
  refine Ev.istore_3 d_Arr_fillL_1 rfl ?_
  refine Ev.aload_n d_Arr_fillL_2 rfl ?_
  refine Ev.arraylength d_Arr_fillL_3 ha (by decide) ?_
  refine Ev.istore_4 d_Arr_fillL_4 rfl ?_
  exact lp_fillL ha h3 hn n.toNat 0 _ _ (by omega) (by decide) rfl
theorem c_Pic_clear {a d : Int} (hP : PicS σ a) (hd : 1 ≤ d ∧ d ≤ 4) : ∃ m', Call 2 m_Pic_clear [vr a, vi d] σ m none σ m' ∧ PicM m' a d [] ∧ FrA a m m' := by
  refine ⟨ms (ms (mu (mu m a 0 d) a 1 0) (a + 1) 0 24 (fun _ => 0)) (a + 2) 0 4 (fun _ => 0), ?_, ⟨?_, ?_, fun s x y => ?_, fun f x y => ?_⟩, fun b j x y z => ?_⟩
  rotate_left
  · rw [ms_out (by omega), ms_out (by omega), mu_n (by omega), mu_s]
  · rw [ms_out (by omega), ms_out (by omega), mu_s]; rfl
  · rw [ms_out (by omega), ms_in ⟨x, y⟩]; rfl
  · rw [ms_in ⟨x, y⟩]; rfl
  · rw [ms_out (by omega), ms_out (by omega), mu_n (by omega), mu_n (by omega)]
  show Ev 2 m_Pic_clear 0 [some (vr a), some (vi d)] [] σ m _ σ _
  refine Ev.aload_n d_Pic_clear_0 rfl ?_
  refine Ev.iload_n d_Pic_clear_1 rfl ?_
  refine Ev.callSN d_Pic_clear_2 mt_FC_isDegree lk_Pic_22 st_FC_isDegree rfl (Nat.le_of_ble_eq_true rfl) rfl (Nat.le_of_ble_eq_true rfl) (by decide) rfl (c_FC_isDegree (by omega)) ?_
  refine Ev.if_eq (tgt := 12) d_Pic_clear_5 rfl b01_b (fun hb5 => by exfalso; (first | rw [b01_ne] at hb5 | rw [b01_eq] at hb5); omega) (fun hb5 => ?_)
  rw [b01_ne] at hb5
  refine Ev.iload_n d_Pic_clear_8 rfl ?_
  refine Ev.goto (tgt := 13) d_Pic_clear_9 rfl ?_
  refine Ev.pf 0 d_Pic_clear_13 lf_Pic_9 rfl rfl rfl rfl hP.2.1 (by decide) ?_
  refine Ev.aload_n d_Pic_clear_16 rfl ?_
  refine Ev.iconst d_Pic_clear_17 ?_
  refine Ev.pf 1 d_Pic_clear_18 lf_Pic_26 rfl rfl rfl rfl hP.2.1 (by decide) ?_
  refine Ev.aload_n d_Pic_clear_21 rfl ?_
  refine Ev.gr 2 d_Pic_clear_22 lf_Pic_15 rfl rfl hP.2.1 (by decide) hP.2.2.2.2.1 ?_
  refine Ev.iconst d_Pic_clear_25 ?_
  refine Ev.callSv d_Pic_clear_26 mt_Arr_fillI lk_Pic_29 st_Arr_fillI rfl (Nat.le_of_ble_eq_true rfl) rfl (Nat.le_of_ble_eq_true rfl) (by decide) rfl (c_Arr_fillI hP.2.2.1 (by have := hP.1; omega) (by decide)) ?_
  refine Ev.aload_n d_Pic_clear_29 rfl ?_
  refine Ev.gr 3 d_Pic_clear_30 lf_Pic_19 rfl rfl hP.2.1 (by decide) hP.2.2.2.2.2 ?_
  refine Ev.iconst d_Pic_clear_33 ?_
  refine Ev.callSv d_Pic_clear_34 mt_Arr_fillI lk_Pic_29 st_Arr_fillI rfl (Nat.le_of_ble_eq_true rfl) rfl (Nat.le_of_ble_eq_true rfl) (by decide) rfl (c_Arr_fillI hP.2.2.2.1 (by have := hP.1; omega) (by decide)) ?_
  exact Ev.to (Ev.return d_Pic_clear_37 rfl) rfl rfl
theorem c_Pic_copyOf {a b d : Int} {l : List Int} (hP : PicS σ a) (hQ : PicS σ b) (hab : b + 2 < a ∨ a + 2 < b) (hm : PicM m b d l) : ∃ m', Call 2 m_Pic_copyOf [vr a, vr b] σ m none σ m' ∧ PicM m' a d l ∧ FrA a m m' := by
  have e0 : mu m a 0 (m b 0) b 1 = l.length := by rw [mu_a (by omega)]; exact hm.2.1
  refine ⟨mcp (mcp (mu (mu m a 0 d) a 1 l.length) (b + 1) 0 (a + 1) 0 24) (b + 2) 0 (a + 2) 0 4, ?_, ⟨?_, ?_, fun s x y => ?_, fun f x y => ?_⟩, fun c j x y z => ?_⟩
  rotate_left
  · rw [mcp_out (by omega), mcp_out (by omega), mu_n (by omega), mu_s]
  · rw [mcp_out (by omega), mcp_out (by omega), mu_s]
  · rw [mcp_out (by omega), mcp_in (by omega), mu_a (by omega), mu_a (by omega), show (0 : Int) + (s - 0) = s by omega]; exact hm.2.2.1 s x y
  · rw [mcp_in (by omega), mcp_out (by omega), mu_a (by omega), mu_a (by omega), show (0 : Int) + (f - 0) = f by omega]; exact hm.2.2.2 f x y
  · rw [mcp_out (by omega), mcp_out (by omega), mu_a (by omega), mu_a (by omega)]
  have hb3 := hQ.1
  show Ev 2 m_Pic_copyOf 0 [some (vr a), some (vr b)] [] σ m _ σ _
  rw [← hm.1]
  refine Ev.aload_n d_Pic_copyOf_0 rfl ?_
  refine Ev.ifnonnull (tgt := 5) d_Pic_copyOf_1 rfl (fun hb1 => ?_) (fun hb1 => by exfalso; first | omega | simp at hb1 | contradiction)
  refine Ev.aload_n d_Pic_copyOf_5 rfl ?_
  refine Ev.aload_n d_Pic_copyOf_6 rfl ?_
  refine Ev.gf 0 d_Pic_copyOf_7 lf_Pic_9 rfl rfl hQ.2.1 (by decide) ?_
  refine Ev.pf 0 d_Pic_copyOf_10 lf_Pic_9 rfl rfl rfl rfl hP.2.1 (by decide) ?_
  refine Ev.aload_n d_Pic_copyOf_13 rfl ?_
  refine Ev.aload_n d_Pic_copyOf_14 rfl ?_
  refine Ev.gf 1 d_Pic_copyOf_15 lf_Pic_26 rfl rfl hQ.2.1 (by decide) ?_
  rw [e0]
  refine Ev.pf 1 d_Pic_copyOf_18 lf_Pic_26 rfl rfl rfl rfl hP.2.1 (by decide) ?_
  refine Ev.aload_n d_Pic_copyOf_21 rfl ?_
  refine Ev.gr 2 d_Pic_copyOf_22 lf_Pic_15 rfl rfl hQ.2.1 (by decide) hQ.2.2.2.2.1 ?_
  refine Ev.iconst d_Pic_copyOf_25 ?_
  refine Ev.aload_n d_Pic_copyOf_26 rfl ?_
  refine Ev.gr 2 d_Pic_copyOf_27 lf_Pic_15 rfl rfl hP.2.1 (by decide) hP.2.2.2.2.1 ?_
  refine Ev.iconst d_Pic_copyOf_30 ?_
  refine Ev.bipush d_Pic_copyOf_31 rfl ?_
  refine Ev.copy d_Pic_copyOf_33 lk_Pic_35 nt_copy st_copy ini_sys (Or.inl rfl) hQ.2.2.1 hP.2.2.1 ⟨(by have := hQ.1; omega), (by have := hP.1; omega)⟩ (by first | omega | (simp [mu]; done) | (simp [mu]; omega)) (by first | omega | (simp [mu]; done) | (simp [mu]; omega)) (by omega) rfl (Nat.le_of_ble_eq_true rfl) (by decide) ?_
  refine Ev.aload_n d_Pic_copyOf_36 rfl ?_
  refine Ev.gr 3 d_Pic_copyOf_37 lf_Pic_19 rfl rfl hQ.2.1 (by decide) hQ.2.2.2.2.2 ?_
  refine Ev.iconst d_Pic_copyOf_40 ?_
  refine Ev.aload_n d_Pic_copyOf_41 rfl ?_
  refine Ev.gr 3 d_Pic_copyOf_42 lf_Pic_19 rfl rfl hP.2.1 (by decide) hP.2.2.2.2.2 ?_
  refine Ev.iconst d_Pic_copyOf_45 ?_
  refine Ev.iconst d_Pic_copyOf_46 ?_
  refine Ev.copy d_Pic_copyOf_47 lk_Pic_35 nt_copy st_copy ini_sys (Or.inl rfl) hQ.2.2.2.1 hP.2.2.2.1 ⟨(by have := hQ.1; omega), (by have := hP.1; omega)⟩ (by first | omega | (simp [mu]; done) | (simp [mu]; omega)) (by first | omega | (simp [mu]; done) | (simp [mu]; omega)) (by omega) rfl (Nat.le_of_ble_eq_true rfl) (by decide) ?_
  exact Ev.to (Ev.return d_Pic_copyOf_50 rfl) rfl rfl
theorem c_Pic_degree {a d : Int} {l : List Int} (hP : PicS σ a) (hm : PicM m a d l) : Call 1 m_Pic_degree [vr a] σ m (some (vi d)) σ m := by
  show Ev 1 m_Pic_degree 0 [some (vr a)] [] σ m _ σ m
  have e0 := hm.1
  have e1 := hm.2.1
  refine Ev.aload_n d_Pic_degree_0 rfl ?_
  refine Ev.gf 0 d_Pic_degree_1 lf_Pic_9 rfl rfl hP.2.1 (by decide) ?_
  exact Ev.to (Ev.ireturn d_Pic_degree_4 rfl) (ri e0) rfl
theorem c_Pic_stairCount {a d : Int} {l : List Int} (hP : PicS σ a) (hm : PicM m a d l) : Call 1 m_Pic_stairCount [vr a] σ m (some (vi l.length)) σ m := by
  show Ev 1 m_Pic_stairCount 0 [some (vr a)] [] σ m _ σ m
  have e0 := hm.1
  have e1 := hm.2.1
  refine Ev.aload_n d_Pic_stairCount_0 rfl ?_
  refine Ev.gf 1 d_Pic_stairCount_1 lf_Pic_26 rfl rfl hP.2.1 (by decide) ?_
  exact Ev.to (Ev.ireturn d_Pic_stairCount_4 rfl) (ri e1) rfl
theorem c_Pic_hasFloor {a d : Int} {l : List Int} (hP : PicS σ a) (hm : PicM m a d l) (hd : 1 ≤ d ∧ d ≤ 4) {f : Int} (h1 : -2147483648 ≤ f ∧ f ≤ 2147483647) : Call 1 m_Pic_hasFloor [vr a, vi f] σ m (some (vi (b01 (0 ≤ f ∧ f < d)))) σ m := by
  show Ev 1 m_Pic_hasFloor 0 [some (vr a), some (vi f)] [] σ m _ σ m
  have e0 := hm.1
  have e1 := hm.2.1
  refine Ev.iload_n d_Pic_hasFloor_0 rfl ?_
  refine Ev.if_lt (tgt := 16) d_Pic_hasFloor_1 rfl (by first | omega | (simp [mu]; done) | (simp [mu]; omega)) (fun hb1 => ?_) (fun hb1 => ?_)
  · refine Ev.iconst d_Pic_hasFloor_16 ?_
    exact Ev.to (Ev.zreturn d_Pic_hasFloor_17 rfl (by first | omega | exact b01_01)) (r0 (by omega)) rfl
  · refine Ev.iload_n d_Pic_hasFloor_4 rfl ?_
    refine Ev.aload_n d_Pic_hasFloor_5 rfl ?_
    refine Ev.gf 0 d_Pic_hasFloor_6 lf_Pic_9 rfl rfl hP.2.1 (by decide) ?_
    rw [e0]
    refine Ev.icmp_ge (tgt := 16) d_Pic_hasFloor_9 rfl (by first | omega | (simp [mu]; done) | (simp [mu]; omega)) (by first | omega | (simp [mu]; done) | (simp [mu]; omega)) (fun hb9 => ?_) (fun hb9 => ?_)
    · refine Ev.iconst d_Pic_hasFloor_16 ?_
      exact Ev.to (Ev.zreturn d_Pic_hasFloor_17 rfl (by first | omega | exact b01_01)) (r0 (by omega)) rfl
    · refine Ev.iconst d_Pic_hasFloor_12 ?_
      refine Ev.goto (tgt := 17) d_Pic_hasFloor_13 rfl ?_
      exact Ev.to (Ev.zreturn d_Pic_hasFloor_17 rfl (by first | omega | exact b01_01)) (r1 (by omega)) rfl
end
