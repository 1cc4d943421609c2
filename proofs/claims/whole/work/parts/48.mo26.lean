section
variable {σ : Sg} {m : Mm}
/-! one row reckoned -/
theorem cn_del (j s : Int) : ∀ l : List Int, 0 < cn s l → cn j (del s l) = cn j l - (if j = s then 1 else 0)
  | [], h => by simp [cn] at h
  | x :: t, h => by
    simp only [cn] at h
    by_cases e : x = s
    · have e1 : del s (x :: t) = t := by simp [del, e]
      rw [e1]
      simp only [cn]
      by_cases e2 : j = s
      · rw [if_pos e2, if_pos (by omega)]; omega
      · rw [if_neg e2, if_neg (by omega)]; omega
    · have e1 : del s (x :: t) = x :: del s t := by simp [del, e]
      rw [if_neg (by omega)] at h
      rw [e1]
      simp only [cn]
      rw [cn_del j s t (by omega)]
      omega
theorem del_le (s : Int) : ∀ l : List Int, (del s l).length ≤ l.length
  | [] => by simp [del]
  | x :: t => by
    by_cases e : x = s
    · have e1 : del s (x :: t) = t := by simp [del, e]
      rw [e1]; simp only [List.length_cons]; omega
    · have e1 : del s (x :: t) = x :: del s t := by simp [del, e]
      rw [e1]; simp only [List.length_cons]
      have := del_le s t
      omega
def rT (r : Nat) : List Int := TL.getD r []
def rko (r : Nat) : Int := 6 * tsum (rT r) + nbK 12 (rT r)
def tmv (k : Int) (l : List Int) : List Int := del (6 + k) l ++ [k]
def sA (l : List Int) (n : Int) : Nat → Int → Int → Int
  | 0, _, s => s
  | q + 1, k, s => sA l n q (k + 1) (if 0 < cn (6 + k) l then s + k * wtI (ixL (tmv k l) TL 0) n else s)
def sB (l : List Int) (n d : Int) : List (List Int) → Int → Int → Int
  | [], _, s => s
  | lq :: t, i, s => sB l n d t (i + 1) (if tsum lq = d - 1 then s + gsV l lq i n d else s)
def rkv (l : List Int) (n : Int) : Int := if tsum l = 1 then (if n = 0 then 1 else 0) else sB l n (tsum l) TL 0 (sA l n 5 1 0)
theorem rkv_wt : ∀ r : Nat, r < 73 → ∀ n : Nat, n < 11 → rkv (rT r) n = wt r n := by decide +kernel
def mvOk (r : Nat) (k : Nat) : Bool := decide (0 < cn (6 + (k : Int)) (rT r) → 0 ≤ ixL (tmv k (rT r)) TL 0 ∧ ixL (tmv k (rT r)) TL 0 < 73 ∧ rko (ixL (tmv k (rT r)) TL 0).toNat < rko r)
theorem mv_ok : ∀ r : Nat, r < 73 → tsum (rT r) ≠ 1 → ∀ k : Nat, k < 6 → 1 ≤ k → mvOk r k = true := by decide +kernel
theorem rT_b : ∀ r : Nat, r < 73 → (1 ≤ tsum (rT r) ∧ tsum (rT r) ≤ 5) ∧ 0 ≤ nbK 12 (rT r) ∧ nbK 12 (rT r) ≤ 5 := by decide +kernel
def RB (m : Mm) (r : Nat) : Prop := m 57 27 = 73 ∧ Laid m 73 ∧ ∀ i : Nat, i < 73 → rko i < rko r → ∀ j : Int, 0 ≤ j → j ≤ 10 → m 82 (11 * i + j) = wtI i j
theorem Laid_fr {n : Nat} {m' : Mm} (h : Laid m n) (f : ∀ a j : Int, a = 79 ∨ a = 80 ∨ a = 81 → m' a j = m a j) : Laid m' n := fun i hi => by
  obtain ⟨a, b, c⟩ := h i hi
  exact ⟨(f _ _ (by omega)).trans a, (f _ _ (by omega)).trans b, fun k x y => (f _ _ (by omega)).trans (c k x y)⟩
theorem RB_fr {r : Nat} {m' : Mm} (h : RB m r) (f : Fr83 m m') : RB m' r := ⟨(f _ _ (by decide)).trans h.1, Laid_fr h.2.1 (fun a j x => f a j (by omega)), fun i hi x j a b => (f _ _ (by decide)).trans (h.2.2 i hi x j a b)⟩
theorem R12_mv {k : Int} {l : List Int} (h : R12 83 m l) (hk : 1 ≤ k ∧ k ≤ 5) (hc : 0 < cn (6 + k) l) : R12 83 (mu (mu m 83 k (m 83 k + 1)) 83 (6 + k) (mu m 83 k (m 83 k + 1) 83 (6 + k) - 1)) (tmv k l) := fun j a b => by
  unfold tmv
  rw [cn_app, cn_del j _ l hc]
  by_cases e : j = 6 + k
  · rw [e, mu_s, mu_n (Or.inr (by omega)), h (6 + k) (by omega) (by omega), if_pos rfl]
    simp only [cn]
    rw [if_neg (by omega)]; omega
  · rw [mu_n (Or.inr e), if_neg e]
    simp only [cn]
    by_cases e2 : j = k
    · rw [e2, mu_s, h k (by omega) (by omega), if_pos rfl]; omega
    · rw [mu_n (Or.inr e2), h j a b, if_neg (fun z => e2 z.symm)]; omega
theorem lpc_Mo_reckon (hM : MoS σ) {r : Nat} {l : List Int} {d n s k : Int} (hr : r < 73) {R : Option AV} {Post : Mm → Prop} : ∀ (q : Nat) (j : Int) (m : Mm), j + q = 12 → 0 ≤ j → (∀ i : Int, 0 ≤ i → i < j → m 83 i = cn i l) → (∀ i : Int, 0 ≤ i → i < 12 → m 81 (12 * r + i) = cn i l) → (∀ m' : Mm, Fr83 m m' → R12 83 m' l → ∃ mF, Ev 3 m_Mo_reckon 102 [some (vr 57), some (vi r), some (vi d), some (vi n), some (vl s), none, some (vi k), some (vi 12)] [] σ m' R σ mF ∧ Post mF) → ∃ mF, Ev 3 m_Mo_reckon 70 [some (vr 57), some (vi r), some (vi d), some (vi n), some (vl s), none, some (vi k), some (vi j)] [] σ m R σ mF ∧ Post mF
  | 0, j, m, hj, h0, hz, hT, c => by
    have e : j = 12 := by omega
    subst e
    obtain ⟨mF, g1, g2⟩ := c m (fun _ _ _ => rfl) hz
    refine ⟨mF, ?_, g2⟩
    refine Ev.iload d_Mo_reckon_70 rfl ?_
    refine Ev.bipush d_Mo_reckon_72 rfl ?_
    refine Ev.icmp_ge (tgt := 102) d_Mo_reckon_74 rfl (by first | omega | (simp [mu]; done) | (simp [mu]; omega)) (by first | omega | (simp [mu]; done) | (simp [mu]; omega)) (fun hb74 => ?_) (fun hb74 => by exfalso; first | omega | simp at hb74 | contradiction)
    exact g1
  | q + 1, j, m, hj, h0, hz, hT, c => by
    have e1 := hT j h0 (by omega)
    obtain ⟨mF, g1, g2⟩ := lpc_Mo_reckon hM hr q (j + 1) (mu m 83 j (cn j l)) (by omega) (by omega) (fun i a b => by
      by_cases e : i = j
      · rw [e, mu_s]
      · rw [mu_n (Or.inr e)]; exact hz i a (by omega)) (fun i a b => by rw [mu_a (by decide)]; exact hT i a b) (fun m' f1 f2 => c m' (fun a i h => (f1 a i h).trans (mu_a h)) f2)
    refine ⟨mF, ?_, g2⟩
    refine Ev.iload d_Mo_reckon_70 rfl ?_
    refine Ev.bipush d_Mo_reckon_72 rfl ?_
    refine Ev.icmp_ge (tgt := 102) d_Mo_reckon_74 rfl (by first | omega | (simp [mu]; done) | (simp [mu]; omega)) (by first | omega | (simp [mu]; done) | (simp [mu]; omega)) (fun hb74 => by exfalso; first | omega | simp at hb74 | contradiction) (fun hb74 => ?_)
    refine Ev.aload_n d_Mo_reckon_77 rfl ?_
    refine Ev.gr 34 d_Mo_reckon_78 lf_Mo_88 rfl rfl (is_57 hM) (by decide) (rf_57_34 hM) ?_
    refine Ev.iload d_Mo_reckon_81 rfl ?_
    refine Ev.aload_n d_Mo_reckon_83 rfl ?_
    refine Ev.gr 30 d_Mo_reckon_84 lf_Mo_82 rfl rfl (is_57 hM) (by decide) (rf_57_30 hM) ?_
    refine Ev.bipush d_Mo_reckon_87 rfl ?_
    refine Ev.iload_n d_Mo_reckon_89 rfl ?_
    refine Ev.imul d_Mo_reckon_90 ?_
    refine Ev.iload d_Mo_reckon_91 rfl ?_
    refine Ev.iadd d_Mo_reckon_93 ?_
    refine Ev.iaload d_Mo_reckon_94 (is_81 hM) (by first | omega | (simp [mu]; done) | (simp [mu]; omega)) ?_
    rw [e1]
    refine Ev.iastore d_Mo_reckon_95 (is_83 hM) (by decide) (by first | omega | (simp [mu]; done) | (simp [mu]; omega)) ?_
    refine Ev.iinc_7 d_Mo_reckon_96 rfl ?_
    refine Ev.goto (tgt := 70) d_Mo_reckon_99 rfl ?_
    exact g1
theorem lpA_Mo_reckon (hM : MoS σ) {r : Nat} {d n : Int} (hr : r < 73) (hd : d = tsum (rT r)) (hd1 : d ≠ 1) (hn : 0 ≤ n ∧ n ≤ 10) {R : Option AV} {Post : Mm → Prop} : ∀ (q : Nat) (k s : Int) (m : Mm) (x7 : Option AV), k + q = 6 → 1 ≤ k → RB m r → (∀ (m' : Mm) (x7 : Option AV), Fr83 m m' → ∃ mF, Ev 3 m_Mo_reckon 161 [some (vr 57), some (vi r), some (vi d), some (vi n), some (vl (sA (rT r) n q k s)), none, some (vi 6), x7] [] σ m' R σ mF ∧ Post mF) → ∃ mF, Ev 3 m_Mo_reckon 37 [some (vr 57), some (vi r), some (vi d), some (vi n), some (vl s), none, some (vi k), x7] [] σ m R σ mF ∧ Post mF
  | 0, k, s, m, x7, hk, h1, hB, c => by
    have e : k = 6 := by omega
    subst e
    obtain ⟨mF, g1, g2⟩ := c m x7 (fun _ _ _ => rfl)
    refine ⟨mF, ?_, g2⟩
    simp only [sA] at g1
    refine Ev.iload d_Mo_reckon_37 rfl ?_
    refine Ev.bipush d_Mo_reckon_39 rfl ?_
    refine Ev.icmp_ge (tgt := 161) d_Mo_reckon_41 rfl (by first | omega | (simp [mu]; done) | (simp [mu]; omega)) (by first | omega | (simp [mu]; done) | (simp [mu]; omega)) (fun hb41 => ?_) (fun hb41 => by exfalso; first | omega | simp at hb41 | contradiction)
    exact g1
  | q + 1, k, s, m, x7, hk, h1, hB, c => by
    have hdb := rT_b r hr
    have hT := hB.2.1 r hr
    have e1 := hT.2.2 (6 + k) (by omega) (by omega)
    rw [← Int.add_assoc] at e1
    have h5 := TL_l5 hr
    have b1 := cn_b (6 + k) (TL.getD r [])
    by_cases hc : 0 < cn (6 + k) (rT r)
    · have es : sA (rT r) n (q + 1) k s = sA (rT r) n q (k + 1) (s + k * wtI (ixL (tmv k (rT r)) TL 0) n) := by
        simp only [sA]; rw [if_pos hc]
      rw [es] at c
      have hmv := mv_ok r hr (by omega) k.toNat (by omega) (by omega)
      unfold mvOk at hmv
      rw [Int.toNat_of_nonneg (by omega)] at hmv
      have hmv := (of_decide_eq_true hmv) hc
      generalize hx : ixL (tmv k (rT r)) TL 0 = x at c hmv
      obtain ⟨mF, g1, g2⟩ := lpc_Mo_reckon hM (l := rT r) (d := d) (n := n) (s := s) (k := k) hr (R := R) (Post := Post) 12 0 m rfl (by decide) (fun i a b => by exfalso; omega) hT.2.2 (fun m' f1 f2 => by
        have hR2 := R12_mv f2 (k := k) (by omega) hc
        generalize hM2 : mu (mu m' 83 k (m' 83 k + 1)) 83 (6 + k) (mu m' 83 k (m' 83 k + 1) 83 (6 + k) - 1) = M2 at hR2
        have F2 : Fr83 m M2 := fun a j h => by rw [← hM2, mu_a h, mu_a h]; exact f1 a j h
        have hB2 := RB_fr hB F2
        have hW := hB2.2.2 x.toNat (by omega) hmv.2.2 n (by omega) (by omega)
        rw [Int.toNat_of_nonneg hmv.1] at hW
        have hln : (tmv k (rT r)).length ≤ 12 := by
          have : (del (6 + k) (rT r)).length ≤ (rT r).length := del_le _ _
          have h5' : (rT r).length ≤ 5 := h5
          unfold tmv; rw [List.length_append]; simp only [List.length_cons, List.length_nil]; omega
        have hix := c_Mo_indexOf hM (is_83 hM) hB2.1 hB2.2.1 hR2 hln
        rw [hx] at hix
        obtain ⟨mF, g1, g2⟩ := lpA_Mo_reckon hM hr hd hd1 hn q (k + 1) (s + k * wtI x n) M2 (some (vi 12)) (by omega) (by omega) hB2 (fun m3 x7 f3 => c m3 x7 (fun a j h => (f3 a j h).trans (F2 a j h)))
        refine ⟨mF, ?_, g2⟩
        refine Ev.aload_n d_Mo_reckon_102 rfl ?_
        refine Ev.gr 34 d_Mo_reckon_103 lf_Mo_88 rfl rfl (is_57 hM) (by decide) (rf_57_34 hM) ?_
        refine Ev.iload d_Mo_reckon_106 rfl ?_
        refine Ev.dup2 d_Mo_reckon_108 rfl rfl ?_
        refine Ev.iaload d_Mo_reckon_109 (is_83 hM) (by first | omega | (simp [mu]; done) | (simp [mu]; omega)) ?_
        refine Ev.iconst d_Mo_reckon_110 ?_
        refine Ev.iadd d_Mo_reckon_111 ?_
        refine Ev.iastore d_Mo_reckon_112 (is_83 hM) (by decide) (by first | omega | (simp [mu]; done) | (simp [mu]; omega)) ?_
        refine Ev.aload_n d_Mo_reckon_113 rfl ?_
        refine Ev.gr 34 d_Mo_reckon_114 lf_Mo_88 rfl rfl (is_57 hM) (by decide) (rf_57_34 hM) ?_
        refine Ev.bipush d_Mo_reckon_117 rfl ?_
        refine Ev.iload d_Mo_reckon_119 rfl ?_
        refine Ev.iadd d_Mo_reckon_121 ?_
        refine Ev.dup2 d_Mo_reckon_122 rfl rfl ?_
        refine Ev.iaload d_Mo_reckon_123 (is_83 hM) (by first | omega | (simp [mu]; done) | (simp [mu]; omega)) ?_
        refine Ev.iconst d_Mo_reckon_124 ?_
        refine Ev.isub d_Mo_reckon_125 ?_
        refine Ev.iastore d_Mo_reckon_126 (is_83 hM) (by decide) (by first | omega | (simp [mu]; done) | (simp [mu]; omega)) ?_
        rw [hM2]
        refine Ev.lload d_Mo_reckon_127 rfl ?_
        refine Ev.iload d_Mo_reckon_129 rfl ?_
        refine Ev.i2l d_Mo_reckon_131 (by first | omega | (simp [mu]; done) | (simp [mu]; omega)) ?_
        refine Ev.aload_n d_Mo_reckon_132 rfl ?_
        refine Ev.gr 31 d_Mo_reckon_133 lf_Mo_85 rfl rfl (is_57 hM) (by decide) (rf_57_31 hM) ?_
        refine Ev.bipush d_Mo_reckon_136 rfl ?_
        refine Ev.aload_n d_Mo_reckon_138 rfl ?_
        refine Ev.aload_n d_Mo_reckon_139 rfl ?_
        refine Ev.gr 34 d_Mo_reckon_140 lf_Mo_88 rfl rfl (is_57 hM) (by decide) (rf_57_34 hM) ?_
        refine Ev.iconst d_Mo_reckon_143 ?_
        refine Ev.callV d_Mo_reckon_144 mt_Mo_indexOf lk_Mo_263 in_Mo_indexOf se_Mo_indexOf rfl (Nat.le_of_ble_eq_true rfl) rfl (Nat.le_of_ble_eq_true rfl) (by decide) (is_57 hM) (by decide) rfl rfl hix ?_
        refine Ev.imul d_Mo_reckon_147 ?_
        refine Ev.iload_n d_Mo_reckon_148 rfl ?_
        refine Ev.iadd d_Mo_reckon_149 ?_
        refine Ev.laload d_Mo_reckon_150 (is_82 hM) (by first | omega | (simp [mu]; done) | (simp [mu]; omega)) ?_
        rw [hW]
        refine Ev.lmul d_Mo_reckon_151 ?_
        refine Ev.ladd d_Mo_reckon_152 ?_
        refine Ev.lstore_4 d_Mo_reckon_153 rfl ?_
        refine Ev.iinc_6 d_Mo_reckon_155 rfl ?_
        refine Ev.goto (tgt := 37) d_Mo_reckon_158 rfl ?_
        exact g1)
      refine ⟨mF, ?_, g2⟩
      refine Ev.iload d_Mo_reckon_37 rfl ?_
      refine Ev.bipush d_Mo_reckon_39 rfl ?_
      refine Ev.icmp_ge (tgt := 161) d_Mo_reckon_41 rfl (by first | omega | (simp [mu]; done) | (simp [mu]; omega)) (by first | omega | (simp [mu]; done) | (simp [mu]; omega)) (fun hb41 => by exfalso; first | omega | simp at hb41 | contradiction) (fun hb41 => ?_)
      refine Ev.iload_n d_Mo_reckon_44 rfl ?_
      refine Ev.iconst d_Mo_reckon_45 ?_
      refine Ev.icmp_le (tgt := 161) d_Mo_reckon_46 rfl (by first | omega | (simp [mu]; done) | (simp [mu]; omega)) (by first | omega | (simp [mu]; done) | (simp [mu]; omega)) (fun hb46 => by exfalso; first | omega | simp at hb46 | contradiction) (fun hb46 => ?_)
      refine Ev.aload_n d_Mo_reckon_49 rfl ?_
      refine Ev.gr 30 d_Mo_reckon_50 lf_Mo_82 rfl rfl (is_57 hM) (by decide) (rf_57_30 hM) ?_
      refine Ev.bipush d_Mo_reckon_53 rfl ?_
      refine Ev.iload_n d_Mo_reckon_55 rfl ?_
      refine Ev.imul d_Mo_reckon_56 ?_
      refine Ev.bipush d_Mo_reckon_57 rfl ?_
      refine Ev.iadd d_Mo_reckon_59 ?_
      refine Ev.iload d_Mo_reckon_60 rfl ?_
      refine Ev.iadd d_Mo_reckon_62 ?_
      refine Ev.iaload d_Mo_reckon_63 (is_81 hM) (by first | omega | (simp [mu]; done) | (simp [mu]; omega)) ?_
      rw [e1]
      refine Ev.if_le (tgt := 155) d_Mo_reckon_64 rfl (by omega) (fun hb64 => by exfalso; have hc2 : 0 < cn (6 + k) (TL.getD r []) := hc; omega) (fun hb64 => ?_)
      refine Ev.iconst d_Mo_reckon_67 ?_
      refine Ev.istore_7 d_Mo_reckon_68 rfl ?_
      exact g1
    · have es : sA (rT r) n (q + 1) k s = sA (rT r) n q (k + 1) s := by
        simp only [sA]; rw [if_neg hc]
      rw [es] at c
      obtain ⟨mF, g1, g2⟩ := lpA_Mo_reckon hM hr hd hd1 hn q (k + 1) s m x7 (by omega) (by omega) hB c
      refine ⟨mF, ?_, g2⟩
      refine Ev.iload d_Mo_reckon_37 rfl ?_
      refine Ev.bipush d_Mo_reckon_39 rfl ?_
      refine Ev.icmp_ge (tgt := 161) d_Mo_reckon_41 rfl (by first | omega | (simp [mu]; done) | (simp [mu]; omega)) (by first | omega | (simp [mu]; done) | (simp [mu]; omega)) (fun hb41 => by exfalso; first | omega | simp at hb41 | contradiction) (fun hb41 => ?_)
      refine Ev.iload_n d_Mo_reckon_44 rfl ?_
      refine Ev.iconst d_Mo_reckon_45 ?_
      refine Ev.icmp_le (tgt := 161) d_Mo_reckon_46 rfl (by first | omega | (simp [mu]; done) | (simp [mu]; omega)) (by first | omega | (simp [mu]; done) | (simp [mu]; omega)) (fun hb46 => by exfalso; first | omega | simp at hb46 | contradiction) (fun hb46 => ?_)
      refine Ev.aload_n d_Mo_reckon_49 rfl ?_
      refine Ev.gr 30 d_Mo_reckon_50 lf_Mo_82 rfl rfl (is_57 hM) (by decide) (rf_57_30 hM) ?_
      refine Ev.bipush d_Mo_reckon_53 rfl ?_
      refine Ev.iload_n d_Mo_reckon_55 rfl ?_
      refine Ev.imul d_Mo_reckon_56 ?_
      refine Ev.bipush d_Mo_reckon_57 rfl ?_
      refine Ev.iadd d_Mo_reckon_59 ?_
      refine Ev.iload d_Mo_reckon_60 rfl ?_
      refine Ev.iadd d_Mo_reckon_62 ?_
      refine Ev.iaload d_Mo_reckon_63 (is_81 hM) (by first | omega | (simp [mu]; done) | (simp [mu]; omega)) ?_
      rw [e1]
      refine Ev.if_le (tgt := 155) d_Mo_reckon_64 rfl (by omega) (fun hb64 => ?_) (fun hb64 => by exfalso; have hc2 : ¬ 0 < cn (6 + k) (TL.getD r []) := hc; omega)
      refine Ev.iinc_6 d_Mo_reckon_155 rfl ?_
      refine Ev.goto (tgt := 37) d_Mo_reckon_158 rfl ?_
      exact g1
theorem lpB_Mo_reckon (hM : MoS σ) {r : Nat} {d n : Int} (hr : r < 73) (hd : d = tsum (rT r)) (hd1 : d ≠ 1) (hn : 0 ≤ n ∧ n ≤ 10) {R : Option AV} {mF : Mm} {x7 : Option AV} (hB : RB m r) : ∀ (t : List (List Int)) (i : Nat) (s : Int), TL.drop i = t → i ≤ 73 → Ev 3 m_Mo_reckon 211 [some (vr 57), some (vi r), some (vi d), some (vi n), some (vl (sB (rT r) n d t i s)), none, some (vi 73), x7] [] σ m R σ mF → Ev 3 m_Mo_reckon 164 [some (vr 57), some (vi r), some (vi d), some (vi n), some (vl s), none, some (vi i), x7] [] σ m R σ mF
  | [], i, s, hT, hi, c => by
    have hi' := TL_end hT
    have e : (i : Int) = 73 := by omega
    have h27 := hB.1
    simp only [sB] at c
    refine Ev.iload d_Mo_reckon_164 rfl ?_
    refine Ev.aload_n d_Mo_reckon_166 rfl ?_
    refine Ev.gf 27 d_Mo_reckon_167 lf_Mo_256 rfl rfl (is_57 hM) (by decide) ?_
    refine Ev.icmp_ge (tgt := 211) d_Mo_reckon_170 rfl (by first | omega | (simp [mu]; done) | (simp [mu]; omega)) (by first | omega | (simp [mu]; done) | (simp [mu]; omega)) (fun hb170 => ?_) (fun hb170 => by exfalso; first | omega | simp at hb170 | contradiction)
    rw [e]
    exact c
  | lq :: t, i, s, hT, hi, c => by
    obtain ⟨h1, h2, h3⟩ := TL_drop hT
    have h27 := hB.1
    have hdb := rT_b r hr
    have hL := hB.2.1 i h1
    have h79 := hL.1
    have hib := rT_b i h1
    have hTr := hB.2.1 r hr
    have l1 := TL_l5 hr
    have l2 := TL_l5 h1
    rw [h2] at h79 hL l2
    have hs : tsum lq = tsum (rT i) := by rw [← h2]; rfl
    simp only [sB] at c
    by_cases ht : tsum lq = d - 1
    · rw [if_pos ht] at c
      have hlt : rko i < rko r := by unfold rko; omega
      have cg := c_Mo_goes hM (ri := r) (qi := i) (n := n) (d := d) (lr := rT r) (lq := lq) (by omega) (by omega) hTr hL l1 l2 hn (by omega) (hB.2.2 i h1 hlt)
      refine Ev.iload d_Mo_reckon_164 rfl ?_
      refine Ev.aload_n d_Mo_reckon_166 rfl ?_
      refine Ev.gf 27 d_Mo_reckon_167 lf_Mo_256 rfl rfl (is_57 hM) (by decide) ?_
      refine Ev.icmp_ge (tgt := 211) d_Mo_reckon_170 rfl (by first | omega | (simp [mu]; done) | (simp [mu]; omega)) (by first | omega | (simp [mu]; done) | (simp [mu]; omega)) (fun hb170 => by exfalso; first | omega | simp at hb170 | contradiction) (fun hb170 => ?_)
      refine Ev.iload_n d_Mo_reckon_173 rfl ?_
      refine Ev.iconst d_Mo_reckon_174 ?_
      refine Ev.icmp_le (tgt := 211) d_Mo_reckon_175 rfl (by first | omega | (simp [mu]; done) | (simp [mu]; omega)) (by first | omega | (simp [mu]; done) | (simp [mu]; omega)) (fun hb175 => by exfalso; first | omega | simp at hb175 | contradiction) (fun hb175 => ?_)
      refine Ev.aload_n d_Mo_reckon_178 rfl ?_
      refine Ev.gr 28 d_Mo_reckon_179 lf_Mo_76 rfl rfl (is_57 hM) (by decide) (rf_57_28 hM) ?_
      refine Ev.iload d_Mo_reckon_182 rfl ?_
      refine Ev.iaload d_Mo_reckon_184 (is_79 hM) (by first | omega | (simp [mu]; done) | (simp [mu]; omega)) ?_
      rw [h79]
      refine Ev.iload_n d_Mo_reckon_185 rfl ?_
      refine Ev.iconst d_Mo_reckon_186 ?_
      refine Ev.isub d_Mo_reckon_187 ?_
      refine Ev.icmp_ne (tgt := 205) d_Mo_reckon_188 rfl (by first | omega | (simp [mu]; done) | (simp [mu]; omega)) (by first | omega | (simp [mu]; done) | (simp [mu]; omega)) (fun hb188 => by exfalso; first | omega | simp at hb188 | contradiction) (fun hb188 => ?_)
      refine Ev.lload d_Mo_reckon_191 rfl ?_
      refine Ev.aload_n d_Mo_reckon_193 rfl ?_
      refine Ev.iload_n d_Mo_reckon_194 rfl ?_
      refine Ev.iload d_Mo_reckon_195 rfl ?_
      refine Ev.iload_n d_Mo_reckon_197 rfl ?_
      refine Ev.iload_n d_Mo_reckon_198 rfl ?_
      refine Ev.callV d_Mo_reckon_199 mt_Mo_goes lk_Mo_266 in_Mo_goes se_Mo_goes rfl (Nat.le_of_ble_eq_true rfl) rfl (Nat.le_of_ble_eq_true rfl) (by decide) (is_57 hM) (by decide) rfl rfl cg ?_
      refine Ev.ladd d_Mo_reckon_202 ?_
      refine Ev.lstore_4 d_Mo_reckon_203 rfl ?_
      refine Ev.iinc_6 d_Mo_reckon_205 rfl ?_
      refine Ev.goto (tgt := 164) d_Mo_reckon_208 rfl ?_
      exact lpB_Mo_reckon hM hr hd hd1 hn hB t (i + 1) _ h3 (by omega) c
    · rw [if_neg ht] at c
      refine Ev.iload d_Mo_reckon_164 rfl ?_
      refine Ev.aload_n d_Mo_reckon_166 rfl ?_
      refine Ev.gf 27 d_Mo_reckon_167 lf_Mo_256 rfl rfl (is_57 hM) (by decide) ?_
      refine Ev.icmp_ge (tgt := 211) d_Mo_reckon_170 rfl (by first | omega | (simp [mu]; done) | (simp [mu]; omega)) (by first | omega | (simp [mu]; done) | (simp [mu]; omega)) (fun hb170 => by exfalso; first | omega | simp at hb170 | contradiction) (fun hb170 => ?_)
      refine Ev.iload_n d_Mo_reckon_173 rfl ?_
      refine Ev.iconst d_Mo_reckon_174 ?_
      refine Ev.icmp_le (tgt := 211) d_Mo_reckon_175 rfl (by first | omega | (simp [mu]; done) | (simp [mu]; omega)) (by first | omega | (simp [mu]; done) | (simp [mu]; omega)) (fun hb175 => by exfalso; first | omega | simp at hb175 | contradiction) (fun hb175 => ?_)
      refine Ev.aload_n d_Mo_reckon_178 rfl ?_
      refine Ev.gr 28 d_Mo_reckon_179 lf_Mo_76 rfl rfl (is_57 hM) (by decide) (rf_57_28 hM) ?_
      refine Ev.iload d_Mo_reckon_182 rfl ?_
      refine Ev.iaload d_Mo_reckon_184 (is_79 hM) (by first | omega | (simp [mu]; done) | (simp [mu]; omega)) ?_
      rw [h79]
      refine Ev.iload_n d_Mo_reckon_185 rfl ?_
      refine Ev.iconst d_Mo_reckon_186 ?_
      refine Ev.isub d_Mo_reckon_187 ?_
      refine Ev.icmp_ne (tgt := 205) d_Mo_reckon_188 rfl (by first | omega | (simp [mu]; done) | (simp [mu]; omega)) (by first | omega | (simp [mu]; done) | (simp [mu]; omega)) (fun hb188 => ?_) (fun hb188 => by exfalso; first | omega | simp at hb188 | contradiction)
      refine Ev.iinc_6 d_Mo_reckon_205 rfl ?_
      refine Ev.goto (tgt := 164) d_Mo_reckon_208 rfl ?_
      exact lpB_Mo_reckon hM hr hd hd1 hn hB t (i + 1) _ h3 (by omega) c
def FrC (r : Nat) (m m' : Mm) : Prop := ∀ a j : Int, a ≠ 83 → ¬ (a = 82 ∧ 11 * (r : Int) ≤ j ∧ j < 11 * r + 11) → m' a j = m a j
theorem RB_frC {r : Nat} {m' : Mm} (h : RB m r) (f : FrC r m m') : RB m' r := ⟨(f _ _ (by decide) (by omega)).trans h.1, Laid_fr h.2.1 (fun a j x => f a j (by omega) (by omega)), fun i hi x j a b => (f _ _ (by decide) (fun z => by
  have e : i = r := by omega
  rw [e] at x; omega)).trans (h.2.2 i hi x j a b)⟩
theorem lpN_Mo_reckon (hM : MoS σ) {r : Nat} {d : Int} (hr : r < 73) (hd : d = tsum (rT r)) : ∀ (q : Nat) (n : Nat) (m : Mm) (x4 x6 x7 : Option AV), n + q = 11 → RB m r → (∀ j : Nat, j < n → m 82 (11 * (r : Int) + j) = wtI r j) → ∃ mF, Ev 3 m_Mo_reckon 9 [some (vr 57), some (vi r), some (vi d), some (vi n), x4, none, x6, x7] [] σ m none σ mF ∧ FrC r m mF ∧ (∀ j : Nat, j < 11 → mF 82 (11 * (r : Int) + j) = wtI r j)
  | 0, n, m, x4, x6, x7, hn, hB, hw => by
    refine ⟨m, ?_, fun _ _ _ _ => rfl, fun j hj => hw j (by omega)⟩
    refine Ev.iload_n d_Mo_reckon_9 rfl ?_
    refine Ev.bipush d_Mo_reckon_10 rfl ?_
    refine Ev.icmp_ge (tgt := 230) d_Mo_reckon_12 rfl (by first | omega | (simp [mu]; done) | (simp [mu]; omega)) (by first | omega | (simp [mu]; done) | (simp [mu]; omega)) (fun hb12 => ?_) (fun hb12 => by exfalso; first | omega | simp at hb12 | contradiction)
    exact Ev.to (Ev.return d_Mo_reckon_230 rfl) rfl rfl
  | q + 1, n, m, x4, x6, x7, hn, hB, hw => by
    have hdb := rT_b r hr
    have hv : rkv (rT r) n = wtI r n := by rw [rkv_wt r hr n (by omega)]; simp [wtI]
    -- what the store leads to
    have fin : ∀ (m1 : Mm) (y4 y6 y7 : Option AV), Fr83 m m1 → ∃ mF, Ev 3 m_Mo_reckon 9 [some (vr 57), some (vi r), some (vi d), some (vi ((n : Int) + 1)), y4, none, y6, y7] [] σ (mu m1 82 (11 * (r : Int) + n) (rkv (rT r) n)) none σ mF ∧ FrC r m mF ∧ (∀ j : Nat, j < 11 → mF 82 (11 * (r : Int) + j) = wtI r j) := fun m1 y4 y6 y7 f1 => by
      have f2 : FrC r m (mu m1 82 (11 * (r : Int) + n) (rkv (rT r) n)) := fun a j x y => by rw [mu_n (by omega)]; exact f1 a j x
      obtain ⟨mF, g1, g2, g3⟩ := lpN_Mo_reckon hM hr hd q (n + 1) (mu m1 82 (11 * (r : Int) + n) (rkv (rT r) n)) y4 y6 y7 (by omega) (RB_frC hB f2) (fun j hj => by
        by_cases e : j = n
        · rw [e, mu_s]; exact hv
        · rw [mu_n (Or.inr (by omega)), f1 _ _ (by decide)]; exact hw j (by omega))
      exact ⟨mF, g1, fun a j x y => (g2 a j x y).trans (f2 a j x y), g3⟩
    by_cases h1 : d = 1
    · have hd1 : tsum (rT r) = 1 := by omega
      by_cases hn0 : n = 0
      · have ev : rkv (rT r) n = 1 := by unfold rkv; rw [if_pos hd1, if_pos (by omega)]
        obtain ⟨mF, g1, g2⟩ := fin m (some (vl 1)) (some (vi 0)) x7 (fun _ _ _ => rfl)
        rw [ev] at g1
        refine ⟨mF, ?_, g2⟩
        refine Ev.iload_n d_Mo_reckon_9 rfl ?_
        refine Ev.bipush d_Mo_reckon_10 rfl ?_
        refine Ev.icmp_ge (tgt := 230) d_Mo_reckon_12 rfl (by first | omega | (simp [mu]; done) | (simp [mu]; omega)) (by first | omega | (simp [mu]; done) | (simp [mu]; omega)) (fun hb12 => by exfalso; first | omega | simp at hb12 | contradiction) (fun hb12 => ?_)
        refine Ev.lconst (x := 0) d_Mo_reckon_15 rfl ?_
        refine Ev.lstore_4 d_Mo_reckon_16 rfl ?_
        refine Ev.iload_n d_Mo_reckon_18 rfl ?_
        refine Ev.iconst d_Mo_reckon_19 ?_
        refine Ev.icmp_ne (tgt := 34) d_Mo_reckon_20 rfl (by first | omega | (simp [mu]; done) | (simp [mu]; omega)) (by first | omega | (simp [mu]; done) | (simp [mu]; omega)) (fun hb20 => by exfalso; first | omega | simp at hb20 | contradiction) (fun hb20 => ?_)
        refine Ev.iload_n d_Mo_reckon_23 rfl ?_
        refine Ev.if_ne (tgt := 31) d_Mo_reckon_24 rfl (by first | omega | (simp [mu]; done) | (simp [mu]; omega)) (fun hb24 => by exfalso; first | omega | simp at hb24 | contradiction) (fun hb24 => ?_)
        refine Ev.lconst (x := 1) d_Mo_reckon_27 rfl ?_
        refine Ev.goto (tgt := 32) d_Mo_reckon_28 rfl ?_
        refine Ev.lstore_4 d_Mo_reckon_32 rfl ?_
        refine Ev.iconst d_Mo_reckon_34 ?_
        refine Ev.istore_6 d_Mo_reckon_35 rfl ?_
        refine Ev.iload d_Mo_reckon_37 rfl ?_
        refine Ev.bipush d_Mo_reckon_39 rfl ?_
        refine Ev.icmp_ge (tgt := 161) d_Mo_reckon_41 rfl (by first | omega | (simp [mu]; done) | (simp [mu]; omega)) (by first | omega | (simp [mu]; done) | (simp [mu]; omega)) (fun hb41 => by exfalso; first | omega | simp at hb41 | contradiction) (fun hb41 => ?_)
        refine Ev.iload_n d_Mo_reckon_44 rfl ?_
        refine Ev.iconst d_Mo_reckon_45 ?_
        refine Ev.icmp_le (tgt := 161) d_Mo_reckon_46 rfl (by first | omega | (simp [mu]; done) | (simp [mu]; omega)) (by first | omega | (simp [mu]; done) | (simp [mu]; omega)) (fun hb46 => ?_) (fun hb46 => by exfalso; first | omega | simp at hb46 | contradiction)
        refine Ev.iconst d_Mo_reckon_161 ?_
        refine Ev.istore_6 d_Mo_reckon_162 rfl ?_
        have h27 := hB.1
        refine Ev.iload d_Mo_reckon_164 rfl ?_
        refine Ev.aload_n d_Mo_reckon_166 rfl ?_
        refine Ev.gf 27 d_Mo_reckon_167 lf_Mo_256 rfl rfl (is_57 hM) (by decide) ?_
        refine Ev.icmp_ge (tgt := 211) d_Mo_reckon_170 rfl (by first | omega | (simp [mu]; done) | (simp [mu]; omega)) (by first | omega | (simp [mu]; done) | (simp [mu]; omega)) (fun hb170 => by exfalso; first | omega | simp at hb170 | contradiction) (fun hb170 => ?_)
        refine Ev.iload_n d_Mo_reckon_173 rfl ?_
        refine Ev.iconst d_Mo_reckon_174 ?_
        refine Ev.icmp_le (tgt := 211) d_Mo_reckon_175 rfl (by first | omega | (simp [mu]; done) | (simp [mu]; omega)) (by first | omega | (simp [mu]; done) | (simp [mu]; omega)) (fun hb175 => ?_) (fun hb175 => by exfalso; first | omega | simp at hb175 | contradiction)
        refine Ev.aload_n d_Mo_reckon_211 rfl ?_
        refine Ev.gr 31 d_Mo_reckon_212 lf_Mo_85 rfl rfl (is_57 hM) (by decide) (rf_57_31 hM) ?_
        refine Ev.bipush d_Mo_reckon_215 rfl ?_
        refine Ev.iload_n d_Mo_reckon_217 rfl ?_
        refine Ev.imul d_Mo_reckon_218 ?_
        refine Ev.iload_n d_Mo_reckon_219 rfl ?_
        refine Ev.iadd d_Mo_reckon_220 ?_
        refine Ev.lload d_Mo_reckon_221 rfl ?_
        refine Ev.lastore d_Mo_reckon_223 (is_82 hM) (by decide) (by first | omega | (simp [mu]; done) | (simp [mu]; omega)) ?_
        refine Ev.iinc_3 d_Mo_reckon_224 rfl ?_
        refine Ev.goto (tgt := 9) d_Mo_reckon_227 rfl ?_
        exact g1
      · have ev : rkv (rT r) n = 0 := by unfold rkv; rw [if_pos hd1, if_neg (by omega)]
        obtain ⟨mF, g1, g2⟩ := fin m (some (vl 0)) (some (vi 0)) x7 (fun _ _ _ => rfl)
        rw [ev] at g1
        refine ⟨mF, ?_, g2⟩
        refine Ev.iload_n d_Mo_reckon_9 rfl ?_
        refine Ev.bipush d_Mo_reckon_10 rfl ?_
        refine Ev.icmp_ge (tgt := 230) d_Mo_reckon_12 rfl (by first | omega | (simp [mu]; done) | (simp [mu]; omega)) (by first | omega | (simp [mu]; done) | (simp [mu]; omega)) (fun hb12 => by exfalso; first | omega | simp at hb12 | contradiction) (fun hb12 => ?_)
        refine Ev.lconst (x := 0) d_Mo_reckon_15 rfl ?_
        refine Ev.lstore_4 d_Mo_reckon_16 rfl ?_
        refine Ev.iload_n d_Mo_reckon_18 rfl ?_
        refine Ev.iconst d_Mo_reckon_19 ?_
        refine Ev.icmp_ne (tgt := 34) d_Mo_reckon_20 rfl (by first | omega | (simp [mu]; done) | (simp [mu]; omega)) (by first | omega | (simp [mu]; done) | (simp [mu]; omega)) (fun hb20 => by exfalso; first | omega | simp at hb20 | contradiction) (fun hb20 => ?_)
        refine Ev.iload_n d_Mo_reckon_23 rfl ?_
        refine Ev.if_ne (tgt := 31) d_Mo_reckon_24 rfl (by first | omega | (simp [mu]; done) | (simp [mu]; omega)) (fun hb24 => ?_) (fun hb24 => by exfalso; first | omega | simp at hb24 | contradiction)
        refine Ev.lconst (x := 0) d_Mo_reckon_31 rfl ?_
        refine Ev.lstore_4 d_Mo_reckon_32 rfl ?_
        refine Ev.iconst d_Mo_reckon_34 ?_
        refine Ev.istore_6 d_Mo_reckon_35 rfl ?_
        refine Ev.iload d_Mo_reckon_37 rfl ?_
        refine Ev.bipush d_Mo_reckon_39 rfl ?_
        refine Ev.icmp_ge (tgt := 161) d_Mo_reckon_41 rfl (by first | omega | (simp [mu]; done) | (simp [mu]; omega)) (by first | omega | (simp [mu]; done) | (simp [mu]; omega)) (fun hb41 => by exfalso; first | omega | simp at hb41 | contradiction) (fun hb41 => ?_)
        refine Ev.iload_n d_Mo_reckon_44 rfl ?_
        refine Ev.iconst d_Mo_reckon_45 ?_
        refine Ev.icmp_le (tgt := 161) d_Mo_reckon_46 rfl (by first | omega | (simp [mu]; done) | (simp [mu]; omega)) (by first | omega | (simp [mu]; done) | (simp [mu]; omega)) (fun hb46 => ?_) (fun hb46 => by exfalso; first | omega | simp at hb46 | contradiction)
        refine Ev.iconst d_Mo_reckon_161 ?_
        refine Ev.istore_6 d_Mo_reckon_162 rfl ?_
        have h27 := hB.1
        refine Ev.iload d_Mo_reckon_164 rfl ?_
        refine Ev.aload_n d_Mo_reckon_166 rfl ?_
        refine Ev.gf 27 d_Mo_reckon_167 lf_Mo_256 rfl rfl (is_57 hM) (by decide) ?_
        refine Ev.icmp_ge (tgt := 211) d_Mo_reckon_170 rfl (by first | omega | (simp [mu]; done) | (simp [mu]; omega)) (by first | omega | (simp [mu]; done) | (simp [mu]; omega)) (fun hb170 => by exfalso; first | omega | simp at hb170 | contradiction) (fun hb170 => ?_)
        refine Ev.iload_n d_Mo_reckon_173 rfl ?_
        refine Ev.iconst d_Mo_reckon_174 ?_
        refine Ev.icmp_le (tgt := 211) d_Mo_reckon_175 rfl (by first | omega | (simp [mu]; done) | (simp [mu]; omega)) (by first | omega | (simp [mu]; done) | (simp [mu]; omega)) (fun hb175 => ?_) (fun hb175 => by exfalso; first | omega | simp at hb175 | contradiction)
        refine Ev.aload_n d_Mo_reckon_211 rfl ?_
        refine Ev.gr 31 d_Mo_reckon_212 lf_Mo_85 rfl rfl (is_57 hM) (by decide) (rf_57_31 hM) ?_
        refine Ev.bipush d_Mo_reckon_215 rfl ?_
        refine Ev.iload_n d_Mo_reckon_217 rfl ?_
        refine Ev.imul d_Mo_reckon_218 ?_
        refine Ev.iload_n d_Mo_reckon_219 rfl ?_
        refine Ev.iadd d_Mo_reckon_220 ?_
        refine Ev.lload d_Mo_reckon_221 rfl ?_
        refine Ev.lastore d_Mo_reckon_223 (is_82 hM) (by decide) (by first | omega | (simp [mu]; done) | (simp [mu]; omega)) ?_
        refine Ev.iinc_3 d_Mo_reckon_224 rfl ?_
        refine Ev.goto (tgt := 9) d_Mo_reckon_227 rfl ?_
        exact g1
    · have ev : rkv (rT r) n = sB (rT r) n d TL 0 (sA (rT r) n 5 1 0) := by unfold rkv; rw [if_neg (by omega), ← hd]
      obtain ⟨mF, g1, g2⟩ := lpA_Mo_reckon hM hr hd h1 (n := n) (by omega) (R := none) (Post := fun mF => FrC r m mF ∧ (∀ j : Nat, j < 11 → mF 82 (11 * (r : Int) + j) = wtI r j)) 5 1 0 m x7 rfl (by decide) hB (fun m1 y7 f1 => by
        obtain ⟨mF, g1, g2⟩ := fin m1 (some (vl (rkv (rT r) n))) (some (vi 73)) y7 f1
        refine ⟨mF, ?_, g2⟩
        have hB1 := RB_fr hB f1
        refine Ev.iconst d_Mo_reckon_161 ?_
        refine Ev.istore_6 d_Mo_reckon_162 rfl ?_
        refine lpB_Mo_reckon hM hr hd h1 (by omega) hB1 TL 0 _ rfl (by decide) ?_
        rw [show sB (rT r) n d TL ((0 : Nat) : Int) (sA (rT r) n 5 1 0) = rkv (rT r) n from ev.symm]
        refine Ev.aload_n d_Mo_reckon_211 rfl ?_
        refine Ev.gr 31 d_Mo_reckon_212 lf_Mo_85 rfl rfl (is_57 hM) (by decide) (rf_57_31 hM) ?_
        refine Ev.bipush d_Mo_reckon_215 rfl ?_
        refine Ev.iload_n d_Mo_reckon_217 rfl ?_
        refine Ev.imul d_Mo_reckon_218 ?_
        refine Ev.iload_n d_Mo_reckon_219 rfl ?_
        refine Ev.iadd d_Mo_reckon_220 ?_
        refine Ev.lload d_Mo_reckon_221 rfl ?_
        refine Ev.lastore d_Mo_reckon_223 (is_82 hM) (by decide) (by first | omega | (simp [mu]; done) | (simp [mu]; omega)) ?_
        refine Ev.iinc_3 d_Mo_reckon_224 rfl ?_
        refine Ev.goto (tgt := 9) d_Mo_reckon_227 rfl ?_
        exact g1)
      refine ⟨mF, ?_, g2⟩
      refine Ev.iload_n d_Mo_reckon_9 rfl ?_
      refine Ev.bipush d_Mo_reckon_10 rfl ?_
      refine Ev.icmp_ge (tgt := 230) d_Mo_reckon_12 rfl (by first | omega | (simp [mu]; done) | (simp [mu]; omega)) (by first | omega | (simp [mu]; done) | (simp [mu]; omega)) (fun hb12 => by exfalso; first | omega | simp at hb12 | contradiction) (fun hb12 => ?_)
      refine Ev.lconst (x := 0) d_Mo_reckon_15 rfl ?_
      refine Ev.lstore_4 d_Mo_reckon_16 rfl ?_
      refine Ev.iload_n d_Mo_reckon_18 rfl ?_
      refine Ev.iconst d_Mo_reckon_19 ?_
      refine Ev.icmp_ne (tgt := 34) d_Mo_reckon_20 rfl (by first | omega | (simp [mu]; done) | (simp [mu]; omega)) (by first | omega | (simp [mu]; done) | (simp [mu]; omega)) (fun hb20 => ?_) (fun hb20 => by exfalso; first | omega | simp at hb20 | contradiction)
      refine Ev.iconst d_Mo_reckon_34 ?_
      refine Ev.istore_6 d_Mo_reckon_35 rfl ?_
      exact g1
theorem c_Mo_reckon (hM : MoS σ) {r : Nat} (hr : r < 73) (hB : RB m r) : ∃ m', Call 3 m_Mo_reckon [vr 57, vi r] σ m none σ m' ∧ FrC r m m' ∧ (∀ j : Nat, j < 11 → m' 82 (11 * (r : Int) + j) = wtI r j) := by
  have h79 : m 79 r = tsum (rT r) := (hB.2.1 r hr).1
  obtain ⟨mF, g1, g2⟩ := lpN_Mo_reckon hM hr rfl 11 0 m none none none rfl hB (fun j hj => by exfalso; omega)
  refine ⟨mF, ?_, g2⟩
  show Ev 3 m_Mo_reckon 0 [some (vr 57), some (vi r), none, none, none, none, none, none] [] σ m _ σ mF
  refine Ev.aload_n d_Mo_reckon_0 rfl ?_
  refine Ev.gr 28 d_Mo_reckon_1 lf_Mo_76 rfl rfl (is_57 hM) (by decide) (rf_57_28 hM) ?_
  refine Ev.iload_n d_Mo_reckon_4 rfl ?_
  refine Ev.iaload d_Mo_reckon_5 (is_79 hM) (by first | omega | (simp [mu]; done) | (simp [mu]; omega)) ?_
  rw [h79]
  refine Ev.istore_2 d_Mo_reckon_6 rfl ?_
  refine Ev.iconst d_Mo_reckon_7 ?_
  refine Ev.istore_3 d_Mo_reckon_8 rfl ?_
  exact g1
end
