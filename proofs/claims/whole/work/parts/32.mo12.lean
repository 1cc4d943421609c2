section
variable {σ : Sg} {m : Mm}
/-! a row of memory set from lo to hi -/
def ms (m : Mm) (a lo hi : Int) (F : Int → Int) : Mm := fun b j => if b = a ∧ lo ≤ j ∧ j < hi then F j else m b j
theorem ms_in {m : Mm} {a lo hi j : Int} {F : Int → Int} (h : lo ≤ j ∧ j < hi) : ms m a lo hi F a j = F j := if_pos ⟨rfl, h⟩
theorem ms_out {m : Mm} {a lo hi b j : Int} {F : Int → Int} (h : b ≠ a ∨ j < lo ∨ hi ≤ j) : ms m a lo hi F b j = m b j := if_neg (by omega)
theorem ms_a {m : Mm} {a lo hi b j : Int} {F : Int → Int} (h : b ≠ a) : ms m a lo hi F b j = m b j := ms_out (Or.inl h)
theorem ms_e {m : Mm} {a lo hi : Int} {F : Int → Int} (h : hi ≤ lo) : ms m a lo hi F = m := by
  funext b j
  exact if_neg (by omega)
theorem ms_s {m : Mm} {a lo hi : Int} {F : Int → Int} (h : lo < hi) : ms (mu m a lo (F lo)) a (lo + 1) hi F = ms m a lo hi F := by
  funext b j
  simp only [ms, mu]
  by_cases e1 : b = a ∧ lo + 1 ≤ j ∧ j < hi
  · rw [if_pos e1, if_pos (by omega)]
  · rw [if_neg e1]
    by_cases e2 : b = a ∧ j = lo
    · rw [if_pos e2, if_pos (by omega), e2.2]
    · rw [if_neg e2, if_neg (by omega)]
theorem ms_c {m : Mm} {a lo hi : Int} {F G : Int → Int} (h : ∀ j, lo ≤ j → j < hi → F j = G j) : ms m a lo hi F = ms m a lo hi G := by
  funext b j
  simp only [ms]
  by_cases e1 : b = a ∧ lo ≤ j ∧ j < hi
  · rw [if_pos e1, if_pos e1, h j e1.2.1 e1.2.2]
  · rw [if_neg e1, if_neg e1]
/-! powers -/
def pw0 (k : Int) : Int := if k = 18 then 1 else 0
def ab (e : Int) : Int := if e < 0 then -e else e
def se (w : Int) (P : Int → Int) (k : Int) : Nat → Int → Int
  | 0, _ => 0
  | n + 1, e => (if 0 ≤ k - e ∧ k - e ≤ 36 then (w - ab e) * P (k - e) else 0) + se w P k n (e + 1)
def stp (w : Int) (P : Int → Int) (k : Int) : Int := se w P k (2 * w - 1).toNat (1 - w)
def pwL : List Int → (Int → Int) → Int → Int
  | [], P => P
  | s :: t, P => pwL t (stp (wS s) P)
theorem lp0_Mo_pow (hM : MoS σ) {p : Int} {r : Option AV} {mF : Mm} : ∀ (q : Nat) (k : Int) (m : Mm), k + q = 37 → 0 ≤ k → (∀ k : Int, Ev 2 m_Mo_layPowers 31 [some (vr 57), some (vi p), some (vi k), none, none, none, none, none] [] σ (ms m 63 k 37 pw0) r σ mF → True) → Ev 2 m_Mo_layPowers 31 [some (vr 57), some (vi p), some (vi 37), none, none, none, none, none] [] σ (ms m 63 k 37 pw0) r σ mF → Ev 2 m_Mo_layPowers 2 [some (vr 57), some (vi p), some (vi k), none, none, none, none, none] [] σ m r σ mF
  | 0, k, m, hk, h0, _, c => by
    have e : k = 37 := by omega
    rw [ms_e (by omega)] at c
    refine Ev.iload_n d_Mo_layPowers_2 rfl ?_
    refine Ev.bipush d_Mo_layPowers_3 rfl ?_
    refine Ev.icmp_ge (tgt := 31) d_Mo_layPowers_5 rfl (by first | omega | (simp [mu]; done) | (simp [mu]; omega)) (by first | omega | (simp [mu]; done) | (simp [mu]; omega)) (fun hb5 => ?_) (fun hb5 => by exfalso; first | omega | simp at hb5 | contradiction)
    rw [e]
    exact c
  | q + 1, k, m, hk, h0, _, c => by
    rw [← ms_s (by omega)] at c
    refine Ev.iload_n d_Mo_layPowers_2 rfl ?_
    refine Ev.bipush d_Mo_layPowers_3 rfl ?_
    refine Ev.icmp_ge (tgt := 31) d_Mo_layPowers_5 rfl (by first | omega | (simp [mu]; done) | (simp [mu]; omega)) (by first | omega | (simp [mu]; done) | (simp [mu]; omega)) (fun hb5 => by exfalso; first | omega | simp at hb5 | contradiction) (fun hb5 => ?_)
    refine Ev.aload_n d_Mo_layPowers_8 rfl ?_
    refine Ev.gr 6 d_Mo_layPowers_9 lf_Mo_25 rfl rfl (is_57 hM) (by decide) (rf_57_6 hM) ?_
    refine Ev.iload_n d_Mo_layPowers_12 rfl ?_
    refine Ev.iload_n d_Mo_layPowers_13 rfl ?_
    refine Ev.bipush d_Mo_layPowers_14 rfl ?_
    refine Ev.icmp_ne (tgt := 23) d_Mo_layPowers_16 rfl (by first | omega | (simp [mu]; done) | (simp [mu]; omega)) (by first | omega | (simp [mu]; done) | (simp [mu]; omega)) (fun hb16 => ?_) (fun hb16 => ?_)
    · refine Ev.lconst (x := 0) d_Mo_layPowers_23 rfl ?_
      refine Ev.lastore d_Mo_layPowers_24 (is_63 hM) (by decide) (by first | omega | (simp [mu]; done) | (simp [mu]; omega)) ?_
      refine Ev.iinc_2 d_Mo_layPowers_25 rfl ?_
      refine Ev.goto (tgt := 2) d_Mo_layPowers_28 rfl ?_
      rw [show pw0 k = 0 by unfold pw0; rw [if_neg (by omega)]] at c
      exact lp0_Mo_pow hM q (k + 1) _ (by omega) (by omega) (fun _ _ => trivial) c
    · refine Ev.lconst (x := 1) d_Mo_layPowers_19 rfl ?_
      refine Ev.goto (tgt := 24) d_Mo_layPowers_20 rfl ?_
      refine Ev.lastore d_Mo_layPowers_24 (is_63 hM) (by decide) (by first | omega | (simp [mu]; done) | (simp [mu]; omega)) ?_
      refine Ev.iinc_2 d_Mo_layPowers_25 rfl ?_
      refine Ev.goto (tgt := 2) d_Mo_layPowers_28 rfl ?_
      rw [show pw0 k = 1 by unfold pw0; rw [if_pos (by omega)]] at c
      exact lp0_Mo_pow hM q (k + 1) _ (by omega) (by omega) (fun _ _ => trivial) c
theorem lp3_Mo_pow (hM : MoS σ) {p s w k : Int} {Pw : Int → Int} {r : Option AV} {mF : Mm} (hw : 1 ≤ w ∧ w ≤ 4) (hk : 0 ≤ k ∧ k < 37) (hP : ∀ j, 0 ≤ j → j < 37 → m 63 j = Pw j) : ∀ (q : Nat) (e acc : Int), e + q = w → 1 - w ≤ e → Ev 2 m_Mo_layPowers 140 [some (vr 57), some (vi p), some (vi s), some (vi w), some (vi k), some (vl (acc + se w Pw k q e)), none, some (vi w)] [] σ m r σ mF → Ev 2 m_Mo_layPowers 76 [some (vr 57), some (vi p), some (vi s), some (vi w), some (vi k), some (vl acc), none, some (vi e)] [] σ m r σ mF
  | 0, e, acc, he, h0, c => by
    have e1 : e = w := by omega
    simp only [se, Int.add_zero] at c
    refine Ev.iload d_Mo_layPowers_76 rfl ?_
    refine Ev.iload_n d_Mo_layPowers_78 rfl ?_
    refine Ev.icmp_ge (tgt := 140) d_Mo_layPowers_79 rfl (by first | omega | (simp [mu]; done) | (simp [mu]; omega)) (by first | omega | (simp [mu]; done) | (simp [mu]; omega)) (fun hb79 => ?_) (fun hb79 => by exfalso; first | omega | simp at hb79 | contradiction)
    rw [e1]
    exact c
  | q + 1, e, acc, he, h0, c => by
    refine Ev.iload d_Mo_layPowers_76 rfl ?_
    refine Ev.iload_n d_Mo_layPowers_78 rfl ?_
    refine Ev.icmp_ge (tgt := 140) d_Mo_layPowers_79 rfl (by first | omega | (simp [mu]; done) | (simp [mu]; omega)) (by first | omega | (simp [mu]; done) | (simp [mu]; omega)) (fun hb79 => by exfalso; first | omega | simp at hb79 | contradiction) (fun hb79 => ?_)
    refine Ev.lload d_Mo_layPowers_82 rfl ?_
    refine Ev.iload d_Mo_layPowers_84 rfl ?_
    refine Ev.iload d_Mo_layPowers_86 rfl ?_
    refine Ev.isub d_Mo_layPowers_88 ?_
    refine Ev.i2l d_Mo_layPowers_89 (by first | omega | (simp [mu]; done) | (simp [mu]; omega)) ?_
    refine Ev.lconst (x := 0) d_Mo_layPowers_90 rfl ?_
    refine Ev.ldc2 (x := 36) d_Mo_layPowers_91 kl_Mo_152 ?_
    refine Ev.callS d_Mo_layPowers_94 mt_Mo_in lk_Mo_107 st_Mo_in rfl (Nat.le_of_ble_eq_true rfl) rfl (Nat.le_of_ble_eq_true rfl) (by decide) rfl (c_Mo_in (by omega) (by omega) (by omega)) ?_
    refine Ev.if_eq (tgt := 130) d_Mo_layPowers_97 rfl b01_b (fun hb97 => ?_) (fun hb97 => ?_)
    · rw [b01_eq] at hb97
      refine Ev.lconst (x := 0) d_Mo_layPowers_130 rfl ?_
      refine Ev.ladd d_Mo_layPowers_131 ?_
      refine Ev.lstore_5 d_Mo_layPowers_132 rfl ?_
      refine Ev.iinc_7 d_Mo_layPowers_134 rfl ?_
      refine Ev.goto (tgt := 76) d_Mo_layPowers_137 rfl ?_
      refine lp3_Mo_pow hM hw hk hP q (e + 1) _ (by omega) (by omega) ?_
      rw [se, if_neg (by omega), ← Int.add_assoc] at c
      exact c
    · rw [b01_ne] at hb97
      refine Ev.iload_n d_Mo_layPowers_100 rfl ?_
      refine Ev.iload d_Mo_layPowers_101 rfl ?_
      refine Ev.if_ge (tgt := 112) d_Mo_layPowers_103 rfl (by first | omega | (simp [mu]; done) | (simp [mu]; omega)) (fun hb103 => ?_) (fun hb103 => ?_)
      · refine Ev.iload d_Mo_layPowers_112 rfl ?_
        refine Ev.isub d_Mo_layPowers_114 ?_
        refine Ev.i2l d_Mo_layPowers_115 (by first | omega | (simp [mu]; done) | (simp [mu]; omega)) ?_
        refine Ev.aload_n d_Mo_layPowers_116 rfl ?_
        refine Ev.gr 6 d_Mo_layPowers_117 lf_Mo_25 rfl rfl (is_57 hM) (by decide) (rf_57_6 hM) ?_
        refine Ev.iload d_Mo_layPowers_120 rfl ?_
        refine Ev.iload d_Mo_layPowers_122 rfl ?_
        refine Ev.isub d_Mo_layPowers_124 ?_
        refine Ev.laload d_Mo_layPowers_125 (is_63 hM) (by first | omega | (simp [mu]; done) | (simp [mu]; omega)) ?_
        refine Ev.lmul d_Mo_layPowers_126 ?_
        refine Ev.goto (tgt := 131) d_Mo_layPowers_127 rfl ?_
        refine Ev.ladd d_Mo_layPowers_131 ?_
        refine Ev.lstore_5 d_Mo_layPowers_132 rfl ?_
        refine Ev.iinc_7 d_Mo_layPowers_134 rfl ?_
        refine Ev.goto (tgt := 76) d_Mo_layPowers_137 rfl ?_
        refine lp3_Mo_pow hM hw hk hP q (e + 1) _ (by omega) (by omega) ?_
        rw [se, if_pos (by omega), ← Int.add_assoc] at c
        rw [show ab e = e by unfold ab; rw [if_neg (by omega)]] at c
        rw [hP (k - e) (by omega) (by omega)]
        exact c
      · refine Ev.iload d_Mo_layPowers_106 rfl ?_
        refine Ev.ineg d_Mo_layPowers_108 ?_
        refine Ev.goto (tgt := 114) d_Mo_layPowers_109 rfl ?_
        refine Ev.isub d_Mo_layPowers_114 ?_
        refine Ev.i2l d_Mo_layPowers_115 (by first | omega | (simp [mu]; done) | (simp [mu]; omega)) ?_
        refine Ev.aload_n d_Mo_layPowers_116 rfl ?_
        refine Ev.gr 6 d_Mo_layPowers_117 lf_Mo_25 rfl rfl (is_57 hM) (by decide) (rf_57_6 hM) ?_
        refine Ev.iload d_Mo_layPowers_120 rfl ?_
        refine Ev.iload d_Mo_layPowers_122 rfl ?_
        refine Ev.isub d_Mo_layPowers_124 ?_
        refine Ev.laload d_Mo_layPowers_125 (is_63 hM) (by first | omega | (simp [mu]; done) | (simp [mu]; omega)) ?_
        refine Ev.lmul d_Mo_layPowers_126 ?_
        refine Ev.goto (tgt := 131) d_Mo_layPowers_127 rfl ?_
        refine Ev.ladd d_Mo_layPowers_131 ?_
        refine Ev.lstore_5 d_Mo_layPowers_132 rfl ?_
        refine Ev.iinc_7 d_Mo_layPowers_134 rfl ?_
        refine Ev.goto (tgt := 76) d_Mo_layPowers_137 rfl ?_
        refine lp3_Mo_pow hM hw hk hP q (e + 1) _ (by omega) (by omega) ?_
        rw [se, if_pos (by omega), ← Int.add_assoc] at c
        rw [show ab e = -e by unfold ab; rw [if_pos (by omega)]] at c
        rw [hP (k - e) (by omega) (by omega)]
        exact c
theorem lp2_Mo_pow (hM : MoS σ) {p s w : Int} {Pw : Int → Int} {r : Option AV} {mF : Mm} (hw : 1 ≤ w ∧ w ≤ 4) : ∀ (q : Nat) (k : Int) (m : Mm) (x5 x7 : Option AV), k + q = 37 → 0 ≤ k → (∀ j, 0 ≤ j → j < 37 → m 63 j = Pw j) → (∀ x5 x7 : Option AV, Ev 2 m_Mo_layPowers 155 [some (vr 57), some (vi p), some (vi s), some (vi w), some (vi 37), x5, none, x7] [] σ (ms m 64 k 37 (stp w Pw)) r σ mF) → Ev 2 m_Mo_layPowers 61 [some (vr 57), some (vi p), some (vi s), some (vi w), some (vi k), x5, none, x7] [] σ m r σ mF
  | 0, k, m, x5, x7, hk, h0, hP, c => by
    have e : k = 37 := by omega
    have c := c x5 x7
    rw [ms_e (by omega)] at c
    refine Ev.iload d_Mo_layPowers_61 rfl ?_
    refine Ev.bipush d_Mo_layPowers_63 rfl ?_
    refine Ev.icmp_ge (tgt := 155) d_Mo_layPowers_65 rfl (by first | omega | (simp [mu]; done) | (simp [mu]; omega)) (by first | omega | (simp [mu]; done) | (simp [mu]; omega)) (fun hb65 => ?_) (fun hb65 => by exfalso; first | omega | simp at hb65 | contradiction)
    rw [e]
    exact c
  | q + 1, k, m, x5, x7, hk, h0, hP, c => by
    have est : (0 : Int) + se w Pw k (2 * w - 1).toNat (1 - w) = stp w Pw k := by rw [Int.zero_add]; rfl
    rw [← ms_s (by omega)] at c
    refine Ev.iload d_Mo_layPowers_61 rfl ?_
    refine Ev.bipush d_Mo_layPowers_63 rfl ?_
    refine Ev.icmp_ge (tgt := 155) d_Mo_layPowers_65 rfl (by first | omega | (simp [mu]; done) | (simp [mu]; omega)) (by first | omega | (simp [mu]; done) | (simp [mu]; omega)) (fun hb65 => by exfalso; first | omega | simp at hb65 | contradiction) (fun hb65 => ?_)
    refine Ev.lconst (x := 0) d_Mo_layPowers_68 rfl ?_
    refine Ev.lstore_5 d_Mo_layPowers_69 rfl ?_
    refine Ev.iconst d_Mo_layPowers_71 ?_
    refine Ev.iload_n d_Mo_layPowers_72 rfl ?_
    refine Ev.isub d_Mo_layPowers_73 ?_
    refine Ev.istore_7 d_Mo_layPowers_74 rfl ?_
    refine lp3_Mo_pow hM hw (by omega) hP (2 * w - 1).toNat (1 - w) 0 (by omega) (by omega) ?_
    rw [est]
    refine Ev.aload_n d_Mo_layPowers_140 rfl ?_
    refine Ev.gr 7 d_Mo_layPowers_141 lf_Mo_29 rfl rfl (is_57 hM) (by decide) (rf_57_7 hM) ?_
    refine Ev.iload d_Mo_layPowers_144 rfl ?_
    refine Ev.lload d_Mo_layPowers_146 rfl ?_
    refine Ev.lastore d_Mo_layPowers_148 (is_64 hM) (by decide) (by first | omega | (simp [mu]; done) | (simp [mu]; omega)) ?_
    refine Ev.iinc_4 d_Mo_layPowers_149 rfl ?_
    refine Ev.goto (tgt := 61) d_Mo_layPowers_152 rfl ?_
    exact lp2_Mo_pow hM hw q (k + 1) _ _ _ (by omega) (by omega) (fun j h1 h2 => by rw [mu_a (by decide)]; exact hP j h1 h2) c
theorem lp4_Mo_pow (hM : MoS σ) {p s w : Int} {F : Int → Int} {r : Option AV} {mF : Mm} {x3 x5 x7 : Option AV} : ∀ (q : Nat) (k : Int) (m : Mm), k + q = 37 → 0 ≤ k → (∀ j, k ≤ j → j < 37 → m 64 j = F j) → Ev 2 m_Mo_layPowers 185 [some (vr 57), some (vi p), some (vi s), some (vi w), some (vi 37), x5, none, x7] [] σ (ms m 63 k 37 F) r σ mF → Ev 2 m_Mo_layPowers 158 [some (vr 57), some (vi p), some (vi s), some (vi w), some (vi k), x5, none, x7] [] σ m r σ mF
  | 0, k, m, hk, h0, hP, c => by
    have e : k = 37 := by omega
    rw [ms_e (by omega)] at c
    refine Ev.iload d_Mo_layPowers_158 rfl ?_
    refine Ev.bipush d_Mo_layPowers_160 rfl ?_
    refine Ev.icmp_ge (tgt := 185) d_Mo_layPowers_162 rfl (by first | omega | (simp [mu]; done) | (simp [mu]; omega)) (by first | omega | (simp [mu]; done) | (simp [mu]; omega)) (fun hb162 => ?_) (fun hb162 => by exfalso; first | omega | simp at hb162 | contradiction)
    rw [e]
    exact c
  | q + 1, k, m, hk, h0, hP, c => by
    rw [← ms_s (by omega), ← hP k (by omega) (by omega)] at c
    refine Ev.iload d_Mo_layPowers_158 rfl ?_
    refine Ev.bipush d_Mo_layPowers_160 rfl ?_
    refine Ev.icmp_ge (tgt := 185) d_Mo_layPowers_162 rfl (by first | omega | (simp [mu]; done) | (simp [mu]; omega)) (by first | omega | (simp [mu]; done) | (simp [mu]; omega)) (fun hb162 => by exfalso; first | omega | simp at hb162 | contradiction) (fun hb162 => ?_)
    refine Ev.aload_n d_Mo_layPowers_165 rfl ?_
    refine Ev.gr 6 d_Mo_layPowers_166 lf_Mo_25 rfl rfl (is_57 hM) (by decide) (rf_57_6 hM) ?_
    refine Ev.iload d_Mo_layPowers_169 rfl ?_
    refine Ev.aload_n d_Mo_layPowers_171 rfl ?_
    refine Ev.gr 7 d_Mo_layPowers_172 lf_Mo_29 rfl rfl (is_57 hM) (by decide) (rf_57_7 hM) ?_
    refine Ev.iload d_Mo_layPowers_175 rfl ?_
    refine Ev.laload d_Mo_layPowers_177 (is_64 hM) (by first | omega | (simp [mu]; done) | (simp [mu]; omega)) ?_
    refine Ev.lastore d_Mo_layPowers_178 (is_63 hM) (by decide) (by first | omega | (simp [mu]; done) | (simp [mu]; omega)) ?_
    refine Ev.iinc_4 d_Mo_layPowers_179 rfl ?_
    refine Ev.goto (tgt := 158) d_Mo_layPowers_182 rfl ?_
    exact lp4_Mo_pow hM (x3 := x3) q (k + 1) _ (by omega) (by omega) (fun j h1 h2 => by rw [mu_a (by decide)]; exact hP j (by omega) h2) c
def FrW (m m' : Mm) : Prop := ∀ a i : Int, a ≠ 63 → a ≠ 64 → m' a i = m a i
theorem lp1_Mo_pow (hM : MoS σ) {p n : Int} (hp : 0 ≤ p ∧ p ≤ 8) (h6 : 0 ≤ n ∧ n ≤ 6) : ∀ (l : List Int) (k : Int) (m : Mm) (Pw : Int → Int) (x3 x4 x5 x7 : Option AV), m 59 p = n → At m k l → k + l.length = 6 * p + n → 6 * p ≤ k → (∀ j, 0 ≤ j → j < 37 → m 63 j = Pw j) → (q_nl (some x4) = true ∧ q_nl (some x3) = true) → ∃ m', Ev 2 m_Mo_layPowers 36 [some (vr 57), some (vi p), some (vi k), x3, x4, x5, none, x7] [] σ m none σ m' ∧ (∀ j, 0 ≤ j → j < 37 → m' 63 j = pwL l Pw j) ∧ FrW m m'
  | [], k, m, Pw, x3, x4, x5, x7, hn, hA, he, hk, hP, hq => by
    simp only [List.length_nil] at he
    refine ⟨m, ?_, hP, fun _ _ _ _ => rfl⟩
    refine Ev.iload_n d_Mo_layPowers_36 rfl ?_
    refine Ev.bipush d_Mo_layPowers_37 rfl ?_
    refine Ev.iload_n d_Mo_layPowers_39 rfl ?_
    refine Ev.imul d_Mo_layPowers_40 ?_
    refine Ev.aload_n d_Mo_layPowers_41 rfl ?_
    refine Ev.gr 2 d_Mo_layPowers_42 lf_Mo_13 rfl rfl (is_57 hM) (by decide) (rf_57_2 hM) ?_
    refine Ev.iload_n d_Mo_layPowers_45 rfl ?_
    refine Ev.iaload d_Mo_layPowers_46 (is_59 hM) (by first | omega | (simp [mu]; done) | (simp [mu]; omega)) ?_
    refine Ev.iadd d_Mo_layPowers_47 ?_
    refine Ev.icmp_ge (tgt := 191) d_Mo_layPowers_48 rfl (by first | omega | (simp [mu]; done) | (simp [mu]; omega)) (by first | omega | (simp [mu]; done) | (simp [mu]; omega)) (fun hb48 => ?_) (fun hb48 => by exfalso; first | omega | simp at hb48 | contradiction)
    exact Ev.to (Ev.return d_Mo_layPowers_191 rfl) rfl rfl
  | s :: t, k, m, Pw, x3, x4, x5, x7, hn, hA, he, hk, hP, hq => by
    obtain ⟨⟨e1, e2, e3⟩, hA2⟩ := hA
    have b3 := wS_b s
    simp only [List.length_cons] at he
    obtain ⟨m', g1, g2, g3⟩ := lp1_Mo_pow hM hp h6 t (k + 1) (ms (ms m 64 0 37 (stp (wS s) Pw)) 63 0 37 (stp (wS s) Pw)) (stp (wS s) Pw) (some (vi (wS s))) (some (vi 37)) none none (by rw [ms_a (by decide), ms_a (by decide)]; exact hn) (At_eq (fun j _ _ => ⟨by rw [ms_a (by decide), ms_a (by decide)], by rw [ms_a (by decide), ms_a (by decide)], by rw [ms_a (by decide), ms_a (by decide)]⟩) hA2) (by omega) (by omega) (fun j h1 h2 => ms_in ⟨h1, h2⟩) ⟨rfl, rfl⟩
    refine ⟨m', ?_, g2, fun a i h1 h2 => by rw [g3 a i h1 h2, ms_a h1, ms_a h2]⟩
    refine Ev.iload_n d_Mo_layPowers_36 rfl ?_
    refine Ev.bipush d_Mo_layPowers_37 rfl ?_
    refine Ev.iload_n d_Mo_layPowers_39 rfl ?_
    refine Ev.imul d_Mo_layPowers_40 ?_
    refine Ev.aload_n d_Mo_layPowers_41 rfl ?_
    refine Ev.gr 2 d_Mo_layPowers_42 lf_Mo_13 rfl rfl (is_57 hM) (by decide) (rf_57_2 hM) ?_
    refine Ev.iload_n d_Mo_layPowers_45 rfl ?_
    refine Ev.iaload d_Mo_layPowers_46 (is_59 hM) (by first | omega | (simp [mu]; done) | (simp [mu]; omega)) ?_
    refine Ev.iadd d_Mo_layPowers_47 ?_
    refine Ev.icmp_ge (tgt := 191) d_Mo_layPowers_48 rfl (by first | omega | (simp [mu]; done) | (simp [mu]; omega)) (by first | omega | (simp [mu]; done) | (simp [mu]; omega)) (fun hb48 => by exfalso; first | omega | simp at hb48 | contradiction) (fun hb48 => ?_)
    refine Ev.aload_n d_Mo_layPowers_51 rfl ?_
    refine Ev.gr 5 d_Mo_layPowers_52 lf_Mo_22 rfl rfl (is_57 hM) (by decide) (rf_57_5 hM) ?_
    refine Ev.iload_n d_Mo_layPowers_55 rfl ?_
    refine Ev.iaload d_Mo_layPowers_56 (is_62 hM) (by first | omega | (simp [mu]; done) | (simp [mu]; omega)) ?_
    rw [e3]
    refine Ev.istore_3 d_Mo_layPowers_57 rfl ?_
    refine Ev.iconst d_Mo_layPowers_58 ?_
    refine Ev.istore_4 d_Mo_layPowers_59 rfl ?_
    refine lp2_Mo_pow hM b3 37 0 m _ _ (by omega) (by omega) hP (fun y5 y7 => ?_)
    refine Ev.iconst d_Mo_layPowers_155 ?_
    refine Ev.istore_4 d_Mo_layPowers_156 rfl ?_
    refine lp4_Mo_pow hM (x3 := none) 37 0 _ (by omega) (by omega) (fun j h1 h2 => ms_in ⟨h1, h2⟩) ?_
    refine Ev.iinc_2 d_Mo_layPowers_185 rfl ?_
    refine Ev.goto (tgt := 36) d_Mo_layPowers_188 rfl ?_
    refine Ev.forget 5 ?_
    refine Ev.forget 7 ?_
    exact g1
theorem c_Mo_layPowers (hM : MoS σ) {p d : Int} {l : List Int} (hp : 0 ≤ p ∧ p ≤ 8) (hP : PM m p d l) (hK : PK d l) : ∃ m', Call 2 m_Mo_layPowers [vr 57, vi p] σ m none σ m' ∧ (∀ j, 0 ≤ j → j < 37 → m' 63 j = pwL l pw0 j) ∧ FrW m m' := by
  have h6 := hK.2.1
  obtain ⟨m', g1, g2, g3⟩ := lp1_Mo_pow hM hp (n := l.length) (by omega) l (6 * p) (ms m 63 0 37 pw0) pw0 none none none none (by rw [ms_a (by decide)]; exact hP.2.1) (At_eq (fun j _ _ => ⟨ms_a (by decide), ms_a (by decide), ms_a (by decide)⟩) hP.2.2) (by omega) (by omega) (fun j h1 h2 => ms_in ⟨h1, h2⟩) ⟨rfl, rfl⟩
  refine ⟨m', ?_, g2, fun a i h1 h2 => by rw [g3 a i h1 h2, ms_a h1]⟩
  show Ev 2 m_Mo_layPowers 0 [some (vr 57), some (vi p), none, none, none, none, none, none] [] σ m _ σ _
  refine Ev.iconst d_Mo_layPowers_0 ?_
  refine Ev.istore_2 d_Mo_layPowers_1 rfl ?_
  refine lp0_Mo_pow hM 37 0 m (by omega) (by omega) (fun _ _ => trivial) ?_
  refine Ev.bipush d_Mo_layPowers_31 rfl ?_
  refine Ev.iload_n d_Mo_layPowers_33 rfl ?_
  refine Ev.imul d_Mo_layPowers_34 ?_
  refine Ev.istore_2 d_Mo_layPowers_35 rfl ?_
  exact g1
def sp_spread (S : PS) (p k : Int) : Int := if 0 ≤ p ∧ p < S.1 then (if -18 ≤ k ∧ k ≤ 18 then pwL (S.2.2 p) pw0 (18 + k) else 0) else -1
theorem FrW.MS {m m' : Mm} {S : PS} (h : FrW m m') (hS : MS m S) : MS m' S := by
  refine ⟨hS.1, (h 57 0 (by decide) (by decide)).trans hS.2.1, fun p h1 h2 => ?_⟩
  obtain ⟨⟨g1, g2, g3⟩, g4⟩ := hS.2.2 p h1 h2
  exact ⟨⟨(h 58 p (by decide) (by decide)).trans g1, (h 59 p (by decide) (by decide)).trans g2, At_eq (fun j _ _ => ⟨h 60 j (by decide) (by decide), h 61 j (by decide) (by decide), h 62 j (by decide) (by decide)⟩) g3⟩, g4⟩
theorem c_Mo_spread (hM : MoS σ) {S : PS} (hS : MS m S) {p k : Int} (h1 : -2147483648 ≤ p ∧ p ≤ 2147483647) (h2 : -2147483648 ≤ k ∧ k ≤ 2147483647) : ∃ m', Call 3 m_Mo_spread [vr 57, vi p, vi k] σ m (some (vl (sp_spread S p k))) σ m' ∧ FrW m m' := by
  have hS1 := hS.1
  have hS2 := hS.2.1
  by_cases hp : 0 ≤ p ∧ p < S.1
  · obtain ⟨hPM, g4⟩ := hS.2.2 p hp.1 hp.2
    obtain ⟨m', q1, q2, q3⟩ := c_Mo_layPowers hM (by omega) hPM g4
    refine ⟨m', ?_, q3⟩
    rw [sp_spread, if_pos hp]
    show Ev 3 m_Mo_spread 0 [some (vr 57), some (vi p), some (vi k)] [] σ m _ σ _
    refine Ev.aload_n d_Mo_spread_0 rfl ?_
    refine Ev.iload_n d_Mo_spread_1 rfl ?_
    refine Ev.callV d_Mo_spread_2 mt_Mo_is lk_Mo_117 in_Mo_is se_Mo_is rfl (Nat.le_of_ble_eq_true rfl) rfl (Nat.le_of_ble_eq_true rfl) (by decide) (is_57 hM) (by decide) rfl rfl (c_Mo_is hM (by omega) (by omega)) ?_
    refine Ev.if_ne (tgt := 12) d_Mo_spread_5 rfl b01_b (fun hb5 => ?_) (fun hb5 => by exfalso; (first | rw [b01_ne] at hb5 | rw [b01_eq] at hb5); omega)
    rw [b01_ne] at hb5
    refine Ev.aload_n d_Mo_spread_12 rfl ?_
    refine Ev.iload_n d_Mo_spread_13 rfl ?_
    refine Ev.callVv d_Mo_spread_14 mt_Mo_layPowers lk_Mo_156 in_Mo_layPowers se_Mo_layPowers rfl (Nat.le_of_ble_eq_true rfl) rfl (Nat.le_of_ble_eq_true rfl) (by decide) (is_57 hM) (by decide) rfl rfl q1 ?_
    refine Ev.iload_n d_Mo_spread_17 rfl ?_
    refine Ev.i2l d_Mo_spread_18 (by first | omega | (simp [mu]; done) | (simp [mu]; omega)) ?_
    refine Ev.ldc2 (x := (-18)) d_Mo_spread_19 kl_Mo_160 ?_
    refine Ev.ldc2 (x := 18) d_Mo_spread_22 kl_Mo_162 ?_
    refine Ev.callS d_Mo_spread_25 mt_Mo_in lk_Mo_107 st_Mo_in rfl (Nat.le_of_ble_eq_true rfl) rfl (Nat.le_of_ble_eq_true rfl) (by decide) rfl (c_Mo_in (by omega) (by omega) (by omega)) ?_
    refine Ev.if_eq (tgt := 43) d_Mo_spread_28 rfl b01_b (fun hb28 => ?_) (fun hb28 => ?_)
    · rw [b01_eq] at hb28
      refine Ev.lconst (x := 0) d_Mo_spread_43 rfl ?_
      exact Ev.to (Ev.lreturn d_Mo_spread_44 rfl) (rl (by first | (rw [if_neg (by omega)]; done) | (rw [if_pos (by omega)]; exact q2 _ (by omega) (by omega)))) rfl
    · rw [b01_ne] at hb28
      refine Ev.aload_n d_Mo_spread_31 rfl ?_
      refine Ev.gr 6 d_Mo_spread_32 lf_Mo_25 rfl rfl (is_57 hM) (by decide) (rf_57_6 hM) ?_
      refine Ev.bipush d_Mo_spread_35 rfl ?_
      refine Ev.iload_n d_Mo_spread_37 rfl ?_
      refine Ev.iadd d_Mo_spread_38 ?_
      refine Ev.laload d_Mo_spread_39 (is_63 hM) (by first | omega | (simp [mu]; done) | (simp [mu]; omega)) ?_
      refine Ev.goto (tgt := 44) d_Mo_spread_40 rfl ?_
      exact Ev.to (Ev.lreturn d_Mo_spread_44 rfl) (rl (by first | (rw [if_neg (by omega)]; done) | (rw [if_pos (by omega)]; exact q2 _ (by omega) (by omega)))) rfl
  · refine ⟨m, ?_, fun _ _ _ _ => rfl⟩
    rw [sp_spread, if_neg hp]
    show Ev 3 m_Mo_spread 0 [some (vr 57), some (vi p), some (vi k)] [] σ m _ σ _
    refine Ev.aload_n d_Mo_spread_0 rfl ?_
    refine Ev.iload_n d_Mo_spread_1 rfl ?_
    refine Ev.callV d_Mo_spread_2 mt_Mo_is lk_Mo_117 in_Mo_is se_Mo_is rfl (Nat.le_of_ble_eq_true rfl) rfl (Nat.le_of_ble_eq_true rfl) (by decide) (is_57 hM) (by decide) rfl rfl (c_Mo_is hM (by omega) (by omega)) ?_
    refine Ev.if_ne (tgt := 12) d_Mo_spread_5 rfl b01_b (fun hb5 => by exfalso; (first | rw [b01_ne] at hb5 | rw [b01_eq] at hb5); omega) (fun hb5 => ?_)
    rw [b01_eq] at hb5
    refine Ev.ldc2 (x := (-1)) d_Mo_spread_8 kl_Mo_154 ?_
    exact Ev.to (Ev.lreturn d_Mo_spread_11 rfl) rfl rfl
end
