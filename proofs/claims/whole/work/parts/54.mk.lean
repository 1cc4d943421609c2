/-! the marker -/
def MkS (σ : Sg) (c : Int) : Prop := 3 ≤ c ∧ Is σ c 1 0 ∧ Is σ (c + 1) 100 10 ∧ Is σ (c + 2) 100 10 ∧ Is σ (c + 3) 100 10 ∧ Is σ (c + 4) 100 4 ∧ σ.2.2.2.2 c 0 = c + 1 ∧ σ.2.2.2.2 c 1 = c + 2 ∧ σ.2.2.2.2 c 2 = c + 3 ∧ σ.2.2.2.2 c 3 = c + 4
def KAt (m : Mm) (c : Int) : Nat → KN → Prop
  | _, [] => True
  | i, k :: t => (m (c + 1) i = k.1 ∧ m (c + 2) i = k.2.1 ∧ m (c + 3) i = k.2.2) ∧ KAt m c (i + 1) t
def MkR (m : Mm) (c : Int) (i : Nat) (K : KN) (w wn : Int) : Prop := m c 4 = i + K.length ∧ m c 5 = w ∧ m c 6 = wn ∧ KAt m c i K
def InG (m : Mm) (c : Int) (g : Nat) : Prop := ∀ i : Nat, i < 4 → m (c + 4) i = (gtT g i : Nat)
def tot : KN → Nat
  | [] => 0
  | k :: t => k.2.2 + tot t
def kok : KN → Bool
  | [] => true
  | k :: t => decide (k.1 ≤ k.2.1 ∧ k.2.1 ≤ 3) && kok t
def BD (g t : Nat) : Prop := ∀ i : Nat, i < 4 → gtT g i + t ≤ 13
def dLoop (T : Nat → Nat) (b : Nat) : Nat → Nat → Nat → Nat → Nat
  | 0, _, _, sum => sum
  | n + 1, h, mix, sum => dLoop T b n (h + 1) (if 0 < h then mix * (b + h) / h else mix) (sum + (if 0 < h then mix * (b + h) / h else mix) * T h)
def dGap (nx : Nat → Nat) : Nat → Nat → Nat → Nat → Nat
  | 0, gap, left, g => dLoop (fun h => if h = left then nx (g + h * 256 ^ gap) else 0) (gtT g gap) (left + 1) 0 1 0
  | q + 1, gap, left, g => dLoop (fun h => if h = left then nx (g + h * 256 ^ gap) else dGap nx q (gap + 1) (left - h) (g + h * 256 ^ gap)) (gtT g gap) (left + 1) 0 1 0
def dN (lf : Nat → Nat) : KN → Nat → Nat
  | [], g => lf g
  | k :: R, g => dGap (dN lf R) (k.2.1 - k.1) k.1 k.2.2 g
def lfW (w wn : Int) (g : Nat) : Nat := if w < 0 ∨ 4 ≤ w ∨ ((gtT g w.toNat : Nat) : Int) = wn then 1 else 0
theorem KAt_fr {m m' : Mm} {c : Int} (f : ∀ b j : Int, b = c + 1 ∨ b = c + 2 ∨ b = c + 3 → m' b j = m b j) : ∀ (K : KN) (i : Nat), KAt m c i K → KAt m' c i K
  | [], _, _ => trivial
  | k :: t, i, h => ⟨⟨(f _ _ (by omega)).trans h.1.1, (f _ _ (by omega)).trans h.1.2.1, (f _ _ (by omega)).trans h.1.2.2⟩, KAt_fr f t (i + 1) h.2⟩
theorem MkR_mu {m : Mm} {c g x : Int} {i : Nat} {K : KN} {w wn : Int} (h : MkR m c i K w wn) : MkR (mu m (c + 4) g x) c i K w wn := ⟨(mu_a (by omega)).trans h.1, (mu_a (by omega)).trans h.2.1, (mu_a (by omega)).trans h.2.2.1, KAt_fr (fun b j hb => mu_a (by omega)) K i h.2.2.2⟩
theorem gtT_add {g h i j : Nat} (hb : gtT g j + h < 256) : gtT (g + h * 256 ^ j) i = if i = j then gtT g j + h else gtT g i := by
  by_cases e : i = j
  · rw [if_pos e, e, gtT_same hb]
  · rw [if_neg e]
    rcases Nat.lt_or_gt_of_ne e with h1 | h1
    · rw [gtT_lo h1]
    · rw [gtT_hi h1 hb]
theorem InG_mu {m : Mm} {c : Int} {g h j : Nat} (hg : InG m c g) (hb : gtT g j + h < 256) : InG (mu m (c + 4) j ((gtT g j : Nat) + (h : Nat))) c (g + h * 256 ^ j) := fun i hi => by
  rw [gtT_add hb]
  by_cases e : i = j
  · rw [if_pos e, e, mu_s]; push_cast; rfl
  · rw [if_neg e, mu_n (Or.inr (by omega))]; exact hg i hi
theorem BD_add {g h j t t' : Nat} (hb : BD g t) (hj : j < 4) (ht : h + t' ≤ t) : BD (g + h * 256 ^ j) t' := fun i hi => by
  have h1 := hb j hj
  have h2 := hb i hi
  rw [gtT_add (by omega)]
  split <;> omega
section
variable {σ : Sg} {m : Mm}
theorem lp_Mk_deal {D D1 D2 : Nat} {c : Int} (hC : MkS σ c) {i gap left last b kn : Nat} (hD1 : D1 + 1 ≤ D) (hD2 : D2 + 1 ≤ D) (hi : i < kn ∧ kn ≤ 10) (hg : gap < 4) (hl : left ≤ 13 ∧ b + left ≤ 13) (hla : last ≤ 3) (h4 : m c 4 = kn) (hlast : m (c + 2) i = last) (hb : m (c + 4) gap = b) {T : Nat → Nat}
  (hT1 : Call D1 m_Mk_dealNext [vr c, vi ((i : Int) + 1)] σ (mu m (c + 4) gap ((b : Int) + (left : Int))) (some (vl (T left : Nat))) σ (mu m (c + 4) gap ((b : Int) + (left : Int))))
  (hT2 : ∀ h : Nat, h < left → gap < last → Call D2 m_Mk_deal [vr c, vi i, vi ((gap : Int) + 1), vi ((left : Int) - (h : Int))] σ (mu m (c + 4) gap ((b : Int) + (h : Int))) (some (vl (T h : Nat))) σ (mu m (c + 4) gap ((b : Int) + (h : Int))))
  (hT3 : ∀ h : Nat, h < left → ¬ gap < last → T h = 0) : ∀ (n h mix sum : Nat) (x : Int), h + n = left + 1 → mix ≤ 16 ^ h → Ev D m_Mk_deal 46 [some (vr c), some (vi i), some (vi gap), some (vi left), some (vl sum), none, some (vl mix), none, some (vi b), some (vi h)] [] σ (mu m (c + 4) gap x) (some (vl (dLoop T b n h mix sum : Nat))) σ m
  | 0, h, mix, sum, x, hh, hm => by
    have he : mu (mu m (c + 4) gap x) (c + 4) gap b = m := by rw [mu_mu]; exact mu_id hb
    simp only [dLoop]
    refine Ev.iload d_Mk_deal_46 rfl ?_
    refine Ev.iload_n d_Mk_deal_48 rfl ?_
    refine Ev.icmp_gt (tgt := 143) d_Mk_deal_49 rfl (by first | omega | (simp [mu]; done) | (simp [mu]; omega)) (by first | omega | (simp [mu]; done) | (simp [mu]; omega)) (fun hb49 => ?_) (fun hb49 => by exfalso; first | omega | simp at hb49 | contradiction)
    refine Ev.aload_n d_Mk_deal_143 rfl ?_
    refine Ev.gr 3 d_Mk_deal_144 lf_Mk_21 rfl rfl hC.2.1 (by decide) hC.2.2.2.2.2.2.2.2.2 ?_
    refine Ev.iload_n d_Mk_deal_147 rfl ?_
    refine Ev.iload d_Mk_deal_148 rfl ?_
    refine Ev.iastore d_Mk_deal_150 hC.2.2.2.2.2.1 (by have := hC.1; omega) (by first | omega | (simp [mu]; done) | (simp [mu]; omega)) ?_
    refine Ev.lload d_Mk_deal_151 rfl ?_
    exact Ev.to (Ev.lreturn d_Mk_deal_153 rfl) rfl he
  | n + 1, h, mix, sum, x, hh, hm => by
    have hp : 16 ^ h ≤ 16 ^ 13 := Nat.pow_le_pow_right (by decide) (by omega)
    have hmx : mix ≤ 4503599627370496 := Nat.le_trans hm hp
    have hmul : mix * (b + h) ≤ 4503599627370496 * 13 := Nat.mul_le_mul hmx (by omega)
    have hdv : ((mix : Int) * ((b : Int) + (h : Int))) / (h : Int) = ((mix * (b + h) / h : Nat) : Int) := by push_cast; rfl
    have hmulI : (mix : Int) * ((b : Int) + (h : Int)) = ((mix * (b + h) : Nat) : Int) := by push_cast; rfl
    have hlast' : mu m (c + 4) gap ((b : Int) + (h : Int)) (c + 2) i = last := by rw [mu_a (by omega)]; exact hlast
    generalize hmm : (if 0 < h then mix * (b + h) / h else mix) = mix'
    have hmb : mix' ≤ 16 ^ (h + 1) := by
      rw [Nat.pow_succ, ← hmm]
      split
      · have : mix * (b + h) / h ≤ mix * (b + h) := Nat.div_le_self _ _
        have h2 : mix * (b + h) ≤ 16 ^ h * 16 := Nat.mul_le_mul hm (by omega)
        omega
      · omega
    have es : dLoop T b (n + 1) h mix sum = dLoop T b n (h + 1) mix' (sum + mix' * T h) := by simp only [dLoop]; rw [hmm]
    have rcs := fun (sum : Nat) => lp_Mk_deal hC hD1 hD2 hi hg hl hla h4 hlast hb hT1 hT2 hT3 n (h + 1) mix' sum ((b : Int) + (h : Int)) (by omega) hmb
    rw [es]
    have hfirst : Ev D m_Mk_deal 72 [some (vr c), some (vi i), some (vi gap), some (vi left), some (vl sum), none, some (vl mix'), none, some (vi b), some (vi h)] [] σ (mu m (c + 4) gap x) (some (vl (dLoop T b n (h + 1) mix' (sum + mix' * T h) : Nat))) σ m := by
      by_cases hlq : h = left
      · subst hlq
        refine Ev.aload_n d_Mk_deal_72 rfl ?_
        refine Ev.gr 3 d_Mk_deal_73 lf_Mk_21 rfl rfl hC.2.1 (by decide) hC.2.2.2.2.2.2.2.2.2 ?_
        refine Ev.iload_n d_Mk_deal_76 rfl ?_
        refine Ev.iload d_Mk_deal_77 rfl ?_
        refine Ev.iload d_Mk_deal_79 rfl ?_
        refine Ev.iadd d_Mk_deal_81 ?_
        refine Ev.iastore d_Mk_deal_82 hC.2.2.2.2.2.1 (by have := hC.1; omega) (by first | omega | (simp [mu]; done) | (simp [mu]; omega)) ?_
        rw [mu_mu]
        refine Ev.iload d_Mk_deal_83 rfl ?_
        refine Ev.iload_n d_Mk_deal_85 rfl ?_
        refine Ev.icmp_ne (tgt := 107) d_Mk_deal_86 rfl (by first | omega | (simp [mu]; done) | (simp [mu]; omega)) (by first | omega | (simp [mu]; done) | (simp [mu]; omega)) (fun hb86 => by exfalso; first | omega | simp at hb86 | contradiction) (fun hb86 => ?_)
        refine Ev.lload d_Mk_deal_89 rfl ?_
        refine Ev.lload d_Mk_deal_91 rfl ?_
        refine Ev.aload_n d_Mk_deal_93 rfl ?_
        refine Ev.iload_n d_Mk_deal_94 rfl ?_
        refine Ev.iconst d_Mk_deal_95 ?_
        refine Ev.iadd d_Mk_deal_96 ?_
        refine Ev.callV d_Mk_deal_97 mt_Mk_dealNext lk_Mk_63 in_Mk_dealNext se_Mk_dealNext rfl (Nat.le_of_ble_eq_true rfl) rfl (Nat.le_of_ble_eq_true rfl) (by omega) hC.2.1 (by decide) rfl rfl hT1 ?_
        refine Ev.lmul d_Mk_deal_100 ?_
        refine Ev.ladd d_Mk_deal_101 ?_
        refine Ev.lstore_4 d_Mk_deal_102 rfl ?_
        refine Ev.goto (tgt := 137) d_Mk_deal_104 rfl ?_
        refine Ev.iinc_9 d_Mk_deal_137 rfl ?_
        refine Ev.goto (tgt := 46) d_Mk_deal_140 rfl ?_
        have := rcs (sum + mix' * T h)
        push_cast at this ⊢
        exact this
      · by_cases hgl : gap < last
        · have hT := hT2 h (by omega) hgl
          refine Ev.aload_n d_Mk_deal_72 rfl ?_
          refine Ev.gr 3 d_Mk_deal_73 lf_Mk_21 rfl rfl hC.2.1 (by decide) hC.2.2.2.2.2.2.2.2.2 ?_
          refine Ev.iload_n d_Mk_deal_76 rfl ?_
          refine Ev.iload d_Mk_deal_77 rfl ?_
          refine Ev.iload d_Mk_deal_79 rfl ?_
          refine Ev.iadd d_Mk_deal_81 ?_
          refine Ev.iastore d_Mk_deal_82 hC.2.2.2.2.2.1 (by have := hC.1; omega) (by first | omega | (simp [mu]; done) | (simp [mu]; omega)) ?_
          rw [mu_mu]
          refine Ev.iload d_Mk_deal_83 rfl ?_
          refine Ev.iload_n d_Mk_deal_85 rfl ?_
          refine Ev.icmp_ne (tgt := 107) d_Mk_deal_86 rfl (by first | omega | (simp [mu]; done) | (simp [mu]; omega)) (by first | omega | (simp [mu]; done) | (simp [mu]; omega)) (fun hb86 => ?_) (fun hb86 => by exfalso; first | omega | simp at hb86 | contradiction)
          refine Ev.iload_n d_Mk_deal_107 rfl ?_
          refine Ev.aload_n d_Mk_deal_108 rfl ?_
          refine Ev.gr 1 d_Mk_deal_109 lf_Mk_15 rfl rfl hC.2.1 (by decide) hC.2.2.2.2.2.2.2.1 ?_
          refine Ev.iload_n d_Mk_deal_112 rfl ?_
          refine Ev.iaload d_Mk_deal_113 hC.2.2.2.1 (by first | omega | (simp [mu]; done) | (simp [mu]; omega)) ?_
          rw [hlast']
          refine Ev.icmp_ge (tgt := 137) d_Mk_deal_114 rfl (by first | omega | (simp [mu]; done) | (simp [mu]; omega)) (by first | omega | (simp [mu]; done) | (simp [mu]; omega)) (fun hb114 => by exfalso; first | omega | simp at hb114 | contradiction) (fun hb114 => ?_)
          refine Ev.lload d_Mk_deal_117 rfl ?_
          refine Ev.lload d_Mk_deal_119 rfl ?_
          refine Ev.aload_n d_Mk_deal_121 rfl ?_
          refine Ev.iload_n d_Mk_deal_122 rfl ?_
          refine Ev.iload_n d_Mk_deal_123 rfl ?_
          refine Ev.iconst d_Mk_deal_124 ?_
          refine Ev.iadd d_Mk_deal_125 ?_
          refine Ev.iload_n d_Mk_deal_126 rfl ?_
          refine Ev.iload d_Mk_deal_127 rfl ?_
          refine Ev.isub d_Mk_deal_129 ?_
          refine Ev.callV d_Mk_deal_130 mt_Mk_deal lk_Mk_67 in_Mk_deal se_Mk_deal rfl (Nat.le_of_ble_eq_true rfl) rfl (Nat.le_of_ble_eq_true rfl) (by omega) hC.2.1 (by decide) rfl rfl hT ?_
          refine Ev.lmul d_Mk_deal_133 ?_
          refine Ev.ladd d_Mk_deal_134 ?_
          refine Ev.lstore_4 d_Mk_deal_135 rfl ?_
          refine Ev.iinc_9 d_Mk_deal_137 rfl ?_
          refine Ev.goto (tgt := 46) d_Mk_deal_140 rfl ?_
          have := rcs (sum + mix' * T h)
          push_cast at this ⊢
          exact this
        · rw [hT3 h (by omega) hgl, Nat.mul_zero, Nat.add_zero]
          refine Ev.aload_n d_Mk_deal_72 rfl ?_
          refine Ev.gr 3 d_Mk_deal_73 lf_Mk_21 rfl rfl hC.2.1 (by decide) hC.2.2.2.2.2.2.2.2.2 ?_
          refine Ev.iload_n d_Mk_deal_76 rfl ?_
          refine Ev.iload d_Mk_deal_77 rfl ?_
          refine Ev.iload d_Mk_deal_79 rfl ?_
          refine Ev.iadd d_Mk_deal_81 ?_
          refine Ev.iastore d_Mk_deal_82 hC.2.2.2.2.2.1 (by have := hC.1; omega) (by first | omega | (simp [mu]; done) | (simp [mu]; omega)) ?_
          rw [mu_mu]
          refine Ev.iload d_Mk_deal_83 rfl ?_
          refine Ev.iload_n d_Mk_deal_85 rfl ?_
          refine Ev.icmp_ne (tgt := 107) d_Mk_deal_86 rfl (by first | omega | (simp [mu]; done) | (simp [mu]; omega)) (by first | omega | (simp [mu]; done) | (simp [mu]; omega)) (fun hb86 => ?_) (fun hb86 => by exfalso; first | omega | simp at hb86 | contradiction)
          refine Ev.iload_n d_Mk_deal_107 rfl ?_
          refine Ev.aload_n d_Mk_deal_108 rfl ?_
          refine Ev.gr 1 d_Mk_deal_109 lf_Mk_15 rfl rfl hC.2.1 (by decide) hC.2.2.2.2.2.2.2.1 ?_
          refine Ev.iload_n d_Mk_deal_112 rfl ?_
          refine Ev.iaload d_Mk_deal_113 hC.2.2.2.1 (by first | omega | (simp [mu]; done) | (simp [mu]; omega)) ?_
          rw [hlast']
          refine Ev.icmp_ge (tgt := 137) d_Mk_deal_114 rfl (by first | omega | (simp [mu]; done) | (simp [mu]; omega)) (by first | omega | (simp [mu]; done) | (simp [mu]; omega)) (fun hb114 => ?_) (fun hb114 => by exfalso; first | omega | simp at hb114 | contradiction)
          refine Ev.iinc_9 d_Mk_deal_137 rfl ?_
          refine Ev.goto (tgt := 46) d_Mk_deal_140 rfl ?_
          have := rcs sum
          push_cast at this ⊢
          exact this
    by_cases h0 : 0 < h
    · rw [if_pos h0] at hmm
      rw [← hmm] at hfirst
      refine Ev.iload d_Mk_deal_46 rfl ?_
      refine Ev.iload_n d_Mk_deal_48 rfl ?_
      refine Ev.icmp_gt (tgt := 143) d_Mk_deal_49 rfl (by first | omega | (simp [mu]; done) | (simp [mu]; omega)) (by first | omega | (simp [mu]; done) | (simp [mu]; omega)) (fun hb49 => by exfalso; first | omega | simp at hb49 | contradiction) (fun hb49 => ?_)
      refine Ev.iload d_Mk_deal_52 rfl ?_
      refine Ev.if_le (tgt := 72) d_Mk_deal_54 rfl (by first | omega | (simp [mu]; done) | (simp [mu]; omega)) (fun hb54 => by exfalso; first | omega | simp at hb54 | contradiction) (fun hb54 => ?_)
      refine Ev.lload d_Mk_deal_57 rfl ?_
      refine Ev.iload d_Mk_deal_59 rfl ?_
      refine Ev.iload d_Mk_deal_61 rfl ?_
      refine Ev.iadd d_Mk_deal_63 ?_
      refine Ev.i2l d_Mk_deal_64 (by first | omega | (simp [mu]; done) | (simp [mu]; omega)) ?_
      refine Ev.lmul d_Mk_deal_65 ?_
      refine Ev.iload d_Mk_deal_66 rfl ?_
      refine Ev.i2l d_Mk_deal_68 (by first | omega | (simp [mu]; done) | (simp [mu]; omega)) ?_
      rw [hmulI]
      refine Ev.ldiv d_Mk_deal_69 (by omega) (by omega) ?_
      rw [← hmulI, hdv]
      refine Ev.lstore_6 d_Mk_deal_70 rfl ?_
      rw [← hmm]
      exact hfirst
    · rw [if_neg h0] at hmm
      rw [← hmm] at hfirst ⊢
      refine Ev.iload d_Mk_deal_46 rfl ?_
      refine Ev.iload_n d_Mk_deal_48 rfl ?_
      refine Ev.icmp_gt (tgt := 143) d_Mk_deal_49 rfl (by first | omega | (simp [mu]; done) | (simp [mu]; omega)) (by first | omega | (simp [mu]; done) | (simp [mu]; omega)) (fun hb49 => by exfalso; first | omega | simp at hb49 | contradiction) (fun hb49 => ?_)
      refine Ev.iload d_Mk_deal_52 rfl ?_
      refine Ev.if_le (tgt := 72) d_Mk_deal_54 rfl (by first | omega | (simp [mu]; done) | (simp [mu]; omega)) (fun hb54 => ?_) (fun hb54 => by exfalso; first | omega | simp at hb54 | contradiction)
      exact hfirst
theorem c_Mk_deal {c : Int} (hC : MkS σ c) {K : KN} {i : Nat} {k : Nat × Nat × Nat} {w wn : Int} {nx : Nat → Nat} (hk : k.1 ≤ k.2.1 ∧ k.2.1 ≤ 3) (hi : i + (K.length + 1) ≤ 10) (hnx : ∀ (m : Mm) (g : Nat), MkR m c i (k :: K) w wn → InG m c g → BD g (tot K) → Call (6 * K.length + 1) m_Mk_dealNext [vr c, vi ((i : Int) + 1)] σ m (some (vl (nx g : Nat))) σ m) : ∀ (q gap left : Nat) (m : Mm) (g : Nat), gap + q = k.2.1 → MkR m c i (k :: K) w wn → InG m c g → BD g (left + tot K) → Call (6 * K.length + 2 + (4 - gap)) m_Mk_deal [vr c, vi i, vi gap, vi left] σ m (some (vl (dGap nx q gap left g : Nat))) σ m := by
  intro q
  induction q with
  | zero =>
    intro gap left m g hq hR hG hB
    have h4 := hR.1
    simp only [List.length_cons] at h4
    have hb := hG gap (by omega)
    have hbb := hB gap (by omega)
    have lp := lp_Mk_deal (m := m) hC (D := 6 * K.length + 2 + (4 - gap)) (D1 := 6 * K.length + 1) (D2 := 0) (i := i) (gap := gap) (left := left) (last := k.2.1) (b := gtT g gap) (kn := i + (K.length + 1)) (T := fun h => if h = left then nx (g + h * 256 ^ gap) else 0) (by omega) (by omega) (by omega) (by omega) (by omega) hk.2 (by rw [h4]; push_cast; rfl) hR.2.2.2.1.2.1 hb (by
      have := hnx _ _ (MkR_mu hR) (InG_mu hG (j := gap) (h := left) (by omega)) (BD_add hB (by omega) (Nat.le_refl _))
      show Call _ _ _ _ _ (some (vl ((if left = left then nx (g + left * 256 ^ gap) else 0 : Nat) : Int))) _ _
      rw [if_pos rfl]; exact this) (fun h hh hgl => by exfalso; omega) (fun h hh hgl => by
      show (if h = left then _ else 0) = 0
      rw [if_neg (by omega)]) (left + 1) 0 1 0 (m (c + 4) gap) (by omega) (by decide)
    rw [mu_id rfl] at lp
    simp only [dGap]
    show Ev _ m_Mk_deal 0 [some (vr c), some (vi i), some (vi gap), some (vi left), none, none, none, none, none, none] [] σ m _ σ m
    refine Ev.iload_n d_Mk_deal_0 rfl ?_
    refine Ev.if_lt (tgt := 27) d_Mk_deal_1 rfl (by first | omega | (simp [mu]; done) | (simp [mu]; omega)) (fun hb1 => by exfalso; first | omega | simp at hb1 | contradiction) (fun hb1 => ?_)
    refine Ev.iload_n d_Mk_deal_4 rfl ?_
    refine Ev.aload_n d_Mk_deal_5 rfl ?_
    refine Ev.gf 4 d_Mk_deal_6 lf_Mk_30 rfl rfl hC.2.1 (by decide) ?_
    rw [h4]
    refine Ev.icmp_ge (tgt := 27) d_Mk_deal_9 rfl (by first | omega | (simp [mu]; done) | (simp [mu]; omega)) (by first | omega | (simp [mu]; done) | (simp [mu]; omega)) (fun hb9 => by exfalso; first | omega | simp at hb9 | contradiction) (fun hb9 => ?_)
    refine Ev.iload_n d_Mk_deal_12 rfl ?_
    refine Ev.bipush d_Mk_deal_13 rfl ?_
    refine Ev.icmp_ge (tgt := 27) d_Mk_deal_15 rfl (by first | omega | (simp [mu]; done) | (simp [mu]; omega)) (by first | omega | (simp [mu]; done) | (simp [mu]; omega)) (fun hb15 => by exfalso; first | omega | simp at hb15 | contradiction) (fun hb15 => ?_)
    refine Ev.iload_n d_Mk_deal_18 rfl ?_
    refine Ev.if_lt (tgt := 27) d_Mk_deal_19 rfl (by first | omega | (simp [mu]; done) | (simp [mu]; omega)) (fun hb19 => by exfalso; first | omega | simp at hb19 | contradiction) (fun hb19 => ?_)
    refine Ev.iload_n d_Mk_deal_22 rfl ?_
    refine Ev.iconst d_Mk_deal_23 ?_
    refine Ev.icmp_lt (tgt := 29) d_Mk_deal_24 rfl (by first | omega | (simp [mu]; done) | (simp [mu]; omega)) (by first | omega | (simp [mu]; done) | (simp [mu]; omega)) (fun hb24 => ?_) (fun hb24 => by exfalso; first | omega | simp at hb24 | contradiction)
    refine Ev.lconst (x := 0) d_Mk_deal_29 rfl ?_
    refine Ev.lstore_4 d_Mk_deal_30 rfl ?_
    refine Ev.lconst (x := 1) d_Mk_deal_32 rfl ?_
    refine Ev.lstore_6 d_Mk_deal_33 rfl ?_
    refine Ev.aload_n d_Mk_deal_35 rfl ?_
    refine Ev.gr 3 d_Mk_deal_36 lf_Mk_21 rfl rfl hC.2.1 (by decide) hC.2.2.2.2.2.2.2.2.2 ?_
    refine Ev.iload_n d_Mk_deal_39 rfl ?_
    refine Ev.iaload d_Mk_deal_40 hC.2.2.2.2.2.1 (by first | omega | (simp [mu]; done) | (simp [mu]; omega)) ?_
    rw [hb]
    refine Ev.istore_8 d_Mk_deal_41 rfl ?_
    refine Ev.iconst d_Mk_deal_43 ?_
    refine Ev.istore_9 d_Mk_deal_44 rfl ?_
    exact lp
  | succ q ih =>
    intro gap left m g hq hR hG hB
    have h4 := hR.1
    simp only [List.length_cons] at h4
    have hb := hG gap (by omega)
    have hbb := hB gap (by omega)
    have lp := lp_Mk_deal (m := m) hC (D := 6 * K.length + 2 + (4 - gap)) (D1 := 6 * K.length + 1) (D2 := 6 * K.length + 2 + (4 - (gap + 1))) (i := i) (gap := gap) (left := left) (last := k.2.1) (b := gtT g gap) (kn := i + (K.length + 1)) (T := fun h => if h = left then nx (g + h * 256 ^ gap) else dGap nx q (gap + 1) (left - h) (g + h * 256 ^ gap)) (by omega) (by omega) (by omega) (by omega) (by omega) hk.2 (by rw [h4]; push_cast; rfl) hR.2.2.2.1.2.1 hb (by
      have := hnx _ _ (MkR_mu hR) (InG_mu hG (j := gap) (h := left) (by omega)) (BD_add hB (by omega) (Nat.le_refl _))
      show Call _ _ _ _ _ (some (vl ((if left = left then nx (g + left * 256 ^ gap) else _ : Nat) : Int))) _ _
      rw [if_pos rfl]; exact this) (fun h hh hgl => by
      have := ih (gap + 1) (left - h) (mu m (c + 4) gap ((gtT g gap : Nat) + (h : Nat))) (g + h * 256 ^ gap) (by omega) (MkR_mu hR) (InG_mu hG (by omega)) (BD_add hB (by omega) (by omega))
      show Call _ _ _ _ _ (some (vl ((if h = left then _ else dGap nx q (gap + 1) (left - h) (g + h * 256 ^ gap) : Nat) : Int))) _ _
      rw [if_neg (by omega), show ((left : Int) - (h : Int)) = ((left - h : Nat) : Int) by omega]
      exact this) (fun h hh hgl => by exfalso; omega) (left + 1) 0 1 0 (m (c + 4) gap) (by omega) (by decide)
    rw [mu_id rfl] at lp
    simp only [dGap]
    show Ev _ m_Mk_deal 0 [some (vr c), some (vi i), some (vi gap), some (vi left), none, none, none, none, none, none] [] σ m _ σ m
    refine Ev.iload_n d_Mk_deal_0 rfl ?_
    refine Ev.if_lt (tgt := 27) d_Mk_deal_1 rfl (by first | omega | (simp [mu]; done) | (simp [mu]; omega)) (fun hb1 => by exfalso; first | omega | simp at hb1 | contradiction) (fun hb1 => ?_)
    refine Ev.iload_n d_Mk_deal_4 rfl ?_
    refine Ev.aload_n d_Mk_deal_5 rfl ?_
    refine Ev.gf 4 d_Mk_deal_6 lf_Mk_30 rfl rfl hC.2.1 (by decide) ?_
    rw [h4]
    refine Ev.icmp_ge (tgt := 27) d_Mk_deal_9 rfl (by first | omega | (simp [mu]; done) | (simp [mu]; omega)) (by first | omega | (simp [mu]; done) | (simp [mu]; omega)) (fun hb9 => by exfalso; first | omega | simp at hb9 | contradiction) (fun hb9 => ?_)
    refine Ev.iload_n d_Mk_deal_12 rfl ?_
    refine Ev.bipush d_Mk_deal_13 rfl ?_
    refine Ev.icmp_ge (tgt := 27) d_Mk_deal_15 rfl (by first | omega | (simp [mu]; done) | (simp [mu]; omega)) (by first | omega | (simp [mu]; done) | (simp [mu]; omega)) (fun hb15 => by exfalso; first | omega | simp at hb15 | contradiction) (fun hb15 => ?_)
    refine Ev.iload_n d_Mk_deal_18 rfl ?_
    refine Ev.if_lt (tgt := 27) d_Mk_deal_19 rfl (by first | omega | (simp [mu]; done) | (simp [mu]; omega)) (fun hb19 => by exfalso; first | omega | simp at hb19 | contradiction) (fun hb19 => ?_)
    refine Ev.iload_n d_Mk_deal_22 rfl ?_
    refine Ev.iconst d_Mk_deal_23 ?_
    refine Ev.icmp_lt (tgt := 29) d_Mk_deal_24 rfl (by first | omega | (simp [mu]; done) | (simp [mu]; omega)) (by first | omega | (simp [mu]; done) | (simp [mu]; omega)) (fun hb24 => ?_) (fun hb24 => by exfalso; first | omega | simp at hb24 | contradiction)
    refine Ev.lconst (x := 0) d_Mk_deal_29 rfl ?_
    refine Ev.lstore_4 d_Mk_deal_30 rfl ?_
    refine Ev.lconst (x := 1) d_Mk_deal_32 rfl ?_
    refine Ev.lstore_6 d_Mk_deal_33 rfl ?_
    refine Ev.aload_n d_Mk_deal_35 rfl ?_
    refine Ev.gr 3 d_Mk_deal_36 lf_Mk_21 rfl rfl hC.2.1 (by decide) hC.2.2.2.2.2.2.2.2.2 ?_
    refine Ev.iload_n d_Mk_deal_39 rfl ?_
    refine Ev.iaload d_Mk_deal_40 hC.2.2.2.2.2.1 (by first | omega | (simp [mu]; done) | (simp [mu]; omega)) ?_
    rw [hb]
    refine Ev.istore_8 d_Mk_deal_41 rfl ?_
    refine Ev.iconst d_Mk_deal_43 ?_
    refine Ev.istore_9 d_Mk_deal_44 rfl ?_
    exact lp
theorem c_Mk_dealNext {c : Int} (hC : MkS σ c) {w wn : Int} (hw : -2147483648 ≤ w ∧ w ≤ 2147483647) (hwn : -2147483648 ≤ wn ∧ wn ≤ 2147483647) : ∀ (K : KN) (i : Nat) (m : Mm) (g : Nat), kok K = true → i + K.length ≤ 10 → MkR m c i K w wn → InG m c g → BD g (tot K) → Call (6 * K.length + 1) m_Mk_dealNext [vr c, vi i] σ m (some (vl (dN (lfW w wn) K g : Nat))) σ m
  | [], i, m, g, hk, hi, hR, hG, hB => by
    have h4 := hR.1
    have h5 := hR.2.1
    have h6 := hR.2.2.1
    simp only [List.length_nil] at h4 hi
    simp only [dN]
    show Ev _ m_Mk_dealNext 0 [some (vr c), some (vi i)] [] σ m _ σ m
    by_cases hwb : 0 ≤ w ∧ w < 4
    · have hg := hG w.toNat (by omega)
      rw [Int.toNat_of_nonneg hwb.1] at hg
      have hgb : gtT g w.toNat < 256 := Nat.mod_lt _ (by decide)
      by_cases he : ((gtT g w.toNat : Nat) : Int) = wn
      · have e : lfW w wn g = 1 := if_pos (Or.inr (Or.inr he))
        rw [e]
        refine Ev.iload_n d_Mk_dealNext_0 rfl ?_
        refine Ev.if_lt (tgt := 36) d_Mk_dealNext_1 rfl (by first | omega | (simp [mu]; done) | (simp [mu]; omega)) (fun hb1 => by exfalso; first | omega | simp at hb1 | contradiction) (fun hb1 => ?_)
        refine Ev.iload_n d_Mk_dealNext_4 rfl ?_
        refine Ev.aload_n d_Mk_dealNext_5 rfl ?_
        refine Ev.gf 4 d_Mk_dealNext_6 lf_Mk_30 rfl rfl hC.2.1 (by decide) ?_
        rw [h4]
        refine Ev.icmp_ge (tgt := 36) d_Mk_dealNext_9 rfl (by first | omega | (simp [mu]; done) | (simp [mu]; omega)) (by first | omega | (simp [mu]; done) | (simp [mu]; omega)) (fun hb9 => ?_) (fun hb9 => by exfalso; first | omega | simp at hb9 | contradiction)
        refine Ev.aload_n d_Mk_dealNext_36 rfl ?_
        refine Ev.gf 5 d_Mk_dealNext_37 lf_Mk_34 rfl rfl hC.2.1 (by decide) ?_
        rw [h5]
        refine Ev.if_lt (tgt := 67) d_Mk_dealNext_40 rfl (by first | omega | (simp [mu]; done) | (simp [mu]; omega)) (fun hb40 => by exfalso; first | omega | simp at hb40 | contradiction) (fun hb40 => ?_)
        refine Ev.aload_n d_Mk_dealNext_43 rfl ?_
        refine Ev.gf 5 d_Mk_dealNext_44 lf_Mk_34 rfl rfl hC.2.1 (by decide) ?_
        rw [h5]
        refine Ev.iconst d_Mk_dealNext_47 ?_
        refine Ev.icmp_ge (tgt := 67) d_Mk_dealNext_48 rfl (by first | omega | (simp [mu]; done) | (simp [mu]; omega)) (by first | omega | (simp [mu]; done) | (simp [mu]; omega)) (fun hb48 => by exfalso; first | omega | simp at hb48 | contradiction) (fun hb48 => ?_)
        refine Ev.aload_n d_Mk_dealNext_51 rfl ?_
        refine Ev.gr 3 d_Mk_dealNext_52 lf_Mk_21 rfl rfl hC.2.1 (by decide) hC.2.2.2.2.2.2.2.2.2 ?_
        refine Ev.aload_n d_Mk_dealNext_55 rfl ?_
        refine Ev.gf 5 d_Mk_dealNext_56 lf_Mk_34 rfl rfl hC.2.1 (by decide) ?_
        rw [h5]
        refine Ev.iaload d_Mk_dealNext_59 hC.2.2.2.2.2.1 (by omega) ?_
        rw [hg]
        refine Ev.aload_n d_Mk_dealNext_60 rfl ?_
        refine Ev.gf 6 d_Mk_dealNext_61 lf_Mk_37 rfl rfl hC.2.1 (by decide) ?_
        rw [h6]
        refine Ev.icmp_ne (tgt := 71) d_Mk_dealNext_64 rfl (by first | omega | (simp [mu]; done) | (simp [mu]; omega)) (by first | omega | (simp [mu]; done) | (simp [mu]; omega)) (fun hb64 => by exfalso; first | omega | simp at hb64 | contradiction) (fun hb64 => ?_)
        refine Ev.lconst (x := 1) d_Mk_dealNext_67 rfl ?_
        refine Ev.goto (tgt := 72) d_Mk_dealNext_68 rfl ?_
        exact Ev.to (Ev.lreturn d_Mk_dealNext_72 rfl) rfl rfl
      · have e : lfW w wn g = 0 := if_neg (by omega)
        rw [e]
        refine Ev.iload_n d_Mk_dealNext_0 rfl ?_
        refine Ev.if_lt (tgt := 36) d_Mk_dealNext_1 rfl (by first | omega | (simp [mu]; done) | (simp [mu]; omega)) (fun hb1 => by exfalso; first | omega | simp at hb1 | contradiction) (fun hb1 => ?_)
        refine Ev.iload_n d_Mk_dealNext_4 rfl ?_
        refine Ev.aload_n d_Mk_dealNext_5 rfl ?_
        refine Ev.gf 4 d_Mk_dealNext_6 lf_Mk_30 rfl rfl hC.2.1 (by decide) ?_
        rw [h4]
        refine Ev.icmp_ge (tgt := 36) d_Mk_dealNext_9 rfl (by first | omega | (simp [mu]; done) | (simp [mu]; omega)) (by first | omega | (simp [mu]; done) | (simp [mu]; omega)) (fun hb9 => ?_) (fun hb9 => by exfalso; first | omega | simp at hb9 | contradiction)
        refine Ev.aload_n d_Mk_dealNext_36 rfl ?_
        refine Ev.gf 5 d_Mk_dealNext_37 lf_Mk_34 rfl rfl hC.2.1 (by decide) ?_
        rw [h5]
        refine Ev.if_lt (tgt := 67) d_Mk_dealNext_40 rfl (by first | omega | (simp [mu]; done) | (simp [mu]; omega)) (fun hb40 => by exfalso; first | omega | simp at hb40 | contradiction) (fun hb40 => ?_)
        refine Ev.aload_n d_Mk_dealNext_43 rfl ?_
        refine Ev.gf 5 d_Mk_dealNext_44 lf_Mk_34 rfl rfl hC.2.1 (by decide) ?_
        rw [h5]
        refine Ev.iconst d_Mk_dealNext_47 ?_
        refine Ev.icmp_ge (tgt := 67) d_Mk_dealNext_48 rfl (by first | omega | (simp [mu]; done) | (simp [mu]; omega)) (by first | omega | (simp [mu]; done) | (simp [mu]; omega)) (fun hb48 => by exfalso; first | omega | simp at hb48 | contradiction) (fun hb48 => ?_)
        refine Ev.aload_n d_Mk_dealNext_51 rfl ?_
        refine Ev.gr 3 d_Mk_dealNext_52 lf_Mk_21 rfl rfl hC.2.1 (by decide) hC.2.2.2.2.2.2.2.2.2 ?_
        refine Ev.aload_n d_Mk_dealNext_55 rfl ?_
        refine Ev.gf 5 d_Mk_dealNext_56 lf_Mk_34 rfl rfl hC.2.1 (by decide) ?_
        rw [h5]
        refine Ev.iaload d_Mk_dealNext_59 hC.2.2.2.2.2.1 (by omega) ?_
        rw [hg]
        refine Ev.aload_n d_Mk_dealNext_60 rfl ?_
        refine Ev.gf 6 d_Mk_dealNext_61 lf_Mk_37 rfl rfl hC.2.1 (by decide) ?_
        rw [h6]
        refine Ev.icmp_ne (tgt := 71) d_Mk_dealNext_64 rfl (by first | omega | (simp [mu]; done) | (simp [mu]; omega)) (by first | omega | (simp [mu]; done) | (simp [mu]; omega)) (fun hb64 => ?_) (fun hb64 => by exfalso; first | omega | simp at hb64 | contradiction)
        refine Ev.lconst (x := 0) d_Mk_dealNext_71 rfl ?_
        exact Ev.to (Ev.lreturn d_Mk_dealNext_72 rfl) rfl rfl
    · have e : lfW w wn g = 1 := if_pos (by omega)
      rw [e]
      refine Ev.iload_n d_Mk_dealNext_0 rfl ?_
      refine Ev.if_lt (tgt := 36) d_Mk_dealNext_1 rfl (by first | omega | (simp [mu]; done) | (simp [mu]; omega)) (fun hb1 => by exfalso; first | omega | simp at hb1 | contradiction) (fun hb1 => ?_)
      refine Ev.iload_n d_Mk_dealNext_4 rfl ?_
      refine Ev.aload_n d_Mk_dealNext_5 rfl ?_
      refine Ev.gf 4 d_Mk_dealNext_6 lf_Mk_30 rfl rfl hC.2.1 (by decide) ?_
      rw [h4]
      refine Ev.icmp_ge (tgt := 36) d_Mk_dealNext_9 rfl (by first | omega | (simp [mu]; done) | (simp [mu]; omega)) (by first | omega | (simp [mu]; done) | (simp [mu]; omega)) (fun hb9 => ?_) (fun hb9 => by exfalso; first | omega | simp at hb9 | contradiction)
      refine Ev.aload_n d_Mk_dealNext_36 rfl ?_
      refine Ev.gf 5 d_Mk_dealNext_37 lf_Mk_34 rfl rfl hC.2.1 (by decide) ?_
      rw [h5]
      refine Ev.if_lt (tgt := 67) d_Mk_dealNext_40 rfl (by first | omega | (simp [mu]; done) | (simp [mu]; omega)) (fun hb40 => ?_) (fun hb40 => ?_)
      · refine Ev.lconst (x := 1) d_Mk_dealNext_67 rfl ?_
        refine Ev.goto (tgt := 72) d_Mk_dealNext_68 rfl ?_
        exact Ev.to (Ev.lreturn d_Mk_dealNext_72 rfl) rfl rfl
      · refine Ev.aload_n d_Mk_dealNext_43 rfl ?_
        refine Ev.gf 5 d_Mk_dealNext_44 lf_Mk_34 rfl rfl hC.2.1 (by decide) ?_
        rw [h5]
        refine Ev.iconst d_Mk_dealNext_47 ?_
        refine Ev.icmp_ge (tgt := 67) d_Mk_dealNext_48 rfl (by first | omega | (simp [mu]; done) | (simp [mu]; omega)) (by first | omega | (simp [mu]; done) | (simp [mu]; omega)) (fun hb48 => ?_) (fun hb48 => by exfalso; first | omega | simp at hb48 | contradiction)
        refine Ev.lconst (x := 1) d_Mk_dealNext_67 rfl ?_
        refine Ev.goto (tgt := 72) d_Mk_dealNext_68 rfl ?_
        exact Ev.to (Ev.lreturn d_Mk_dealNext_72 rfl) rfl rfl
  | k :: K, i, m, g, hk, hi, hR, hG, hB => by
    have h4 := hR.1
    simp only [List.length_cons] at h4 hi
    simp only [kok, Bool.and_eq_true, decide_eq_true_eq] at hk
    have hkk := hR.2.2.2.1
    have c1 := c_Mk_deal hC (K := K) (i := i) (k := k) (w := w) (wn := wn) (nx := dN (lfW w wn) K) hk.1 hi (fun m g r1 r2 r3 => by
      have := c_Mk_dealNext hC hw hwn K (i + 1) m g hk.2 (by omega) ⟨by rw [r1.1]; simp only [List.length_cons]; push_cast; omega, r1.2.1, r1.2.2.1, r1.2.2.2.2⟩ r2 r3
      push_cast at this
      exact this) (k.2.1 - k.1) k.1 k.2.2 m g (by omega) hR hG hB
    simp only [dN]
    have e1 := hkk.1
    have e3 := hkk.2.2
    show Ev _ m_Mk_dealNext 0 [some (vr c), some (vi i)] [] σ m _ σ m
    refine Ev.iload_n d_Mk_dealNext_0 rfl ?_
    refine Ev.if_lt (tgt := 36) d_Mk_dealNext_1 rfl (by first | omega | (simp [mu]; done) | (simp [mu]; omega)) (fun hb1 => by exfalso; first | omega | simp at hb1 | contradiction) (fun hb1 => ?_)
    refine Ev.iload_n d_Mk_dealNext_4 rfl ?_
    refine Ev.aload_n d_Mk_dealNext_5 rfl ?_
    refine Ev.gf 4 d_Mk_dealNext_6 lf_Mk_30 rfl rfl hC.2.1 (by decide) ?_
    rw [h4]
    refine Ev.icmp_ge (tgt := 36) d_Mk_dealNext_9 rfl (by first | omega | (simp [mu]; done) | (simp [mu]; omega)) (by first | omega | (simp [mu]; done) | (simp [mu]; omega)) (fun hb9 => by exfalso; first | omega | simp at hb9 | contradiction) (fun hb9 => ?_)
    refine Ev.iload_n d_Mk_dealNext_12 rfl ?_
    refine Ev.bipush d_Mk_dealNext_13 rfl ?_
    refine Ev.icmp_ge (tgt := 36) d_Mk_dealNext_15 rfl (by first | omega | (simp [mu]; done) | (simp [mu]; omega)) (by first | omega | (simp [mu]; done) | (simp [mu]; omega)) (fun hb15 => by exfalso; first | omega | simp at hb15 | contradiction) (fun hb15 => ?_)
    refine Ev.aload_n d_Mk_dealNext_18 rfl ?_
    refine Ev.iload_n d_Mk_dealNext_19 rfl ?_
    refine Ev.aload_n d_Mk_dealNext_20 rfl ?_
    refine Ev.gr 0 d_Mk_dealNext_21 lf_Mk_11 rfl rfl hC.2.1 (by decide) hC.2.2.2.2.2.2.1 ?_
    refine Ev.iload_n d_Mk_dealNext_24 rfl ?_
    refine Ev.iaload d_Mk_dealNext_25 hC.2.2.1 (by first | omega | (simp [mu]; done) | (simp [mu]; omega)) ?_
    rw [e1]
    refine Ev.aload_n d_Mk_dealNext_26 rfl ?_
    refine Ev.gr 2 d_Mk_dealNext_27 lf_Mk_18 rfl rfl hC.2.1 (by decide) hC.2.2.2.2.2.2.2.2.1 ?_
    refine Ev.iload_n d_Mk_dealNext_30 rfl ?_
    refine Ev.iaload d_Mk_dealNext_31 hC.2.2.2.2.1 (by first | omega | (simp [mu]; done) | (simp [mu]; omega)) ?_
    rw [e3]
    refine Ev.callV d_Mk_dealNext_32 mt_Mk_deal lk_Mk_67 in_Mk_deal se_Mk_deal rfl (Nat.le_of_ble_eq_true rfl) rfl (Nat.le_of_ble_eq_true rfl) (by simp only [List.length_cons]; omega) hC.2.1 (by decide) rfl rfl c1 ?_
    exact Ev.to (Ev.lreturn d_Mk_dealNext_35 rfl) rfl rfl
end
