section
variable {σ : Sg} {m : Mm}
/-! draw -/
def dc (H : SHt) (k f i : Int) : Int := H.2.2 k (f + 3 * i)
def drOk (H : SHt) (k f d i : Int) : Prop := 0 ≤ dc H k f i ∧ dc H k f i < H.2.2 k (f + 3 * i + 1) ∧ H.2.2 k (f + 3 * i + 1) < d ∧ 1 ≤ H.2.2 k (f + 3 * i + 2) ∧ H.2.2 k (f + 3 * i + 2) ≤ 4
def drc (H : SHt) (k f d : Int) : Nat → Int → Int
  | 0, _ => 0
  | n + 1, i => if 0 ≤ f + 3 * i ∧ f + 3 * i ≤ H.2.1 k - 3 then (if 0 ≤ H.2.2 k (f + 3 * i) ∧ H.2.2 k (f + 3 * i) < H.2.2 k (f + 3 * i + 1) ∧ H.2.2 k (f + 3 * i + 1) < d ∧ 1 ≤ H.2.2 k (f + 3 * i + 2) ∧ H.2.2 k (f + 3 * i + 2) ≤ 4 then drc H k f d n (i + 1) else -20 - i) else -12
def drl (H : SHt) (k f : Int) : Nat → Int → List Int → List Int
  | 0, _, l => l
  | n + 1, i, l => drl H k f n (i + 1) (ins (spot (H.2.2 k (f + 3 * i)) (H.2.2 k (f + 3 * i + 1)) (H.2.2 k (f + 3 * i + 2))) l)
def drA (k lane d n : Int) : Prop := (0 ≤ k ∧ k ≤ 3) ∧ (0 ≤ lane ∧ lane ≤ 2) ∧ (0 ≤ n ∧ n ≤ 6) ∧ 1 ≤ d ∧ d ≤ 4
def sp_draw (S : PS) (H : SHt) (k lane f d n : Int) : Int := if (0 ≤ k ∧ k ≤ 3) ∧ (0 ≤ lane ∧ lane ≤ 2) ∧ (0 ≤ n ∧ n ≤ 6) ∧ 1 ≤ d ∧ d ≤ 4 then (if H.1 k = lane then (if drc H k f d n.toNat 0 = 0 then (if S.1 = 8 then -3 else S.1) else drc H k f d n.toNat 0) else if H.1 k = -4 then -11 else -13) else -1
def st_draw (S : PS) (H : SHt) (k lane f d n : Int) : PS := if ((0 ≤ k ∧ k ≤ 3) ∧ (0 ≤ lane ∧ lane ≤ 2) ∧ (0 ≤ n ∧ n ≤ 6) ∧ 1 ≤ d ∧ d ≤ 4) ∧ H.1 k = lane ∧ drc H k f d n.toNat 0 = 0 ∧ ¬ S.1 = 8 then st_new S d (drl H k f n.toNat 0 []) else S
theorem drc_neg {H : SHt} {k f d : Int} : ∀ (n : Nat) (i : Int), 0 ≤ i → drc H k f d n i ≤ 0
  | 0, i, _ => by simp [drc]
  | n + 1, i, h => by
    have := drc_neg (H := H) (k := k) (f := f) (d := d) n (i + 1) (by omega)
    simp only [drc]
    split
    · split <;> omega
    · omega
theorem lp1_Mo_draw (hM : MoS σ) {H : SHt} (hH : MH m H) (hK : HK H) {k lane f d n : Int} {r : Option AV} {m' : Mm} (hk : 0 ≤ k ∧ k ≤ 3) (hd : 1 ≤ d ∧ d ≤ 4) (hn : 0 ≤ n ∧ n ≤ 6) (hf : -2147483648 ≤ f ∧ f ≤ 2147483647) : ∀ (q : Nat) (i : Int) (x7 x8 x9 : Option AV), i + q = n → 0 ≤ i → (drc H k f d q i = 0 → ∀ (i : Int) (x7 x8 x9 : Option AV), Ev 4 m_Mo_draw 177 [some (vr 57), some (vi k), some (vi lane), some (vi f), some (vi d), some (vi n), some (vi i), x7, x8, x9] [] σ m r σ m') → (drc H k f d q i ≠ 0 → r = some (vi (drc H k f d q i)) ∧ m' = m) → Ev 4 m_Mo_draw 84 [some (vr 57), some (vi k), some (vi lane), some (vi f), some (vi d), some (vi n), some (vi i), x7, x8, x9] [] σ m r σ m'
  | 0, i, x7, x8, x9, hi, h0, c1, c2 => by
    refine Ev.iload d_Mo_draw_84 rfl ?_
    refine Ev.iload d_Mo_draw_86 rfl ?_
    refine Ev.icmp_ge (tgt := 177) d_Mo_draw_88 rfl (by first | omega | (simp [mu]; done) | (simp [mu]; omega)) (by first | omega | (simp [mu]; done) | (simp [mu]; omega)) (fun hb88 => ?_) (fun hb88 => by exfalso; first | omega | simp at hb88 | contradiction)
    exact c1 rfl _ _ _ _
  | q + 1, i, x7, x8, x9, hi, h0, c1, c2 => by
    obtain ⟨y1, y2, y3⟩ := hH k (by omega) (by omega)
    obtain ⟨z1, z2, z3⟩ := hK k (by omega) (by omega)
    by_cases hw : 0 ≤ f + 3 * i ∧ f + 3 * i ≤ H.2.1 k - 3
    · have w1 := y3 (f + 3 * i) (by omega) (by omega)
      have w2 := y3 (f + 3 * i + 1) (by omega) (by omega)
      have w3 := y3 (f + 3 * i + 2) (by omega) (by omega)
      have v1 := z3 (f + 3 * i) (by omega) (by omega)
      have v2 := z3 (f + 3 * i + 1) (by omega) (by omega)
      have v3 := z3 (f + 3 * i + 2) (by omega) (by omega)
      rw [show 60 * k + (f + 3 * i + 1) = 60 * k + (f + 3 * i) + 1 by omega] at w2
      rw [show 60 * k + (f + 3 * i + 2) = 60 * k + (f + 3 * i) + 2 by omega] at w3
      simp only [drc] at c1 c2
      rw [if_pos hw] at c1 c2
      refine Ev.iload d_Mo_draw_84 rfl ?_
      refine Ev.iload d_Mo_draw_86 rfl ?_
      refine Ev.icmp_ge (tgt := 177) d_Mo_draw_88 rfl (by first | omega | (simp [mu]; done) | (simp [mu]; omega)) (by first | omega | (simp [mu]; done) | (simp [mu]; omega)) (fun hb88 => by exfalso; first | omega | simp at hb88 | contradiction) (fun hb88 => ?_)
      refine Ev.iload_n d_Mo_draw_91 rfl ?_
      refine Ev.i2l d_Mo_draw_92 (by first | omega | (simp [mu]; done) | (simp [mu]; omega)) ?_
      refine Ev.iconst d_Mo_draw_93 ?_
      refine Ev.iload d_Mo_draw_94 rfl ?_
      refine Ev.imul d_Mo_draw_96 ?_
      refine Ev.i2l d_Mo_draw_97 (by first | omega | (simp [mu]; done) | (simp [mu]; omega)) ?_
      refine Ev.ladd d_Mo_draw_98 ?_
      refine Ev.lstore_7 d_Mo_draw_99 rfl ?_
      refine Ev.lload d_Mo_draw_101 rfl ?_
      refine Ev.lconst (x := 0) d_Mo_draw_103 rfl ?_
      refine Ev.aload_n d_Mo_draw_104 rfl ?_
      refine Ev.gr 37 d_Mo_draw_105 lf_Mo_97 rfl rfl (is_57 hM) (by decide) (rf_57_37 hM) ?_
      refine Ev.iload_n d_Mo_draw_108 rfl ?_
      refine Ev.iaload d_Mo_draw_109 (is_86 hM) (by first | omega | (simp [mu]; done) | (simp [mu]; omega)) ?_
      refine Ev.iconst d_Mo_draw_110 ?_
      refine Ev.isub d_Mo_draw_111 ?_
      refine Ev.i2l d_Mo_draw_112 (by first | omega | (simp [mu]; done) | (simp [mu]; omega)) ?_
      refine Ev.callS d_Mo_draw_113 mt_Mo_in lk_Mo_107 st_Mo_in rfl (Nat.le_of_ble_eq_true rfl) rfl (Nat.le_of_ble_eq_true rfl) (by decide) rfl (c_Mo_in (by omega) (by omega) (by omega)) ?_
      refine Ev.if_ne (tgt := 122) d_Mo_draw_116 rfl b01_b (fun hb116 => ?_) (fun hb116 => by exfalso; (first | rw [b01_ne] at hb116 | rw [b01_eq] at hb116); omega)
      rw [b01_ne] at hb116
      refine Ev.bipush d_Mo_draw_122 rfl ?_
      refine Ev.iload_n d_Mo_draw_124 rfl ?_
      refine Ev.imul d_Mo_draw_125 ?_
      refine Ev.lload d_Mo_draw_126 rfl ?_
      refine Ev.l2i d_Mo_draw_128 ?_
      refine Ev.iadd d_Mo_draw_129 ?_
      refine Ev.istore_9 d_Mo_draw_130 rfl ?_
      refine Ev.iload d_Mo_draw_132 rfl ?_
      refine Ev.aload_n d_Mo_draw_134 rfl ?_
      refine Ev.gr 38 d_Mo_draw_135 lf_Mo_100 rfl rfl (is_57 hM) (by decide) (rf_57_38 hM) ?_
      refine Ev.iload d_Mo_draw_138 rfl ?_
      refine Ev.iaload d_Mo_draw_140 (is_87 hM) (by first | omega | (simp [mu]; done) | (simp [mu]; omega)) ?_
      refine Ev.aload_n d_Mo_draw_141 rfl ?_
      refine Ev.gr 38 d_Mo_draw_142 lf_Mo_100 rfl rfl (is_57 hM) (by decide) (rf_57_38 hM) ?_
      refine Ev.iload d_Mo_draw_145 rfl ?_
      refine Ev.iconst d_Mo_draw_147 ?_
      refine Ev.iadd d_Mo_draw_148 ?_
      refine Ev.iaload d_Mo_draw_149 (is_87 hM) (by first | omega | (simp [mu]; done) | (simp [mu]; omega)) ?_
      refine Ev.aload_n d_Mo_draw_150 rfl ?_
      refine Ev.gr 38 d_Mo_draw_151 lf_Mo_100 rfl rfl (is_57 hM) (by decide) (rf_57_38 hM) ?_
      refine Ev.iload d_Mo_draw_154 rfl ?_
      refine Ev.iconst d_Mo_draw_156 ?_
      refine Ev.iadd d_Mo_draw_157 ?_
      refine Ev.iaload d_Mo_draw_158 (is_87 hM) (by first | omega | (simp [mu]; done) | (simp [mu]; omega)) ?_
      refine Ev.callS d_Mo_draw_159 mt_Mo_isStair lk_Mo_121 st_Mo_isStair rfl (Nat.le_of_ble_eq_true rfl) rfl (Nat.le_of_ble_eq_true rfl) (by decide) rfl (c_Mo_isStair (by omega) (by omega) (by omega) (by omega)) ?_
      refine Ev.if_ne (tgt := 171) d_Mo_draw_162 rfl b01_b (fun hb162 => ?_) (fun hb162 => ?_)
      · rw [b01_ne] at hb162
        rw [if_pos (by omega)] at c1 c2
        refine Ev.iinc_6 d_Mo_draw_171 rfl ?_
        refine Ev.goto (tgt := 84) d_Mo_draw_174 rfl ?_
        exact lp1_Mo_draw hM hH hK hk hd hn hf q (i + 1) _ _ _ (by omega) (by omega) c1 c2
      · rw [b01_eq] at hb162
        rw [if_neg (by omega)] at c1 c2
        refine Ev.bipush d_Mo_draw_165 rfl ?_
        refine Ev.iload d_Mo_draw_167 rfl ?_
        refine Ev.isub d_Mo_draw_169 ?_
        exact Ev.to (Ev.ireturn d_Mo_draw_170 rfl) (c2 (by omega)).1.symm (c2 (by omega)).2.symm
    · simp only [drc] at c1 c2
      rw [if_neg hw] at c1 c2
      refine Ev.iload d_Mo_draw_84 rfl ?_
      refine Ev.iload d_Mo_draw_86 rfl ?_
      refine Ev.icmp_ge (tgt := 177) d_Mo_draw_88 rfl (by first | omega | (simp [mu]; done) | (simp [mu]; omega)) (by first | omega | (simp [mu]; done) | (simp [mu]; omega)) (fun hb88 => by exfalso; first | omega | simp at hb88 | contradiction) (fun hb88 => ?_)
      refine Ev.iload_n d_Mo_draw_91 rfl ?_
      refine Ev.i2l d_Mo_draw_92 (by first | omega | (simp [mu]; done) | (simp [mu]; omega)) ?_
      refine Ev.iconst d_Mo_draw_93 ?_
      refine Ev.iload d_Mo_draw_94 rfl ?_
      refine Ev.imul d_Mo_draw_96 ?_
      refine Ev.i2l d_Mo_draw_97 (by first | omega | (simp [mu]; done) | (simp [mu]; omega)) ?_
      refine Ev.ladd d_Mo_draw_98 ?_
      refine Ev.lstore_7 d_Mo_draw_99 rfl ?_
      refine Ev.lload d_Mo_draw_101 rfl ?_
      refine Ev.lconst (x := 0) d_Mo_draw_103 rfl ?_
      refine Ev.aload_n d_Mo_draw_104 rfl ?_
      refine Ev.gr 37 d_Mo_draw_105 lf_Mo_97 rfl rfl (is_57 hM) (by decide) (rf_57_37 hM) ?_
      refine Ev.iload_n d_Mo_draw_108 rfl ?_
      refine Ev.iaload d_Mo_draw_109 (is_86 hM) (by first | omega | (simp [mu]; done) | (simp [mu]; omega)) ?_
      refine Ev.iconst d_Mo_draw_110 ?_
      refine Ev.isub d_Mo_draw_111 ?_
      refine Ev.i2l d_Mo_draw_112 (by first | omega | (simp [mu]; done) | (simp [mu]; omega)) ?_
      refine Ev.callS d_Mo_draw_113 mt_Mo_in lk_Mo_107 st_Mo_in rfl (Nat.le_of_ble_eq_true rfl) rfl (Nat.le_of_ble_eq_true rfl) (by decide) rfl (c_Mo_in (by omega) (by omega) (by omega)) ?_
      refine Ev.if_ne (tgt := 122) d_Mo_draw_116 rfl b01_b (fun hb116 => by exfalso; (first | rw [b01_ne] at hb116 | rw [b01_eq] at hb116); omega) (fun hb116 => ?_)
      rw [b01_eq] at hb116
      refine Ev.bipush d_Mo_draw_119 rfl ?_
      exact Ev.to (Ev.ireturn d_Mo_draw_121 rfl) (c2 (by omega)).1.symm (c2 (by omega)).2.symm
theorem drl_PK {H : SHt} {k f d : Int} : ∀ (q : Nat) (i : Int) (l : List Int), PK d l → l.length + q ≤ 6 → drc H k f d q i = 0 → 0 ≤ i → PK d (drl H k f q i l)
  | 0, i, l, h, _, _, _ => h
  | q + 1, i, l, h, h6, hc, h0 => by
    simp only [drc] at hc
    split at hc
    · split at hc
      next h2 => exact drl_PK q (i + 1) _ (ins_PK h h2 (by omega)) (by rw [ins_len]; omega) hc (by omega)
      · omega
    · omega
theorem lp2_Mo_draw (hM : MoS σ) {S : PS} {H : SHt} (hK : HK H) {k lane f d n : Int} {x8 x9 : Option AV} (hk : 0 ≤ k ∧ k ≤ 3) (hd : 1 ≤ d ∧ d ≤ 4) (hn : 0 ≤ n ∧ n ≤ 6) (hf : -2147483648 ≤ f ∧ f ≤ 2147483647) (h8 : 0 ≤ S.1 ∧ S.1 < 8) : ∀ (q : Nat) (i : Int) (l : List Int) (m : Mm) (x7 : Option AV), i + q = n → 0 ≤ i → m 57 0 = S.1 → MH m H → PK d l → l.length + q ≤ 6 → m 59 S.1 = l.length → At m (6 * S.1) l → drc H k f d q i = 0 → ∃ m', Ev 4 m_Mo_draw 213 [some (vr 57), some (vi k), some (vi lane), some (vi f), some (vi d), some (vi n), some (vi i), x7, x8, x9] [] σ m (some (vi S.1)) σ m' ∧ m' 57 0 = S.1 + 1 ∧ m' 59 S.1 = (drl H k f q i l).length ∧ At m' (6 * S.1) (drl H k f q i l) ∧ (∀ a i : Int, ¬ (a = 57 ∧ i = 0) → a ≠ 59 → a ≠ 60 → a ≠ 61 → a ≠ 62 → m' a i = m a i) ∧ (∀ q : Int, q ≠ S.1 → m' 59 q = m 59 q) ∧ ∀ a j : Int, a = 60 ∨ a = 61 ∨ a = 62 → (j < 6 * S.1 ∨ 6 * S.1 + 6 ≤ j) → m' a j = m a j
  | 0, i, l, m, x7, hi, h0, hnp, hH, hP, h6, hl, hA, hc => by
    refine ⟨mu m 57 0 (S.1 + 1), ?_, mu_s, by rw [mu_a (by decide)]; exact hl, At_eq (fun j _ _ => ⟨mu_a (by decide), mu_a (by decide), mu_a (by decide)⟩) hA, fun a i z _ _ _ _ => if_neg z, fun q _ => mu_a (by decide), fun a j ha _ => mu_a (by omega)⟩
    refine Ev.iload d_Mo_draw_213 rfl ?_
    refine Ev.iload d_Mo_draw_215 rfl ?_
    refine Ev.icmp_ge (tgt := 272) d_Mo_draw_217 rfl (by first | omega | (simp [mu]; done) | (simp [mu]; omega)) (by first | omega | (simp [mu]; done) | (simp [mu]; omega)) (fun hb217 => ?_) (fun hb217 => by exfalso; first | omega | simp at hb217 | contradiction)
    refine Ev.aload_n d_Mo_draw_272 rfl ?_
    refine Ev.dup d_Mo_draw_273 rfl ?_
    refine Ev.gf 0 d_Mo_draw_274 lf_Mo_103 rfl rfl (is_57 hM) (by decide) ?_
    refine Ev.iconst d_Mo_draw_277 ?_
    refine Ev.iadd d_Mo_draw_278 ?_
    refine Ev.pf 0 d_Mo_draw_279 lf_Mo_103 rfl rfl rfl rfl (is_57 hM) (by decide) ?_
    refine Ev.aload_n d_Mo_draw_282 rfl ?_
    refine Ev.gf 0 d_Mo_draw_283 lf_Mo_103 rfl rfl (is_57 hM) (by decide) ?_
    refine Ev.iconst d_Mo_draw_286 ?_
    refine Ev.isub d_Mo_draw_287 ?_
    exact Ev.to (Ev.ireturn d_Mo_draw_288 rfl) (ri (by rw [mu_s, hnp]; omega)) (by rw [hnp])
  | q + 1, i, l, m, x7, hi, h0, hnp, hH, hP, h6, hl, hA, hc => by
    obtain ⟨y1, y2, y3⟩ := hH k (by omega) (by omega)
    obtain ⟨z1, z2, z3⟩ := hK k (by omega) (by omega)
    simp only [drc] at hc
    split at hc
    next hw =>
      split at hc
      next hs =>
        have w1 := y3 (f + 3 * i) (by omega) (by omega)
        have w2 := y3 (f + 3 * i + 1) (by omega) (by omega)
        have w3 := y3 (f + 3 * i + 2) (by omega) (by omega)
        rw [show 60 * k + (f + 3 * i) = 60 * k + f + 3 * i by omega] at w1
        rw [show 60 * k + (f + 3 * i + 1) = 60 * k + f + 3 * i + 1 by omega] at w2
        rw [show 60 * k + (f + 3 * i + 2) = 60 * k + f + 3 * i + 2 by omega] at w3
        obtain ⟨m1, q1, q2, q3, q4⟩ := c_Mo_put hM (p := S.1) (d := d) (by omega) hl hA hP (by omega) hs
        obtain ⟨m', r1, r2, r3, r4, r5, r6, r7⟩ := lp2_Mo_draw hM (lane := lane) (x8 := x8) (x9 := x9) hK hk hd hn hf h8 q (i + 1) _ m1 (some (vi (60 * k + f + 3 * i))) (by omega) (by omega) (by rw [q4.1 57 0 (by decide) (by decide) (by decide) (by decide)]; exact hnp) (fun z hz1 hz2 => by
          obtain ⟨u1, u2, u3⟩ := hH z hz1 hz2
          exact ⟨by rw [q4.1 85 z (by decide) (by decide) (by decide) (by decide)]; exact u1, by rw [q4.1 86 z (by decide) (by decide) (by decide) (by decide)]; exact u2, fun j hj1 hj2 => by rw [q4.1 87 _ (by decide) (by decide) (by decide) (by decide)]; exact u3 j hj1 hj2⟩) (ins_PK hP hs (by omega)) (by rw [ins_len]; omega) (by rw [q3, ins_len]; omega) q2 hc
        refine ⟨m', ?_, r2, r3, r4, fun a i z0 z1 z2 z3 z4 => (r5 a i z0 z1 z2 z3 z4).trans (q4.1 a i z1 z2 z3 z4), fun q hq => (r6 q hq).trans (q4.2.1 q hq), fun a j ha hj => (r7 a j ha hj).trans (q4.2.2 a j ha hj)⟩
        refine Ev.iload d_Mo_draw_213 rfl ?_
        refine Ev.iload d_Mo_draw_215 rfl ?_
        refine Ev.icmp_ge (tgt := 272) d_Mo_draw_217 rfl (by first | omega | (simp [mu]; done) | (simp [mu]; omega)) (by first | omega | (simp [mu]; done) | (simp [mu]; omega)) (fun hb217 => by exfalso; first | omega | simp at hb217 | contradiction) (fun hb217 => ?_)
        refine Ev.bipush d_Mo_draw_220 rfl ?_
        refine Ev.iload_n d_Mo_draw_222 rfl ?_
        refine Ev.imul d_Mo_draw_223 ?_
        refine Ev.iload_n d_Mo_draw_224 rfl ?_
        refine Ev.iadd d_Mo_draw_225 ?_
        refine Ev.iconst d_Mo_draw_226 ?_
        refine Ev.iload d_Mo_draw_227 rfl ?_
        refine Ev.imul d_Mo_draw_229 ?_
        refine Ev.iadd d_Mo_draw_230 ?_
        refine Ev.istore_7 d_Mo_draw_231 rfl ?_
        refine Ev.aload_n d_Mo_draw_233 rfl ?_
        refine Ev.aload_n d_Mo_draw_234 rfl ?_
        refine Ev.gf 0 d_Mo_draw_235 lf_Mo_103 rfl rfl (is_57 hM) (by decide) ?_
        refine Ev.aload_n d_Mo_draw_238 rfl ?_
        refine Ev.gr 38 d_Mo_draw_239 lf_Mo_100 rfl rfl (is_57 hM) (by decide) (rf_57_38 hM) ?_
        refine Ev.iload d_Mo_draw_242 rfl ?_
        refine Ev.iaload d_Mo_draw_244 (is_87 hM) (by first | omega | (simp [mu]; done) | (simp [mu]; omega)) ?_
        refine Ev.aload_n d_Mo_draw_245 rfl ?_
        refine Ev.gr 38 d_Mo_draw_246 lf_Mo_100 rfl rfl (is_57 hM) (by decide) (rf_57_38 hM) ?_
        refine Ev.iload d_Mo_draw_249 rfl ?_
        refine Ev.iconst d_Mo_draw_251 ?_
        refine Ev.iadd d_Mo_draw_252 ?_
        refine Ev.iaload d_Mo_draw_253 (is_87 hM) (by first | omega | (simp [mu]; done) | (simp [mu]; omega)) ?_
        refine Ev.aload_n d_Mo_draw_254 rfl ?_
        refine Ev.gr 38 d_Mo_draw_255 lf_Mo_100 rfl rfl (is_57 hM) (by decide) (rf_57_38 hM) ?_
        refine Ev.iload d_Mo_draw_258 rfl ?_
        refine Ev.iconst d_Mo_draw_260 ?_
        refine Ev.iadd d_Mo_draw_261 ?_
        refine Ev.iaload d_Mo_draw_262 (is_87 hM) (by first | omega | (simp [mu]; done) | (simp [mu]; omega)) ?_
        rw [w1, w2, w3, hnp]
        refine Ev.callVv d_Mo_draw_263 mt_Mo_put lk_Mo_124 in_Mo_put se_Mo_put rfl (Nat.le_of_ble_eq_true rfl) rfl (Nat.le_of_ble_eq_true rfl) (by decide) (is_57 hM) (by decide) rfl rfl q1 ?_
        refine Ev.iinc_6 d_Mo_draw_266 rfl ?_
        refine Ev.goto (tgt := 213) d_Mo_draw_269 rfl ?_
        exact r1
      next => omega
    next => omega
theorem c_Mo_draw (hM : MoS σ) {S : PS} (hS : MS m S) {H : SHt} (hH : MH m H) (hK : HK H) {k lane f d n : Int} (h1 : -2147483648 ≤ k ∧ k ≤ 2147483647) (h2 : -2147483648 ≤ lane ∧ lane ≤ 2147483647) (h3 : -2147483648 ≤ f ∧ f ≤ 2147483647) (h4 : -2147483648 ≤ d ∧ d ≤ 2147483647) (h5 : -2147483648 ≤ n ∧ n ≤ 2147483647) : ∃ m', Call 4 m_Mo_draw [vr 57, vi k, vi lane, vi f, vi d, vi n] σ m (some (vi (sp_draw S H k lane f d n))) σ m' ∧ MS m' (st_draw S H k lane f d n) ∧ FrM m m' := by
  have hS1 := hS.1
  have hS2 := hS.2.1
  by_cases hk : (0 ≤ k ∧ k ≤ 3) ∧ (0 ≤ lane ∧ lane ≤ 2) ∧ (0 ≤ n ∧ n ≤ 6) ∧ 1 ≤ d ∧ d ≤ 4
  · obtain ⟨y1, y2, y3⟩ := hH k (by omega) (by omega)
    obtain ⟨z1, z2, z3⟩ := hK k (by omega) (by omega)
    by_cases hl : H.1 k = lane
    · by_cases hc : drc H k f d n.toNat 0 = 0
      · by_cases h8 : S.1 = 8
        · refine ⟨m, ?_, by rw [st_draw, if_neg (fun q => q.2.2.2 h8)]; exact hS, FrM.rf⟩
          rw [sp_draw, if_pos hk, if_pos hl, if_pos hc, if_pos h8]
          show Ev 4 m_Mo_draw 0 [some (vr 57), some (vi k), some (vi lane), some (vi f), some (vi d), some (vi n), none, none, none, none] [] σ m _ σ _
          refine Ev.iload_n d_Mo_draw_0 rfl ?_
          refine Ev.i2l d_Mo_draw_1 (by first | omega | (simp [mu]; done) | (simp [mu]; omega)) ?_
          refine Ev.lconst (x := 0) d_Mo_draw_2 rfl ?_
          refine Ev.ldc2 (x := 3) d_Mo_draw_3 kl_Mo_295 ?_
          refine Ev.callS d_Mo_draw_6 mt_Mo_in lk_Mo_107 st_Mo_in rfl (Nat.le_of_ble_eq_true rfl) rfl (Nat.le_of_ble_eq_true rfl) (by decide) rfl (c_Mo_in (by omega) (by omega) (by omega)) ?_
          refine Ev.if_eq (tgt := 50) d_Mo_draw_9 rfl b01_b (fun hb9 => by exfalso; (first | rw [b01_ne] at hb9 | rw [b01_eq] at hb9); omega) (fun hb9 => ?_)
          rw [b01_ne] at hb9
          refine Ev.iload_n d_Mo_draw_12 rfl ?_
          refine Ev.i2l d_Mo_draw_13 (by first | omega | (simp [mu]; done) | (simp [mu]; omega)) ?_
          refine Ev.lconst (x := 0) d_Mo_draw_14 rfl ?_
          refine Ev.ldc2 (x := 2) d_Mo_draw_15 kl_Mo_150 ?_
          refine Ev.callS d_Mo_draw_18 mt_Mo_in lk_Mo_107 st_Mo_in rfl (Nat.le_of_ble_eq_true rfl) rfl (Nat.le_of_ble_eq_true rfl) (by decide) rfl (c_Mo_in (by omega) (by omega) (by omega)) ?_
          refine Ev.if_eq (tgt := 50) d_Mo_draw_21 rfl b01_b (fun hb21 => by exfalso; (first | rw [b01_ne] at hb21 | rw [b01_eq] at hb21); omega) (fun hb21 => ?_)
          rw [b01_ne] at hb21
          refine Ev.iload d_Mo_draw_24 rfl ?_
          refine Ev.i2l d_Mo_draw_26 (by first | omega | (simp [mu]; done) | (simp [mu]; omega)) ?_
          refine Ev.lconst (x := 0) d_Mo_draw_27 rfl ?_
          refine Ev.ldc2 (x := 6) d_Mo_draw_28 kl_Mo_132 ?_
          refine Ev.callS d_Mo_draw_31 mt_Mo_in lk_Mo_107 st_Mo_in rfl (Nat.le_of_ble_eq_true rfl) rfl (Nat.le_of_ble_eq_true rfl) (by decide) rfl (c_Mo_in (by omega) (by omega) (by omega)) ?_
          refine Ev.if_eq (tgt := 50) d_Mo_draw_34 rfl b01_b (fun hb34 => by exfalso; (first | rw [b01_ne] at hb34 | rw [b01_eq] at hb34); omega) (fun hb34 => ?_)
          rw [b01_ne] at hb34
          refine Ev.iload d_Mo_draw_37 rfl ?_
          refine Ev.i2l d_Mo_draw_39 (by first | omega | (simp [mu]; done) | (simp [mu]; omega)) ?_
          refine Ev.lconst (x := 1) d_Mo_draw_40 rfl ?_
          refine Ev.ldc2 (x := 4) d_Mo_draw_41 kl_Mo_111 ?_
          refine Ev.callS d_Mo_draw_44 mt_Mo_in lk_Mo_107 st_Mo_in rfl (Nat.le_of_ble_eq_true rfl) rfl (Nat.le_of_ble_eq_true rfl) (by decide) rfl (c_Mo_in (by omega) (by omega) (by omega)) ?_
          refine Ev.if_ne (tgt := 52) d_Mo_draw_47 rfl b01_b (fun hb47 => ?_) (fun hb47 => by exfalso; (first | rw [b01_ne] at hb47 | rw [b01_eq] at hb47); omega)
          rw [b01_ne] at hb47
          refine Ev.aload_n d_Mo_draw_52 rfl ?_
          refine Ev.gr 36 d_Mo_draw_53 lf_Mo_94 rfl rfl (is_57 hM) (by decide) (rf_57_36 hM) ?_
          refine Ev.iload_n d_Mo_draw_56 rfl ?_
          refine Ev.iaload d_Mo_draw_57 (is_85 hM) (by first | omega | (simp [mu]; done) | (simp [mu]; omega)) ?_
          refine Ev.iload_n d_Mo_draw_58 rfl ?_
          refine Ev.icmp_eq (tgt := 81) d_Mo_draw_59 rfl (by first | omega | (simp [mu]; done) | (simp [mu]; omega)) (by first | omega | (simp [mu]; done) | (simp [mu]; omega)) (fun hb59 => ?_) (fun hb59 => by exfalso; first | omega | simp at hb59 | contradiction)
          refine Ev.iconst d_Mo_draw_81 ?_
          refine Ev.istore_6 d_Mo_draw_82 rfl ?_
          refine lp1_Mo_draw hM hH hK hk.1 (by omega) (by omega) h3 n.toNat 0 _ _ _ (by omega) (by omega) (fun _ i x7 x8 x9 => ?_) (fun z => absurd hc z)
          refine Ev.aload_n d_Mo_draw_177 rfl ?_
          refine Ev.gf 0 d_Mo_draw_178 lf_Mo_103 rfl rfl (is_57 hM) (by decide) ?_
          refine Ev.bipush d_Mo_draw_181 rfl ?_
          refine Ev.icmp_ne (tgt := 189) d_Mo_draw_183 rfl (by first | omega | (simp [mu]; done) | (simp [mu]; omega)) (by first | omega | (simp [mu]; done) | (simp [mu]; omega)) (fun hb183 => by exfalso; first | omega | simp at hb183 | contradiction) (fun hb183 => ?_)
          refine Ev.bipush d_Mo_draw_186 rfl ?_
          exact Ev.to (Ev.ireturn d_Mo_draw_188 rfl) rfl rfl
        · obtain ⟨m', r1, r2, r3, r4, r5, r6, r7⟩ := lp2_Mo_draw hM (S := S) (H := H) (lane := lane) (x8 := none) (x9 := none) hK hk.1 (d := d) (n := n) (f := f) (by omega) (by omega) h3 (by omega) n.toNat 0 [] (mu (mu m 58 S.1 d) 59 S.1 0) none (by omega) (by omega) (by simp [mu, hS2]) (fun z hz1 hz2 => by
            obtain ⟨u1, u2, u3⟩ := hH z hz1 hz2
            exact ⟨by simp [mu, u1], by simp [mu, u2], fun j hj1 hj2 => by simp [mu]; exact u3 j hj1 hj2⟩) ⟨by omega, by simp, by simp, by simp⟩ (by simp; omega) mu_s trivial hc
          refine ⟨m', ?_, ?_, fun a i z1 z2 => ?_⟩
          · rw [sp_draw, if_pos hk, if_pos hl, if_pos hc, if_neg h8]
            show Ev 4 m_Mo_draw 0 [some (vr 57), some (vi k), some (vi lane), some (vi f), some (vi d), some (vi n), none, none, none, none] [] σ m _ σ _
            refine Ev.iload_n d_Mo_draw_0 rfl ?_
            refine Ev.i2l d_Mo_draw_1 (by first | omega | (simp [mu]; done) | (simp [mu]; omega)) ?_
            refine Ev.lconst (x := 0) d_Mo_draw_2 rfl ?_
            refine Ev.ldc2 (x := 3) d_Mo_draw_3 kl_Mo_295 ?_
            refine Ev.callS d_Mo_draw_6 mt_Mo_in lk_Mo_107 st_Mo_in rfl (Nat.le_of_ble_eq_true rfl) rfl (Nat.le_of_ble_eq_true rfl) (by decide) rfl (c_Mo_in (by omega) (by omega) (by omega)) ?_
            refine Ev.if_eq (tgt := 50) d_Mo_draw_9 rfl b01_b (fun hb9 => by exfalso; (first | rw [b01_ne] at hb9 | rw [b01_eq] at hb9); omega) (fun hb9 => ?_)
            rw [b01_ne] at hb9
            refine Ev.iload_n d_Mo_draw_12 rfl ?_
            refine Ev.i2l d_Mo_draw_13 (by first | omega | (simp [mu]; done) | (simp [mu]; omega)) ?_
            refine Ev.lconst (x := 0) d_Mo_draw_14 rfl ?_
            refine Ev.ldc2 (x := 2) d_Mo_draw_15 kl_Mo_150 ?_
            refine Ev.callS d_Mo_draw_18 mt_Mo_in lk_Mo_107 st_Mo_in rfl (Nat.le_of_ble_eq_true rfl) rfl (Nat.le_of_ble_eq_true rfl) (by decide) rfl (c_Mo_in (by omega) (by omega) (by omega)) ?_
            refine Ev.if_eq (tgt := 50) d_Mo_draw_21 rfl b01_b (fun hb21 => by exfalso; (first | rw [b01_ne] at hb21 | rw [b01_eq] at hb21); omega) (fun hb21 => ?_)
            rw [b01_ne] at hb21
            refine Ev.iload d_Mo_draw_24 rfl ?_
            refine Ev.i2l d_Mo_draw_26 (by first | omega | (simp [mu]; done) | (simp [mu]; omega)) ?_
            refine Ev.lconst (x := 0) d_Mo_draw_27 rfl ?_
            refine Ev.ldc2 (x := 6) d_Mo_draw_28 kl_Mo_132 ?_
            refine Ev.callS d_Mo_draw_31 mt_Mo_in lk_Mo_107 st_Mo_in rfl (Nat.le_of_ble_eq_true rfl) rfl (Nat.le_of_ble_eq_true rfl) (by decide) rfl (c_Mo_in (by omega) (by omega) (by omega)) ?_
            refine Ev.if_eq (tgt := 50) d_Mo_draw_34 rfl b01_b (fun hb34 => by exfalso; (first | rw [b01_ne] at hb34 | rw [b01_eq] at hb34); omega) (fun hb34 => ?_)
            rw [b01_ne] at hb34
            refine Ev.iload d_Mo_draw_37 rfl ?_
            refine Ev.i2l d_Mo_draw_39 (by first | omega | (simp [mu]; done) | (simp [mu]; omega)) ?_
            refine Ev.lconst (x := 1) d_Mo_draw_40 rfl ?_
            refine Ev.ldc2 (x := 4) d_Mo_draw_41 kl_Mo_111 ?_
            refine Ev.callS d_Mo_draw_44 mt_Mo_in lk_Mo_107 st_Mo_in rfl (Nat.le_of_ble_eq_true rfl) rfl (Nat.le_of_ble_eq_true rfl) (by decide) rfl (c_Mo_in (by omega) (by omega) (by omega)) ?_
            refine Ev.if_ne (tgt := 52) d_Mo_draw_47 rfl b01_b (fun hb47 => ?_) (fun hb47 => by exfalso; (first | rw [b01_ne] at hb47 | rw [b01_eq] at hb47); omega)
            rw [b01_ne] at hb47
            refine Ev.aload_n d_Mo_draw_52 rfl ?_
            refine Ev.gr 36 d_Mo_draw_53 lf_Mo_94 rfl rfl (is_57 hM) (by decide) (rf_57_36 hM) ?_
            refine Ev.iload_n d_Mo_draw_56 rfl ?_
            refine Ev.iaload d_Mo_draw_57 (is_85 hM) (by first | omega | (simp [mu]; done) | (simp [mu]; omega)) ?_
            refine Ev.iload_n d_Mo_draw_58 rfl ?_
            refine Ev.icmp_eq (tgt := 81) d_Mo_draw_59 rfl (by first | omega | (simp [mu]; done) | (simp [mu]; omega)) (by first | omega | (simp [mu]; done) | (simp [mu]; omega)) (fun hb59 => ?_) (fun hb59 => by exfalso; first | omega | simp at hb59 | contradiction)
            refine Ev.iconst d_Mo_draw_81 ?_
            refine Ev.istore_6 d_Mo_draw_82 rfl ?_
            refine lp1_Mo_draw hM hH hK hk.1 (by omega) (by omega) h3 n.toNat 0 _ _ _ (by omega) (by omega) (fun _ i x7 x8 x9 => ?_) (fun z => absurd hc z)
            refine Ev.aload_n d_Mo_draw_177 rfl ?_
            refine Ev.gf 0 d_Mo_draw_178 lf_Mo_103 rfl rfl (is_57 hM) (by decide) ?_
            refine Ev.bipush d_Mo_draw_181 rfl ?_
            refine Ev.icmp_ne (tgt := 189) d_Mo_draw_183 rfl (by first | omega | (simp [mu]; done) | (simp [mu]; omega)) (by first | omega | (simp [mu]; done) | (simp [mu]; omega)) (fun hb183 => ?_) (fun hb183 => by exfalso; first | omega | simp at hb183 | contradiction)
            refine Ev.aload_n d_Mo_draw_189 rfl ?_
            refine Ev.gr 1 d_Mo_draw_190 lf_Mo_7 rfl rfl (is_57 hM) (by decide) (rf_57_1 hM) ?_
            refine Ev.aload_n d_Mo_draw_193 rfl ?_
            refine Ev.gf 0 d_Mo_draw_194 lf_Mo_103 rfl rfl (is_57 hM) (by decide) ?_
            refine Ev.iload d_Mo_draw_197 rfl ?_
            refine Ev.iastore d_Mo_draw_199 (is_58 hM) (by decide) (by first | omega | (simp [mu]; done) | (simp [mu]; omega)) ?_
            refine Ev.aload_n d_Mo_draw_200 rfl ?_
            refine Ev.gr 2 d_Mo_draw_201 lf_Mo_13 rfl rfl (is_57 hM) (by decide) (rf_57_2 hM) ?_
            refine Ev.aload_n d_Mo_draw_204 rfl ?_
            refine Ev.gf 0 d_Mo_draw_205 lf_Mo_103 rfl rfl (is_57 hM) (by decide) ?_
            refine Ev.iconst d_Mo_draw_208 ?_
            refine Ev.iastore d_Mo_draw_209 (is_59 hM) (by decide) (by first | omega | (simp [mu]; done) | (simp [mu]; omega)) ?_
            refine Ev.iconst d_Mo_draw_210 ?_
            refine Ev.istore_6 d_Mo_draw_211 rfl ?_
            refine Ev.forget 7 ?_
            refine Ev.forget 8 ?_
            refine Ev.forget 9 ?_
            rw [show mu m 58 (m 57 0) d 57 0 = m 57 0 from mu_a (by decide), hS2]
            exact r1
          · rw [st_draw, if_pos ⟨hk, hl, hc, h8⟩]
            refine MS_new hS (by omega) ⟨?_, r3, r4⟩ (drl_PK n.toNat 0 [] ⟨by omega, by simp, by simp, by simp⟩ (by simp; omega) hc (by omega)) r2 (fun q hq => ⟨?_, ?_⟩) (fun a j ha hj => ?_)
            · rw [r5 58 S.1 (by simp) (by decide) (by decide) (by decide) (by decide), mu_a (by decide), mu_s]
            · rw [r5 58 q (by simp) (by decide) (by decide) (by decide) (by decide), mu_a (by decide), mu_n (Or.inr hq)]
            · rw [r6 q hq, mu_n (Or.inr hq), mu_a (by decide)]
            · rw [r7 a j ha (by omega), mu_a (by omega), mu_a (by omega)]
          · rw [r5 a i z1 (by omega) (by omega) (by omega) (by omega), mu_a (by omega), mu_a (by omega)]
      · refine ⟨m, ?_, by rw [st_draw, if_neg (fun q => hc q.2.2.1)]; exact hS, FrM.rf⟩
        rw [sp_draw, if_pos hk, if_pos hl, if_neg hc]
        show Ev 4 m_Mo_draw 0 [some (vr 57), some (vi k), some (vi lane), some (vi f), some (vi d), some (vi n), none, none, none, none] [] σ m _ σ _
        refine Ev.iload_n d_Mo_draw_0 rfl ?_
        refine Ev.i2l d_Mo_draw_1 (by first | omega | (simp [mu]; done) | (simp [mu]; omega)) ?_
        refine Ev.lconst (x := 0) d_Mo_draw_2 rfl ?_
        refine Ev.ldc2 (x := 3) d_Mo_draw_3 kl_Mo_295 ?_
        refine Ev.callS d_Mo_draw_6 mt_Mo_in lk_Mo_107 st_Mo_in rfl (Nat.le_of_ble_eq_true rfl) rfl (Nat.le_of_ble_eq_true rfl) (by decide) rfl (c_Mo_in (by omega) (by omega) (by omega)) ?_
        refine Ev.if_eq (tgt := 50) d_Mo_draw_9 rfl b01_b (fun hb9 => by exfalso; (first | rw [b01_ne] at hb9 | rw [b01_eq] at hb9); omega) (fun hb9 => ?_)
        rw [b01_ne] at hb9
        refine Ev.iload_n d_Mo_draw_12 rfl ?_
        refine Ev.i2l d_Mo_draw_13 (by first | omega | (simp [mu]; done) | (simp [mu]; omega)) ?_
        refine Ev.lconst (x := 0) d_Mo_draw_14 rfl ?_
        refine Ev.ldc2 (x := 2) d_Mo_draw_15 kl_Mo_150 ?_
        refine Ev.callS d_Mo_draw_18 mt_Mo_in lk_Mo_107 st_Mo_in rfl (Nat.le_of_ble_eq_true rfl) rfl (Nat.le_of_ble_eq_true rfl) (by decide) rfl (c_Mo_in (by omega) (by omega) (by omega)) ?_
        refine Ev.if_eq (tgt := 50) d_Mo_draw_21 rfl b01_b (fun hb21 => by exfalso; (first | rw [b01_ne] at hb21 | rw [b01_eq] at hb21); omega) (fun hb21 => ?_)
        rw [b01_ne] at hb21
        refine Ev.iload d_Mo_draw_24 rfl ?_
        refine Ev.i2l d_Mo_draw_26 (by first | omega | (simp [mu]; done) | (simp [mu]; omega)) ?_
        refine Ev.lconst (x := 0) d_Mo_draw_27 rfl ?_
        refine Ev.ldc2 (x := 6) d_Mo_draw_28 kl_Mo_132 ?_
        refine Ev.callS d_Mo_draw_31 mt_Mo_in lk_Mo_107 st_Mo_in rfl (Nat.le_of_ble_eq_true rfl) rfl (Nat.le_of_ble_eq_true rfl) (by decide) rfl (c_Mo_in (by omega) (by omega) (by omega)) ?_
        refine Ev.if_eq (tgt := 50) d_Mo_draw_34 rfl b01_b (fun hb34 => by exfalso; (first | rw [b01_ne] at hb34 | rw [b01_eq] at hb34); omega) (fun hb34 => ?_)
        rw [b01_ne] at hb34
        refine Ev.iload d_Mo_draw_37 rfl ?_
        refine Ev.i2l d_Mo_draw_39 (by first | omega | (simp [mu]; done) | (simp [mu]; omega)) ?_
        refine Ev.lconst (x := 1) d_Mo_draw_40 rfl ?_
        refine Ev.ldc2 (x := 4) d_Mo_draw_41 kl_Mo_111 ?_
        refine Ev.callS d_Mo_draw_44 mt_Mo_in lk_Mo_107 st_Mo_in rfl (Nat.le_of_ble_eq_true rfl) rfl (Nat.le_of_ble_eq_true rfl) (by decide) rfl (c_Mo_in (by omega) (by omega) (by omega)) ?_
        refine Ev.if_ne (tgt := 52) d_Mo_draw_47 rfl b01_b (fun hb47 => ?_) (fun hb47 => by exfalso; (first | rw [b01_ne] at hb47 | rw [b01_eq] at hb47); omega)
        rw [b01_ne] at hb47
        refine Ev.aload_n d_Mo_draw_52 rfl ?_
        refine Ev.gr 36 d_Mo_draw_53 lf_Mo_94 rfl rfl (is_57 hM) (by decide) (rf_57_36 hM) ?_
        refine Ev.iload_n d_Mo_draw_56 rfl ?_
        refine Ev.iaload d_Mo_draw_57 (is_85 hM) (by first | omega | (simp [mu]; done) | (simp [mu]; omega)) ?_
        refine Ev.iload_n d_Mo_draw_58 rfl ?_
        refine Ev.icmp_eq (tgt := 81) d_Mo_draw_59 rfl (by first | omega | (simp [mu]; done) | (simp [mu]; omega)) (by first | omega | (simp [mu]; done) | (simp [mu]; omega)) (fun hb59 => ?_) (fun hb59 => by exfalso; first | omega | simp at hb59 | contradiction)
        refine Ev.iconst d_Mo_draw_81 ?_
        refine Ev.istore_6 d_Mo_draw_82 rfl ?_
        exact lp1_Mo_draw hM hH hK hk.1 (by omega) (by omega) h3 n.toNat 0 _ _ _ (by omega) (by omega) (fun z => absurd z hc) (fun _ => ⟨rfl, rfl⟩)
    · refine ⟨m, ?_, by rw [st_draw, if_neg (fun q => hl q.2.1)]; exact hS, FrM.rf⟩
      rw [sp_draw, if_pos hk, if_neg hl]
      show Ev 4 m_Mo_draw 0 [some (vr 57), some (vi k), some (vi lane), some (vi f), some (vi d), some (vi n), none, none, none, none] [] σ m _ σ _
      refine Ev.iload_n d_Mo_draw_0 rfl ?_
      refine Ev.i2l d_Mo_draw_1 (by first | omega | (simp [mu]; done) | (simp [mu]; omega)) ?_
      refine Ev.lconst (x := 0) d_Mo_draw_2 rfl ?_
      refine Ev.ldc2 (x := 3) d_Mo_draw_3 kl_Mo_295 ?_
      refine Ev.callS d_Mo_draw_6 mt_Mo_in lk_Mo_107 st_Mo_in rfl (Nat.le_of_ble_eq_true rfl) rfl (Nat.le_of_ble_eq_true rfl) (by decide) rfl (c_Mo_in (by omega) (by omega) (by omega)) ?_
      refine Ev.if_eq (tgt := 50) d_Mo_draw_9 rfl b01_b (fun hb9 => by exfalso; (first | rw [b01_ne] at hb9 | rw [b01_eq] at hb9); omega) (fun hb9 => ?_)
      rw [b01_ne] at hb9
      refine Ev.iload_n d_Mo_draw_12 rfl ?_
      refine Ev.i2l d_Mo_draw_13 (by first | omega | (simp [mu]; done) | (simp [mu]; omega)) ?_
      refine Ev.lconst (x := 0) d_Mo_draw_14 rfl ?_
      refine Ev.ldc2 (x := 2) d_Mo_draw_15 kl_Mo_150 ?_
      refine Ev.callS d_Mo_draw_18 mt_Mo_in lk_Mo_107 st_Mo_in rfl (Nat.le_of_ble_eq_true rfl) rfl (Nat.le_of_ble_eq_true rfl) (by decide) rfl (c_Mo_in (by omega) (by omega) (by omega)) ?_
      refine Ev.if_eq (tgt := 50) d_Mo_draw_21 rfl b01_b (fun hb21 => by exfalso; (first | rw [b01_ne] at hb21 | rw [b01_eq] at hb21); omega) (fun hb21 => ?_)
      rw [b01_ne] at hb21
      refine Ev.iload d_Mo_draw_24 rfl ?_
      refine Ev.i2l d_Mo_draw_26 (by first | omega | (simp [mu]; done) | (simp [mu]; omega)) ?_
      refine Ev.lconst (x := 0) d_Mo_draw_27 rfl ?_
      refine Ev.ldc2 (x := 6) d_Mo_draw_28 kl_Mo_132 ?_
      refine Ev.callS d_Mo_draw_31 mt_Mo_in lk_Mo_107 st_Mo_in rfl (Nat.le_of_ble_eq_true rfl) rfl (Nat.le_of_ble_eq_true rfl) (by decide) rfl (c_Mo_in (by omega) (by omega) (by omega)) ?_
      refine Ev.if_eq (tgt := 50) d_Mo_draw_34 rfl b01_b (fun hb34 => by exfalso; (first | rw [b01_ne] at hb34 | rw [b01_eq] at hb34); omega) (fun hb34 => ?_)
      rw [b01_ne] at hb34
      refine Ev.iload d_Mo_draw_37 rfl ?_
      refine Ev.i2l d_Mo_draw_39 (by first | omega | (simp [mu]; done) | (simp [mu]; omega)) ?_
      refine Ev.lconst (x := 1) d_Mo_draw_40 rfl ?_
      refine Ev.ldc2 (x := 4) d_Mo_draw_41 kl_Mo_111 ?_
      refine Ev.callS d_Mo_draw_44 mt_Mo_in lk_Mo_107 st_Mo_in rfl (Nat.le_of_ble_eq_true rfl) rfl (Nat.le_of_ble_eq_true rfl) (by decide) rfl (c_Mo_in (by omega) (by omega) (by omega)) ?_
      refine Ev.if_ne (tgt := 52) d_Mo_draw_47 rfl b01_b (fun hb47 => ?_) (fun hb47 => by exfalso; (first | rw [b01_ne] at hb47 | rw [b01_eq] at hb47); omega)
      rw [b01_ne] at hb47
      refine Ev.aload_n d_Mo_draw_52 rfl ?_
      refine Ev.gr 36 d_Mo_draw_53 lf_Mo_94 rfl rfl (is_57 hM) (by decide) (rf_57_36 hM) ?_
      refine Ev.iload_n d_Mo_draw_56 rfl ?_
      refine Ev.iaload d_Mo_draw_57 (is_85 hM) (by first | omega | (simp [mu]; done) | (simp [mu]; omega)) ?_
      refine Ev.iload_n d_Mo_draw_58 rfl ?_
      refine Ev.icmp_eq (tgt := 81) d_Mo_draw_59 rfl (by first | omega | (simp [mu]; done) | (simp [mu]; omega)) (by first | omega | (simp [mu]; done) | (simp [mu]; omega)) (fun hb59 => by exfalso; first | omega | simp at hb59 | contradiction) (fun hb59 => ?_)
      refine Ev.aload_n d_Mo_draw_62 rfl ?_
      refine Ev.gr 36 d_Mo_draw_63 lf_Mo_94 rfl rfl (is_57 hM) (by decide) (rf_57_36 hM) ?_
      refine Ev.iload_n d_Mo_draw_66 rfl ?_
      refine Ev.iaload d_Mo_draw_67 (is_85 hM) (by first | omega | (simp [mu]; done) | (simp [mu]; omega)) ?_
      refine Ev.bipush d_Mo_draw_68 rfl ?_
      refine Ev.icmp_ne (tgt := 78) d_Mo_draw_70 rfl (by first | omega | (simp [mu]; done) | (simp [mu]; omega)) (by first | omega | (simp [mu]; done) | (simp [mu]; omega)) (fun hb70 => ?_) (fun hb70 => ?_)
      · refine Ev.bipush d_Mo_draw_78 rfl ?_
        exact Ev.to (Ev.ireturn d_Mo_draw_80 rfl) (ri (by first | rw [if_pos (by omega)] | rw [if_neg (by omega)])) rfl
      · refine Ev.bipush d_Mo_draw_73 rfl ?_
        refine Ev.goto (tgt := 80) d_Mo_draw_75 rfl ?_
        exact Ev.to (Ev.ireturn d_Mo_draw_80 rfl) (ri (by first | rw [if_pos (by omega)] | rw [if_neg (by omega)])) rfl
  · refine ⟨m, ?_, by rw [st_draw, if_neg (fun q => hk q.1)]; exact hS, FrM.rf⟩
    rw [sp_draw, if_neg hk]
    show Ev 4 m_Mo_draw 0 [some (vr 57), some (vi k), some (vi lane), some (vi f), some (vi d), some (vi n), none, none, none, none] [] σ m _ σ _
    refine Ev.iload_n d_Mo_draw_0 rfl ?_
    refine Ev.i2l d_Mo_draw_1 (by first | omega | (simp [mu]; done) | (simp [mu]; omega)) ?_
    refine Ev.lconst (x := 0) d_Mo_draw_2 rfl ?_
    refine Ev.ldc2 (x := 3) d_Mo_draw_3 kl_Mo_295 ?_
    refine Ev.callS d_Mo_draw_6 mt_Mo_in lk_Mo_107 st_Mo_in rfl (Nat.le_of_ble_eq_true rfl) rfl (Nat.le_of_ble_eq_true rfl) (by decide) rfl (c_Mo_in (by omega) (by omega) (by omega)) ?_
    refine Ev.if_eq (tgt := 50) d_Mo_draw_9 rfl b01_b (fun hb9 => ?_) (fun hb9 => ?_)
    · rw [b01_eq] at hb9
      refine Ev.iconst d_Mo_draw_50 ?_
      exact Ev.to (Ev.ireturn d_Mo_draw_51 rfl) rfl rfl
    · rw [b01_ne] at hb9
      refine Ev.iload_n d_Mo_draw_12 rfl ?_
      refine Ev.i2l d_Mo_draw_13 (by first | omega | (simp [mu]; done) | (simp [mu]; omega)) ?_
      refine Ev.lconst (x := 0) d_Mo_draw_14 rfl ?_
      refine Ev.ldc2 (x := 2) d_Mo_draw_15 kl_Mo_150 ?_
      refine Ev.callS d_Mo_draw_18 mt_Mo_in lk_Mo_107 st_Mo_in rfl (Nat.le_of_ble_eq_true rfl) rfl (Nat.le_of_ble_eq_true rfl) (by decide) rfl (c_Mo_in (by omega) (by omega) (by omega)) ?_
      refine Ev.if_eq (tgt := 50) d_Mo_draw_21 rfl b01_b (fun hb21 => ?_) (fun hb21 => ?_)
      · rw [b01_eq] at hb21
        refine Ev.iconst d_Mo_draw_50 ?_
        exact Ev.to (Ev.ireturn d_Mo_draw_51 rfl) rfl rfl
      · rw [b01_ne] at hb21
        refine Ev.iload d_Mo_draw_24 rfl ?_
        refine Ev.i2l d_Mo_draw_26 (by first | omega | (simp [mu]; done) | (simp [mu]; omega)) ?_
        refine Ev.lconst (x := 0) d_Mo_draw_27 rfl ?_
        refine Ev.ldc2 (x := 6) d_Mo_draw_28 kl_Mo_132 ?_
        refine Ev.callS d_Mo_draw_31 mt_Mo_in lk_Mo_107 st_Mo_in rfl (Nat.le_of_ble_eq_true rfl) rfl (Nat.le_of_ble_eq_true rfl) (by decide) rfl (c_Mo_in (by omega) (by omega) (by omega)) ?_
        refine Ev.if_eq (tgt := 50) d_Mo_draw_34 rfl b01_b (fun hb34 => ?_) (fun hb34 => ?_)
        · rw [b01_eq] at hb34
          refine Ev.iconst d_Mo_draw_50 ?_
          exact Ev.to (Ev.ireturn d_Mo_draw_51 rfl) rfl rfl
        · rw [b01_ne] at hb34
          refine Ev.iload d_Mo_draw_37 rfl ?_
          refine Ev.i2l d_Mo_draw_39 (by first | omega | (simp [mu]; done) | (simp [mu]; omega)) ?_
          refine Ev.lconst (x := 1) d_Mo_draw_40 rfl ?_
          refine Ev.ldc2 (x := 4) d_Mo_draw_41 kl_Mo_111 ?_
          refine Ev.callS d_Mo_draw_44 mt_Mo_in lk_Mo_107 st_Mo_in rfl (Nat.le_of_ble_eq_true rfl) rfl (Nat.le_of_ble_eq_true rfl) (by decide) rfl (c_Mo_in (by omega) (by omega) (by omega)) ?_
          refine Ev.if_ne (tgt := 52) d_Mo_draw_47 rfl b01_b (fun hb47 => by exfalso; (first | rw [b01_ne] at hb47 | rw [b01_eq] at hb47); omega) (fun hb47 => ?_)
          rw [b01_eq] at hb47
          refine Ev.iconst d_Mo_draw_50 ?_
          exact Ev.to (Ev.ireturn d_Mo_draw_51 rfl) rfl rfl
end
