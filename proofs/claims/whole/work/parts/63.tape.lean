/-! the tape of the class -/
def pkF (f : Int → Int) : Int := 1 * f 1 + 8 * f 2 + 64 * f 3 + 512 * f 4 + 4096 * f 5 + 32768 * f 7 + 262144 * f 8 + 2097152 * f 9 + 16777216 * f 10 + 134217728 * f 11
theorem pkF_up {R : Int → Int} {l k : Int} (hl : l = 0 ∨ l = 1) (hk : 1 ≤ k ∧ k ≤ 5) : pkF (up R (6 * l + k) (R (6 * l + k) + 1)) = pkF R + o8 l k := by
  rcases hl with rfl | rfl <;> rcases (show k = 1 ∨ k = 2 ∨ k = 3 ∨ k = 4 ∨ k = 5 by omega) with rfl | rfl | rfl | rfl | rfl <;> simp [pkF, up, o8] <;> omega
def TpM (m : Mm) (T : TPt) : Prop := m 17 1 = T.1 ∧ ∀ i : Int, 0 ≤ i → i < T.1 → m 18 i = (T.2 i).bmod 256
def FrV (m m' : Mm) : Prop := ∀ b i : Int, b ≠ 17 → b ≠ 18 → m' b i = m b i
def lt4 (l : Int) : Int := if l = -4 then -1 else l - 97
section
variable {σ : Sg} {m : Mm}
theorem c_Tp_length (hF : FcS σ) {T : TPt} (hT : TpM m T) (hK : TK T) : Call 1 m_Tp_length [vr 17] σ m (some (vi T.1)) σ m := by
  show Ev 1 m_Tp_length 0 [some (vr 17)] [] σ m _ σ m
  refine Ev.aload_n d_Tp_length_0 rfl ?_
  refine Ev.gf 1 d_Tp_length_1 lf_Tp_21 rfl rfl (fi_17 hF) (by decide) ?_
  exact Ev.to (Ev.ireturn d_Tp_length_4 rfl) (ri hT.1) rfl
theorem c_Tp_toldRows (hF : FcS σ) : Call 1 m_Tp_toldRows [vr 17] σ m (some (vi (m 17 2))) σ m := by
  show Ev 1 m_Tp_toldRows 0 [some (vr 17)] [] σ m _ σ m
  refine Ev.aload_n d_Tp_toldRows_0 rfl ?_
  refine Ev.gf 2 d_Tp_toldRows_1 lf_Tp_17 rfl rfl (fi_17 hF) (by decide) ?_
  exact Ev.to (Ev.ireturn d_Tp_toldRows_4 rfl) rfl rfl
theorem c_Tp_latestFault (hF : FcS σ) : Call 1 m_Tp_latestFault [vr 17] σ m (some (vi (m 17 3))) σ m := by
  show Ev 1 m_Tp_latestFault 0 [some (vr 17)] [] σ m _ σ m
  refine Ev.aload_n d_Tp_latestFault_0 rfl ?_
  refine Ev.gf 3 d_Tp_latestFault_1 lf_Tp_24 rfl rfl (fi_17 hF) (by decide) ?_
  exact Ev.to (Ev.ireturn d_Tp_latestFault_4 rfl) rfl rfl
theorem c_Tp_failAt (hF : FcS σ) {p k : Int} : Call 1 m_Tp_failAt [vr 17, vi p, vi k] σ m (some (vi p)) σ (mu m 17 3 k) := by
  show Ev 1 m_Tp_failAt 0 [some (vr 17), some (vi p), some (vi k)] [] σ m _ σ (mu m 17 3 k)
  refine Ev.aload_n d_Tp_failAt_0 rfl ?_
  refine Ev.iload_n d_Tp_failAt_1 rfl ?_
  refine Ev.pf 3 d_Tp_failAt_2 lf_Tp_24 rfl rfl rfl rfl (fi_17 hF) (by decide) ?_
  refine Ev.iload_n d_Tp_failAt_5 rfl ?_
  exact Ev.to (Ev.ireturn d_Tp_failAt_6 rfl) rfl rfl
theorem c_Tp_keepFirst (hF : FcS σ) {T : TPt} (hT : TpM m T) (hK : TK T) {n : Int} (h1 : -2147483648 ≤ n ∧ n ≤ 2147483647) : Call 1 m_Tp_keepFirst [vr 17, vi n] σ m (some (vi (b01 (0 ≤ n ∧ n ≤ T.1)))) σ (if 0 ≤ n ∧ n ≤ T.1 then mu m 17 1 n else m) := by
  show Ev 1 m_Tp_keepFirst 0 [some (vr 17), some (vi n)] [] σ m _ σ _
  have e := hT.1
  have k := hK.1
  by_cases hc : 0 ≤ n ∧ n ≤ T.1
  · rw [if_pos hc]
    refine Ev.iload_n d_Tp_keepFirst_0 rfl ?_
    refine Ev.if_lt (tgt := 12) d_Tp_keepFirst_1 rfl (by first | omega | (simp [mu]; done) | (simp [mu]; omega)) (fun hb1 => by exfalso; first | omega | simp at hb1 | contradiction) (fun hb1 => ?_)
    refine Ev.iload_n d_Tp_keepFirst_4 rfl ?_
    refine Ev.aload_n d_Tp_keepFirst_5 rfl ?_
    refine Ev.gf 1 d_Tp_keepFirst_6 lf_Tp_21 rfl rfl (fi_17 hF) (by decide) ?_
    rw [e]
    refine Ev.icmp_le (tgt := 14) d_Tp_keepFirst_9 rfl (by first | omega | (simp [mu]; done) | (simp [mu]; omega)) (by first | omega | (simp [mu]; done) | (simp [mu]; omega)) (fun hb9 => ?_) (fun hb9 => by exfalso; first | omega | simp at hb9 | contradiction)
    refine Ev.aload_n d_Tp_keepFirst_14 rfl ?_
    refine Ev.iload_n d_Tp_keepFirst_15 rfl ?_
    refine Ev.pf 1 d_Tp_keepFirst_16 lf_Tp_21 rfl rfl rfl rfl (fi_17 hF) (by decide) ?_
    refine Ev.iconst d_Tp_keepFirst_19 ?_
    exact Ev.to (Ev.zreturn d_Tp_keepFirst_20 rfl (by first | omega | exact b01_01)) (r1 hc) rfl
  · rw [if_neg hc]
    refine Ev.iload_n d_Tp_keepFirst_0 rfl ?_
    refine Ev.if_lt (tgt := 12) d_Tp_keepFirst_1 rfl (by first | omega | (simp [mu]; done) | (simp [mu]; omega)) (fun hb1 => ?_) (fun hb1 => ?_)
    · refine Ev.iconst d_Tp_keepFirst_12 ?_
      exact Ev.to (Ev.zreturn d_Tp_keepFirst_13 rfl (by first | omega | exact b01_01)) (r0 hc) rfl
    · refine Ev.iload_n d_Tp_keepFirst_4 rfl ?_
      refine Ev.aload_n d_Tp_keepFirst_5 rfl ?_
      refine Ev.gf 1 d_Tp_keepFirst_6 lf_Tp_21 rfl rfl (fi_17 hF) (by decide) ?_
      rw [e]
      refine Ev.icmp_le (tgt := 14) d_Tp_keepFirst_9 rfl (by first | omega | (simp [mu]; done) | (simp [mu]; omega)) (by first | omega | (simp [mu]; done) | (simp [mu]; omega)) (fun hb9 => by exfalso; first | omega | simp at hb9 | contradiction) (fun hb9 => ?_)
      refine Ev.iconst d_Tp_keepFirst_12 ?_
      exact Ev.to (Ev.zreturn d_Tp_keepFirst_13 rfl (by first | omega | exact b01_01)) (r0 hc) rfl
theorem bt_bm (v e : Int) : ((v / 2 ^ (8 * e).toNat).bmod 256).bmod 256 = (bt v e).bmod 256 := by
  unfold bt
  rw [Int.bmod_bmod]
  exact (Int.emod_bmod (v / 2 ^ (8 * e).toNat) 256).symm
theorem lp_Tp_append (hF : FcS σ) {v n : Int} (hv : -9223372036854775808 ≤ v ∧ v ≤ 9223372036854775807) (hn : 0 ≤ n ∧ n ≤ 72) : ∀ (q : Nat) (i : Int) (m : Mm), i + q = 8 → 0 ≤ i → m 17 1 = n → (∀ j : Int, 0 ≤ j → j < i → m 18 (n + j) = (bt v (7 - j)).bmod 256) → ∃ mF, Ev 1 m_Tp_appendEight 20 [some (vr 17), some (vl v), none, some (vi i)] [] σ m (some (vi 1)) σ mF ∧ mF 17 1 = n + 8 ∧ (∀ j : Int, 0 ≤ j → j < 8 → mF 18 (n + j) = (bt v (7 - j)).bmod 256) ∧ (∀ b j : Int, ¬ (b = 17 ∧ j = 1) → ¬ (b = 18 ∧ n ≤ j) → mF b j = m b j)
  | 0, i, m, hi, h0, hl, hb => by
    refine ⟨mu m 17 1 (n + 8), ?_, mu_s, fun j a b => by rw [mu_a (by decide)]; exact hb j a (by omega), fun b j x y => mu_n (by omega)⟩
    refine Ev.iload_n d_Tp_appendEight_20 rfl ?_
    refine Ev.bipush d_Tp_appendEight_21 rfl ?_
    refine Ev.icmp_ge (tgt := 54) d_Tp_appendEight_23 rfl (by first | omega | (simp [mu]; done) | (simp [mu]; omega)) (by first | omega | (simp [mu]; done) | (simp [mu]; omega)) (fun hb23 => ?_) (fun hb23 => by exfalso; first | omega | simp at hb23 | contradiction)
    refine Ev.aload_n d_Tp_appendEight_54 rfl ?_
    refine Ev.dup d_Tp_appendEight_55 rfl ?_
    refine Ev.gf 1 d_Tp_appendEight_56 lf_Tp_21 rfl rfl (fi_17 hF) (by decide) ?_
    rw [hl]
    refine Ev.bipush d_Tp_appendEight_59 rfl ?_
    refine Ev.iadd d_Tp_appendEight_61 ?_
    refine Ev.pf 1 d_Tp_appendEight_62 lf_Tp_21 rfl rfl rfl rfl (fi_17 hF) (by decide) ?_
    refine Ev.iconst d_Tp_appendEight_65 ?_
    exact Ev.to (Ev.zreturn d_Tp_appendEight_66 rfl (by first | omega | exact b01_01)) rfl rfl
  | q + 1, i, m, hi, h0, hl, hb => by
    have hbt := bt_bm v (7 - i)
    obtain ⟨mF, g1, g2, g3, g4⟩ := lp_Tp_append hF hv hn q (i + 1) (mu m 18 (n + i) ((bt v (7 - i)).bmod 256)) (by omega) (by omega) (by rw [mu_a (by decide)]; exact hl) (fun j a b => by
      by_cases e : j = i
      · rw [e, mu_s]
      · rw [mu_n (Or.inr (by omega))]; exact hb j a (by omega))
    refine ⟨mF, ?_, g2, g3, fun b j x y => (g4 b j x y).trans (mu_n (by omega))⟩
    refine Ev.iload_n d_Tp_appendEight_20 rfl ?_
    refine Ev.bipush d_Tp_appendEight_21 rfl ?_
    refine Ev.icmp_ge (tgt := 54) d_Tp_appendEight_23 rfl (by first | omega | (simp [mu]; done) | (simp [mu]; omega)) (by first | omega | (simp [mu]; done) | (simp [mu]; omega)) (fun hb23 => by exfalso; first | omega | simp at hb23 | contradiction) (fun hb23 => ?_)
    refine Ev.aload_n d_Tp_appendEight_26 rfl ?_
    refine Ev.gr 0 d_Tp_appendEight_27 lf_Tp_11 rfl rfl (fi_17 hF) (by decide) (fr_17_0 hF) ?_
    refine Ev.aload_n d_Tp_appendEight_30 rfl ?_
    refine Ev.gf 1 d_Tp_appendEight_31 lf_Tp_21 rfl rfl (fi_17 hF) (by decide) ?_
    rw [hl]
    refine Ev.iload_n d_Tp_appendEight_34 rfl ?_
    refine Ev.iadd d_Tp_appendEight_35 ?_
    refine Ev.lload_n d_Tp_appendEight_36 rfl ?_
    refine Ev.bipush d_Tp_appendEight_37 rfl ?_
    refine Ev.bipush d_Tp_appendEight_39 rfl ?_
    refine Ev.iload_n d_Tp_appendEight_41 rfl ?_
    refine Ev.isub d_Tp_appendEight_42 ?_
    refine Ev.imul d_Tp_appendEight_43 ?_
    refine Ev.lshr d_Tp_appendEight_44 (by first | omega | (simp [mu]; done) | (simp [mu]; omega)) (by first | omega | (simp [mu]; done) | (simp [mu]; omega)) ?_
    refine Ev.l2i d_Tp_appendEight_45 ?_
    refine Ev.i2b d_Tp_appendEight_46 ?_
    refine Ev.bastore d_Tp_appendEight_47 (fi_18 hF) (by decide) (by first | omega | (simp [mu]; done) | (simp [mu]; omega)) ?_
    rw [hbt]
    refine Ev.iinc_3 d_Tp_appendEight_48 rfl ?_
    refine Ev.goto (tgt := 20) d_Tp_appendEight_51 rfl ?_
    exact g1
theorem c_Tp_appendEight (hF : FcS σ) {T : TPt} (hT : TpM m T) (hK : TK T) {v : Int} (hv : -9223372036854775808 ≤ v ∧ v ≤ 9223372036854775807) : ∃ m', Call 1 m_Tp_appendEight [vr 17, vl v] σ m (some (vi (b01 (T.1 + 8 ≤ 80)))) σ m' ∧ TpM m' (st_feed T v) ∧ (∀ b j : Int, ¬ (b = 17 ∧ j = 1) → b ≠ 18 → m' b j = m b j) := by
  have e := hT.1
  have k := hK.1
  by_cases hc : T.1 + 8 ≤ 80
  · obtain ⟨mF, g1, g2, g3, g4⟩ := lp_Tp_append hF hv (n := T.1) (by omega) 8 0 m rfl (by decide) e (fun j a b => by exfalso; omega)
    have es : st_feed T v = (T.1 + 8, fun i => if T.1 ≤ i then bt v (7 - (i - T.1)) else T.2 i) := if_pos hc
    refine ⟨mF, ?_, ⟨by rw [es]; exact g2, fun i a b => ?_⟩, fun b j x y => g4 b j x (by omega)⟩
    rotate_left
    · rw [es] at b ⊢
      show mF 18 i = (if T.1 ≤ i then bt v (7 - (i - T.1)) else T.2 i).bmod 256
      have b : i < T.1 + 8 := b
      by_cases hi : T.1 ≤ i
      · have := g3 (i - T.1) (by omega) (by omega)
        rw [show T.1 + (i - T.1) = i by omega] at this
        rw [if_pos hi, this]
      · rw [if_neg hi, g4 _ _ (by omega) (by omega)]; exact hT.2 i a (by omega)
    show Ev 1 m_Tp_appendEight 0 [some (vr 17), some (vl v), none, none] [] σ m _ σ mF
    rw [b01_t hc]
    refine Ev.aload_n d_Tp_appendEight_0 rfl ?_
    refine Ev.gf 1 d_Tp_appendEight_1 lf_Tp_21 rfl rfl (fi_17 hF) (by decide) ?_
    rw [e]
    refine Ev.if_lt (tgt := 16) d_Tp_appendEight_4 rfl (by first | omega | (simp [mu]; done) | (simp [mu]; omega)) (fun hb4 => by exfalso; first | omega | simp at hb4 | contradiction) (fun hb4 => ?_)
    refine Ev.aload_n d_Tp_appendEight_7 rfl ?_
    refine Ev.gf 1 d_Tp_appendEight_8 lf_Tp_21 rfl rfl (fi_17 hF) (by decide) ?_
    rw [e]
    refine Ev.bipush d_Tp_appendEight_11 rfl ?_
    refine Ev.icmp_le (tgt := 18) d_Tp_appendEight_13 rfl (by first | omega | (simp [mu]; done) | (simp [mu]; omega)) (by first | omega | (simp [mu]; done) | (simp [mu]; omega)) (fun hb13 => ?_) (fun hb13 => by exfalso; first | omega | simp at hb13 | contradiction)
    refine Ev.iconst d_Tp_appendEight_18 ?_
    refine Ev.istore_3 d_Tp_appendEight_19 rfl ?_
    exact g1
  · have es : st_feed T v = T := if_neg hc
    refine ⟨m, ?_, by rw [es]; exact hT, fun _ _ _ _ => rfl⟩
    show Ev 1 m_Tp_appendEight 0 [some (vr 17), some (vl v), none, none] [] σ m _ σ m
    refine Ev.aload_n d_Tp_appendEight_0 rfl ?_
    refine Ev.gf 1 d_Tp_appendEight_1 lf_Tp_21 rfl rfl (fi_17 hF) (by decide) ?_
    rw [e]
    refine Ev.if_lt (tgt := 16) d_Tp_appendEight_4 rfl (by first | omega | (simp [mu]; done) | (simp [mu]; omega)) (fun hb4 => by exfalso; first | omega | simp at hb4 | contradiction) (fun hb4 => ?_)
    refine Ev.aload_n d_Tp_appendEight_7 rfl ?_
    refine Ev.gf 1 d_Tp_appendEight_8 lf_Tp_21 rfl rfl (fi_17 hF) (by decide) ?_
    rw [e]
    refine Ev.bipush d_Tp_appendEight_11 rfl ?_
    refine Ev.icmp_le (tgt := 18) d_Tp_appendEight_13 rfl (by first | omega | (simp [mu]; done) | (simp [mu]; omega)) (by first | omega | (simp [mu]; done) | (simp [mu]; omega)) (fun hb13 => by exfalso; first | omega | simp at hb13 | contradiction) (fun hb13 => ?_)
    refine Ev.iconst d_Tp_appendEight_16 ?_
    exact Ev.to (Ev.zreturn d_Tp_appendEight_17 rfl (by first | omega | exact b01_01)) (r0 hc) rfl
def rdE (m : Mm) (p : PRt) : Mm := if p.1 = 0 then mu (mu m 17 2 (pkF p.2.2.2)) 17 3 0 else mu m 17 3 p.1
def rdV (p : PRt) : Int := if p.1 = 0 then -1 else p.2.1
theorem bm_b (x : Int) (h : 0 ≤ x ∧ x ≤ 255) : (x < 128 ∧ x.bmod 256 = x) ∨ (128 ≤ x ∧ x.bmod 256 = x - 256) := by
  by_cases c : x < 128
  · left; refine ⟨c, ?_⟩
    exact Int.bmod_eq_of_le (by omega) (by omega)
  · right; refine ⟨by omega, ?_⟩
    rw [← Int.sub_bmod_right, Int.bmod_eq_of_le (by omega) (by omega)]; rfl
theorem lp_Tp_read (hF : FcS σ) {T : TPt} (hT : TpM m T) (hK : TK T) : ∀ (q : Nat) (p l s : Int) (R : Int → Int) (x5 x6 : Option AV), p + q = T.1 → 0 ≤ p → (l = -4 ∨ l = 97 ∨ l = 98) → 0 ≤ s ∧ s ≤ 5 → Ev 2 m_Tp_read 9 [some (vr 17), some (vi (pkF R)), some (vi s), some (vi (lt4 l)), some (vi p), x5, x6] [] σ m (some (vi (rdV (ps T q p l s R)))) σ (rdE m (ps T q p l s R))
  | 0, p, l, s, R, x5, x6, hp, h0, hl, hs => by
    have e := hT.1
    have k := hK.1
    have hlt : (l = -4 ∧ lt4 l = -1) ∨ (l ≠ -4 ∧ lt4 l = l - 97) := by unfold lt4; by_cases h : l = -4 <;> simp [h]
    have epT : p = T.1 := by omega
    simp only [ps]
    by_cases hc : s = 0 ∨ ¬ l = -4
    · rw [if_pos hc]
      show Ev 2 m_Tp_read 9 _ [] σ m (some (vi p)) σ (mu m 17 3 2)
      rw [epT]
      refine Ev.iload d_Tp_read_9 rfl ?_
      refine Ev.aload_n d_Tp_read_11 rfl ?_
      refine Ev.gf 1 d_Tp_read_12 lf_Tp_21 rfl rfl (fi_17 hF) (by decide) ?_
      rw [e]
      refine Ev.icmp_ge (tgt := 170) d_Tp_read_15 rfl (by first | omega | (simp [mu]; done) | (simp [mu]; omega)) (by first | omega | (simp [mu]; done) | (simp [mu]; omega)) (fun hb15 => ?_) (fun hb15 => by exfalso; first | omega | simp at hb15 | contradiction)
      refine Ev.iload_n d_Tp_read_170 rfl ?_
      refine Ev.if_eq (tgt := 179) d_Tp_read_171 rfl (by first | omega | (simp [mu]; done) | (simp [mu]; omega)) (fun hb171 => ?_) (fun hb171 => ?_)
      · refine Ev.aload_n d_Tp_read_179 rfl ?_
        refine Ev.aload_n d_Tp_read_180 rfl ?_
        refine Ev.gf 1 d_Tp_read_181 lf_Tp_21 rfl rfl (fi_17 hF) (by decide) ?_
        rw [e]
        refine Ev.iconst d_Tp_read_184 ?_
        refine Ev.callV d_Tp_read_185 mt_Tp_failAt lk_Tp_27 in_Tp_failAt se_Tp_failAt rfl (Nat.le_of_ble_eq_true rfl) rfl (Nat.le_of_ble_eq_true rfl) (by decide) (fi_17 hF) (by decide) rfl rfl (c_Tp_failAt hF) ?_
        exact Ev.to (Ev.ireturn d_Tp_read_188 rfl) rfl rfl
      · refine Ev.iload_n d_Tp_read_174 rfl ?_
        refine Ev.iconst d_Tp_read_175 ?_
        refine Ev.icmp_eq (tgt := 189) d_Tp_read_176 rfl (by first | omega | (simp [mu]; done) | (simp [mu]; omega)) (by first | omega | (simp [mu]; done) | (simp [mu]; omega)) (fun hb176 => by exfalso; first | omega | simp at hb176 | contradiction) (fun hb176 => ?_)
        refine Ev.aload_n d_Tp_read_179 rfl ?_
        refine Ev.aload_n d_Tp_read_180 rfl ?_
        refine Ev.gf 1 d_Tp_read_181 lf_Tp_21 rfl rfl (fi_17 hF) (by decide) ?_
        rw [e]
        refine Ev.iconst d_Tp_read_184 ?_
        refine Ev.callV d_Tp_read_185 mt_Tp_failAt lk_Tp_27 in_Tp_failAt se_Tp_failAt rfl (Nat.le_of_ble_eq_true rfl) rfl (Nat.le_of_ble_eq_true rfl) (by decide) (fi_17 hF) (by decide) rfl rfl (c_Tp_failAt hF) ?_
        exact Ev.to (Ev.ireturn d_Tp_read_188 rfl) rfl rfl
    · rw [if_neg hc]
      show Ev 2 m_Tp_read 9 _ [] σ m (some (vi (-1))) σ (mu (mu m 17 2 (pkF R)) 17 3 0)
      refine Ev.iload d_Tp_read_9 rfl ?_
      refine Ev.aload_n d_Tp_read_11 rfl ?_
      refine Ev.gf 1 d_Tp_read_12 lf_Tp_21 rfl rfl (fi_17 hF) (by decide) ?_
      rw [e]
      refine Ev.icmp_ge (tgt := 170) d_Tp_read_15 rfl (by first | omega | (simp [mu]; done) | (simp [mu]; omega)) (by first | omega | (simp [mu]; done) | (simp [mu]; omega)) (fun hb15 => ?_) (fun hb15 => by exfalso; first | omega | simp at hb15 | contradiction)
      refine Ev.iload_n d_Tp_read_170 rfl ?_
      refine Ev.if_eq (tgt := 179) d_Tp_read_171 rfl (by first | omega | (simp [mu]; done) | (simp [mu]; omega)) (fun hb171 => by exfalso; first | omega | simp at hb171 | contradiction) (fun hb171 => ?_)
      refine Ev.iload_n d_Tp_read_174 rfl ?_
      refine Ev.iconst d_Tp_read_175 ?_
      refine Ev.icmp_eq (tgt := 189) d_Tp_read_176 rfl (by first | omega | (simp [mu]; done) | (simp [mu]; omega)) (by first | omega | (simp [mu]; done) | (simp [mu]; omega)) (fun hb176 => ?_) (fun hb176 => by exfalso; first | omega | simp at hb176 | contradiction)
      refine Ev.aload_n d_Tp_read_189 rfl ?_
      refine Ev.iload_n d_Tp_read_190 rfl ?_
      refine Ev.pf 2 d_Tp_read_191 lf_Tp_17 rfl rfl rfl rfl (fi_17 hF) (by decide) ?_
      refine Ev.aload_n d_Tp_read_194 rfl ?_
      refine Ev.iconst d_Tp_read_195 ?_
      refine Ev.pf 3 d_Tp_read_196 lf_Tp_24 rfl rfl rfl rfl (fi_17 hF) (by decide) ?_
      refine Ev.iconst d_Tp_read_199 ?_
      exact Ev.to (Ev.ireturn d_Tp_read_200 rfl) rfl rfl
  | q + 1, p, l, s, R, x5, x6, hp, h0, hl, hs => by
    have e := hT.1
    have k := hK.1
    have hlt : (l = -4 ∧ lt4 l = -1) ∨ (l ≠ -4 ∧ lt4 l = l - 97) := by unfold lt4; by_cases h : l = -4 <;> simp [h]
    have e18 := hT.2 p h0 (by omega)
    have hb := hK.2 p h0 (by omega)
    have hbm := bm_b _ hb
    generalize hcdef : T.2 p = c at e18 hb hbm
    generalize htk : c.bmod 256 = tk at e18 hbm
    simp only [ps]
    rw [hcdef]
    by_cases c1 : c = 32
    · rw [if_pos c1]
      refine Ev.iload d_Tp_read_9 rfl ?_
      refine Ev.aload_n d_Tp_read_11 rfl ?_
      refine Ev.gf 1 d_Tp_read_12 lf_Tp_21 rfl rfl (fi_17 hF) (by decide) ?_
      rw [e]
      refine Ev.icmp_ge (tgt := 170) d_Tp_read_15 rfl (by first | omega | (simp [mu]; done) | (simp [mu]; omega)) (by first | omega | (simp [mu]; done) | (simp [mu]; omega)) (fun hb15 => by exfalso; first | omega | simp at hb15 | contradiction) (fun hb15 => ?_)
      refine Ev.iload d_Tp_read_18 rfl ?_
      refine Ev.bipush d_Tp_read_20 rfl ?_
      refine Ev.icmp_ge (tgt := 170) d_Tp_read_22 rfl (by first | omega | (simp [mu]; done) | (simp [mu]; omega)) (by first | omega | (simp [mu]; done) | (simp [mu]; omega)) (fun hb22 => by exfalso; first | omega | simp at hb22 | contradiction) (fun hb22 => ?_)
      refine Ev.aload_n d_Tp_read_25 rfl ?_
      refine Ev.gr 0 d_Tp_read_26 lf_Tp_11 rfl rfl (fi_17 hF) (by decide) (fr_17_0 hF) ?_
      refine Ev.iload d_Tp_read_29 rfl ?_
      refine Ev.baload d_Tp_read_31 (fi_18 hF) (by first | omega | (simp [mu]; done) | (simp [mu]; omega)) ?_
      rw [e18]
      refine Ev.istore_5 d_Tp_read_32 rfl ?_
      refine Ev.iload d_Tp_read_34 rfl ?_
      refine Ev.bipush d_Tp_read_36 rfl ?_
      refine Ev.icmp_ne (tgt := 44) d_Tp_read_38 rfl (by first | omega | (simp [mu]; done) | (simp [mu]; omega)) (by first | omega | (simp [mu]; done) | (simp [mu]; omega)) (fun hb38 => by exfalso; first | omega | simp at hb38 | contradiction) (fun hb38 => ?_)
      refine Ev.goto (tgt := 164) d_Tp_read_41 rfl ?_
      refine Ev.iinc_4 d_Tp_read_164 rfl ?_
      refine Ev.goto (tgt := 9) d_Tp_read_167 rfl ?_
      exact lp_Tp_read hF hT hK q (p + 1) l s R _ _ (by omega) (by omega) hl hs
    rw [if_neg c1]
    by_cases c2 : ¬ ((c = 97 ∨ c = 98) ∨ (49 ≤ c ∧ c ≤ 57))
    · rw [if_pos c2]
      show Ev 2 m_Tp_read 9 _ [] σ m (some (vi p)) σ (mu m 17 3 1)
      refine Ev.iload d_Tp_read_9 rfl ?_
      refine Ev.aload_n d_Tp_read_11 rfl ?_
      refine Ev.gf 1 d_Tp_read_12 lf_Tp_21 rfl rfl (fi_17 hF) (by decide) ?_
      rw [e]
      refine Ev.icmp_ge (tgt := 170) d_Tp_read_15 rfl (by first | omega | (simp [mu]; done) | (simp [mu]; omega)) (by first | omega | (simp [mu]; done) | (simp [mu]; omega)) (fun hb15 => by exfalso; first | omega | simp at hb15 | contradiction) (fun hb15 => ?_)
      refine Ev.iload d_Tp_read_18 rfl ?_
      refine Ev.bipush d_Tp_read_20 rfl ?_
      refine Ev.icmp_ge (tgt := 170) d_Tp_read_22 rfl (by first | omega | (simp [mu]; done) | (simp [mu]; omega)) (by first | omega | (simp [mu]; done) | (simp [mu]; omega)) (fun hb22 => by exfalso; first | omega | simp at hb22 | contradiction) (fun hb22 => ?_)
      refine Ev.aload_n d_Tp_read_25 rfl ?_
      refine Ev.gr 0 d_Tp_read_26 lf_Tp_11 rfl rfl (fi_17 hF) (by decide) (fr_17_0 hF) ?_
      refine Ev.iload d_Tp_read_29 rfl ?_
      refine Ev.baload d_Tp_read_31 (fi_18 hF) (by first | omega | (simp [mu]; done) | (simp [mu]; omega)) ?_
      rw [e18]
      refine Ev.istore_5 d_Tp_read_32 rfl ?_
      refine Ev.iload d_Tp_read_34 rfl ?_
      refine Ev.bipush d_Tp_read_36 rfl ?_
      refine Ev.icmp_ne (tgt := 44) d_Tp_read_38 rfl (by first | omega | (simp [mu]; done) | (simp [mu]; omega)) (by first | omega | (simp [mu]; done) | (simp [mu]; omega)) (fun hb38 => ?_) (fun hb38 => by exfalso; first | omega | simp at hb38 | contradiction)
      refine Ev.iload d_Tp_read_44 rfl ?_
      refine Ev.bipush d_Tp_read_46 rfl ?_
      refine Ev.icmp_lt (tgt := 62) d_Tp_read_48 rfl (by first | omega | (simp [mu]; done) | (simp [mu]; omega)) (by first | omega | (simp [mu]; done) | (simp [mu]; omega)) (fun hb48 => ?_) (fun hb48 => ?_)
      · refine Ev.iconst d_Tp_read_62 ?_
        refine Ev.istore_6 d_Tp_read_63 rfl ?_
        refine Ev.iload d_Tp_read_65 rfl ?_
        refine Ev.if_ne (tgt := 92) d_Tp_read_67 rfl (by first | omega | (simp [mu]; done) | (simp [mu]; omega)) (fun hb67 => by exfalso; first | omega | simp at hb67 | contradiction) (fun hb67 => ?_)
        refine Ev.iload d_Tp_read_70 rfl ?_
        refine Ev.bipush d_Tp_read_72 rfl ?_
        refine Ev.icmp_eq (tgt := 92) d_Tp_read_74 rfl (by first | omega | (simp [mu]; done) | (simp [mu]; omega)) (by first | omega | (simp [mu]; done) | (simp [mu]; omega)) (fun hb74 => by exfalso; first | omega | simp at hb74 | contradiction) (fun hb74 => ?_)
        refine Ev.iload d_Tp_read_77 rfl ?_
        refine Ev.bipush d_Tp_read_79 rfl ?_
        refine Ev.icmp_eq (tgt := 92) d_Tp_read_81 rfl (by first | omega | (simp [mu]; done) | (simp [mu]; omega)) (by first | omega | (simp [mu]; done) | (simp [mu]; omega)) (fun hb81 => by exfalso; first | omega | simp at hb81 | contradiction) (fun hb81 => ?_)
        refine Ev.aload_n d_Tp_read_84 rfl ?_
        refine Ev.iload d_Tp_read_85 rfl ?_
        refine Ev.iconst d_Tp_read_87 ?_
        refine Ev.callV d_Tp_read_88 mt_Tp_failAt lk_Tp_27 in_Tp_failAt se_Tp_failAt rfl (Nat.le_of_ble_eq_true rfl) rfl (Nat.le_of_ble_eq_true rfl) (by decide) (fi_17 hF) (by decide) rfl rfl (c_Tp_failAt hF) ?_
        exact Ev.to (Ev.ireturn d_Tp_read_91 rfl) rfl rfl
      · refine Ev.iload d_Tp_read_51 rfl ?_
        refine Ev.bipush d_Tp_read_53 rfl ?_
        refine Ev.icmp_gt (tgt := 62) d_Tp_read_55 rfl (by first | omega | (simp [mu]; done) | (simp [mu]; omega)) (by first | omega | (simp [mu]; done) | (simp [mu]; omega)) (fun hb55 => ?_) (fun hb55 => by exfalso; first | omega | simp at hb55 | contradiction)
        refine Ev.iconst d_Tp_read_62 ?_
        refine Ev.istore_6 d_Tp_read_63 rfl ?_
        refine Ev.iload d_Tp_read_65 rfl ?_
        refine Ev.if_ne (tgt := 92) d_Tp_read_67 rfl (by first | omega | (simp [mu]; done) | (simp [mu]; omega)) (fun hb67 => by exfalso; first | omega | simp at hb67 | contradiction) (fun hb67 => ?_)
        refine Ev.iload d_Tp_read_70 rfl ?_
        refine Ev.bipush d_Tp_read_72 rfl ?_
        refine Ev.icmp_eq (tgt := 92) d_Tp_read_74 rfl (by first | omega | (simp [mu]; done) | (simp [mu]; omega)) (by first | omega | (simp [mu]; done) | (simp [mu]; omega)) (fun hb74 => by exfalso; first | omega | simp at hb74 | contradiction) (fun hb74 => ?_)
        refine Ev.iload d_Tp_read_77 rfl ?_
        refine Ev.bipush d_Tp_read_79 rfl ?_
        refine Ev.icmp_eq (tgt := 92) d_Tp_read_81 rfl (by first | omega | (simp [mu]; done) | (simp [mu]; omega)) (by first | omega | (simp [mu]; done) | (simp [mu]; omega)) (fun hb81 => by exfalso; first | omega | simp at hb81 | contradiction) (fun hb81 => ?_)
        refine Ev.aload_n d_Tp_read_84 rfl ?_
        refine Ev.iload d_Tp_read_85 rfl ?_
        refine Ev.iconst d_Tp_read_87 ?_
        refine Ev.callV d_Tp_read_88 mt_Tp_failAt lk_Tp_27 in_Tp_failAt se_Tp_failAt rfl (Nat.le_of_ble_eq_true rfl) rfl (Nat.le_of_ble_eq_true rfl) (by decide) (fi_17 hF) (by decide) rfl rfl (c_Tp_failAt hF) ?_
        exact Ev.to (Ev.ireturn d_Tp_read_91 rfl) rfl rfl
    rw [if_neg c2]
    by_cases c3 : l = -4
    · rw [if_pos c3]
      by_cases c4 : c = 97 ∨ c = 98
      · rw [if_pos c4]
        have el : lt4 c = tk - 97 := by unfold lt4; rw [if_neg (by omega)]; omega
        refine Ev.iload d_Tp_read_9 rfl ?_
        refine Ev.aload_n d_Tp_read_11 rfl ?_
        refine Ev.gf 1 d_Tp_read_12 lf_Tp_21 rfl rfl (fi_17 hF) (by decide) ?_
        rw [e]
        refine Ev.icmp_ge (tgt := 170) d_Tp_read_15 rfl (by first | omega | (simp [mu]; done) | (simp [mu]; omega)) (by first | omega | (simp [mu]; done) | (simp [mu]; omega)) (fun hb15 => by exfalso; first | omega | simp at hb15 | contradiction) (fun hb15 => ?_)
        refine Ev.iload d_Tp_read_18 rfl ?_
        refine Ev.bipush d_Tp_read_20 rfl ?_
        refine Ev.icmp_ge (tgt := 170) d_Tp_read_22 rfl (by first | omega | (simp [mu]; done) | (simp [mu]; omega)) (by first | omega | (simp [mu]; done) | (simp [mu]; omega)) (fun hb22 => by exfalso; first | omega | simp at hb22 | contradiction) (fun hb22 => ?_)
        refine Ev.aload_n d_Tp_read_25 rfl ?_
        refine Ev.gr 0 d_Tp_read_26 lf_Tp_11 rfl rfl (fi_17 hF) (by decide) (fr_17_0 hF) ?_
        refine Ev.iload d_Tp_read_29 rfl ?_
        refine Ev.baload d_Tp_read_31 (fi_18 hF) (by first | omega | (simp [mu]; done) | (simp [mu]; omega)) ?_
        rw [e18]
        refine Ev.istore_5 d_Tp_read_32 rfl ?_
        refine Ev.iload d_Tp_read_34 rfl ?_
        refine Ev.bipush d_Tp_read_36 rfl ?_
        refine Ev.icmp_ne (tgt := 44) d_Tp_read_38 rfl (by first | omega | (simp [mu]; done) | (simp [mu]; omega)) (by first | omega | (simp [mu]; done) | (simp [mu]; omega)) (fun hb38 => ?_) (fun hb38 => by exfalso; first | omega | simp at hb38 | contradiction)
        refine Ev.iload d_Tp_read_44 rfl ?_
        refine Ev.bipush d_Tp_read_46 rfl ?_
        refine Ev.icmp_lt (tgt := 62) d_Tp_read_48 rfl (by first | omega | (simp [mu]; done) | (simp [mu]; omega)) (by first | omega | (simp [mu]; done) | (simp [mu]; omega)) (fun hb48 => by exfalso; first | omega | simp at hb48 | contradiction) (fun hb48 => ?_)
        refine Ev.iload d_Tp_read_51 rfl ?_
        refine Ev.bipush d_Tp_read_53 rfl ?_
        refine Ev.icmp_gt (tgt := 62) d_Tp_read_55 rfl (by first | omega | (simp [mu]; done) | (simp [mu]; omega)) (by first | omega | (simp [mu]; done) | (simp [mu]; omega)) (fun hb55 => ?_) (fun hb55 => by exfalso; first | omega | simp at hb55 | contradiction)
        refine Ev.iconst d_Tp_read_62 ?_
        refine Ev.istore_6 d_Tp_read_63 rfl ?_
        refine Ev.iload d_Tp_read_65 rfl ?_
        refine Ev.if_ne (tgt := 92) d_Tp_read_67 rfl (by first | omega | (simp [mu]; done) | (simp [mu]; omega)) (fun hb67 => by exfalso; first | omega | simp at hb67 | contradiction) (fun hb67 => ?_)
        refine Ev.iload d_Tp_read_70 rfl ?_
        refine Ev.bipush d_Tp_read_72 rfl ?_
        refine Ev.icmp_eq (tgt := 92) d_Tp_read_74 rfl (by first | omega | (simp [mu]; done) | (simp [mu]; omega)) (by first | omega | (simp [mu]; done) | (simp [mu]; omega)) (fun hb74 => ?_) (fun hb74 => ?_)
        · refine Ev.iload d_Tp_read_92 rfl ?_
          refine Ev.iload_n d_Tp_read_94 rfl ?_
          refine Ev.iconst d_Tp_read_95 ?_
          refine Ev.icmp_ne (tgt := 103) d_Tp_read_96 rfl (by first | omega | (simp [mu]; done) | (simp [mu]; omega)) (by first | omega | (simp [mu]; done) | (simp [mu]; omega)) (fun hb96 => by exfalso; first | omega | simp at hb96 | contradiction) (fun hb96 => ?_)
          refine Ev.iconst d_Tp_read_99 ?_
          refine Ev.goto (tgt := 104) d_Tp_read_100 rfl ?_
          refine Ev.icmp_ne (tgt := 115) d_Tp_read_104 rfl (by first | omega | (simp [mu]; done) | (simp [mu]; omega)) (by first | omega | (simp [mu]; done) | (simp [mu]; omega)) (fun hb104 => ?_) (fun hb104 => by exfalso; first | omega | simp at hb104 | contradiction)
          refine Ev.iload d_Tp_read_115 rfl ?_
          refine Ev.if_ne (tgt := 129) d_Tp_read_117 rfl (by first | omega | (simp [mu]; done) | (simp [mu]; omega)) (fun hb117 => by exfalso; first | omega | simp at hb117 | contradiction) (fun hb117 => ?_)
          refine Ev.iload d_Tp_read_120 rfl ?_
          refine Ev.bipush d_Tp_read_122 rfl ?_
          refine Ev.isub d_Tp_read_124 ?_
          refine Ev.istore_3 d_Tp_read_125 rfl ?_
          refine Ev.goto (tgt := 164) d_Tp_read_126 rfl ?_
          refine Ev.iinc_4 d_Tp_read_164 rfl ?_
          refine Ev.goto (tgt := 9) d_Tp_read_167 rfl ?_
          rw [← el]
          exact lp_Tp_read hF hT hK q (p + 1) c s R _ _ (by omega) (by omega) (by omega) hs
        · refine Ev.iload d_Tp_read_77 rfl ?_
          refine Ev.bipush d_Tp_read_79 rfl ?_
          refine Ev.icmp_eq (tgt := 92) d_Tp_read_81 rfl (by first | omega | (simp [mu]; done) | (simp [mu]; omega)) (by first | omega | (simp [mu]; done) | (simp [mu]; omega)) (fun hb81 => ?_) (fun hb81 => by exfalso; first | omega | simp at hb81 | contradiction)
          refine Ev.iload d_Tp_read_92 rfl ?_
          refine Ev.iload_n d_Tp_read_94 rfl ?_
          refine Ev.iconst d_Tp_read_95 ?_
          refine Ev.icmp_ne (tgt := 103) d_Tp_read_96 rfl (by first | omega | (simp [mu]; done) | (simp [mu]; omega)) (by first | omega | (simp [mu]; done) | (simp [mu]; omega)) (fun hb96 => by exfalso; first | omega | simp at hb96 | contradiction) (fun hb96 => ?_)
          refine Ev.iconst d_Tp_read_99 ?_
          refine Ev.goto (tgt := 104) d_Tp_read_100 rfl ?_
          refine Ev.icmp_ne (tgt := 115) d_Tp_read_104 rfl (by first | omega | (simp [mu]; done) | (simp [mu]; omega)) (by first | omega | (simp [mu]; done) | (simp [mu]; omega)) (fun hb104 => ?_) (fun hb104 => by exfalso; first | omega | simp at hb104 | contradiction)
          refine Ev.iload d_Tp_read_115 rfl ?_
          refine Ev.if_ne (tgt := 129) d_Tp_read_117 rfl (by first | omega | (simp [mu]; done) | (simp [mu]; omega)) (fun hb117 => by exfalso; first | omega | simp at hb117 | contradiction) (fun hb117 => ?_)
          refine Ev.iload d_Tp_read_120 rfl ?_
          refine Ev.bipush d_Tp_read_122 rfl ?_
          refine Ev.isub d_Tp_read_124 ?_
          refine Ev.istore_3 d_Tp_read_125 rfl ?_
          refine Ev.goto (tgt := 164) d_Tp_read_126 rfl ?_
          refine Ev.iinc_4 d_Tp_read_164 rfl ?_
          refine Ev.goto (tgt := 9) d_Tp_read_167 rfl ?_
          rw [← el]
          exact lp_Tp_read hF hT hK q (p + 1) c s R _ _ (by omega) (by omega) (by omega) hs
      · rw [if_neg c4]
        show Ev 2 m_Tp_read 9 _ [] σ m (some (vi p)) σ (mu m 17 3 2)
        refine Ev.iload d_Tp_read_9 rfl ?_
        refine Ev.aload_n d_Tp_read_11 rfl ?_
        refine Ev.gf 1 d_Tp_read_12 lf_Tp_21 rfl rfl (fi_17 hF) (by decide) ?_
        rw [e]
        refine Ev.icmp_ge (tgt := 170) d_Tp_read_15 rfl (by first | omega | (simp [mu]; done) | (simp [mu]; omega)) (by first | omega | (simp [mu]; done) | (simp [mu]; omega)) (fun hb15 => by exfalso; first | omega | simp at hb15 | contradiction) (fun hb15 => ?_)
        refine Ev.iload d_Tp_read_18 rfl ?_
        refine Ev.bipush d_Tp_read_20 rfl ?_
        refine Ev.icmp_ge (tgt := 170) d_Tp_read_22 rfl (by first | omega | (simp [mu]; done) | (simp [mu]; omega)) (by first | omega | (simp [mu]; done) | (simp [mu]; omega)) (fun hb22 => by exfalso; first | omega | simp at hb22 | contradiction) (fun hb22 => ?_)
        refine Ev.aload_n d_Tp_read_25 rfl ?_
        refine Ev.gr 0 d_Tp_read_26 lf_Tp_11 rfl rfl (fi_17 hF) (by decide) (fr_17_0 hF) ?_
        refine Ev.iload d_Tp_read_29 rfl ?_
        refine Ev.baload d_Tp_read_31 (fi_18 hF) (by first | omega | (simp [mu]; done) | (simp [mu]; omega)) ?_
        rw [e18]
        refine Ev.istore_5 d_Tp_read_32 rfl ?_
        refine Ev.iload d_Tp_read_34 rfl ?_
        refine Ev.bipush d_Tp_read_36 rfl ?_
        refine Ev.icmp_ne (tgt := 44) d_Tp_read_38 rfl (by first | omega | (simp [mu]; done) | (simp [mu]; omega)) (by first | omega | (simp [mu]; done) | (simp [mu]; omega)) (fun hb38 => ?_) (fun hb38 => by exfalso; first | omega | simp at hb38 | contradiction)
        refine Ev.iload d_Tp_read_44 rfl ?_
        refine Ev.bipush d_Tp_read_46 rfl ?_
        refine Ev.icmp_lt (tgt := 62) d_Tp_read_48 rfl (by first | omega | (simp [mu]; done) | (simp [mu]; omega)) (by first | omega | (simp [mu]; done) | (simp [mu]; omega)) (fun hb48 => by exfalso; first | omega | simp at hb48 | contradiction) (fun hb48 => ?_)
        refine Ev.iload d_Tp_read_51 rfl ?_
        refine Ev.bipush d_Tp_read_53 rfl ?_
        refine Ev.icmp_gt (tgt := 62) d_Tp_read_55 rfl (by first | omega | (simp [mu]; done) | (simp [mu]; omega)) (by first | omega | (simp [mu]; done) | (simp [mu]; omega)) (fun hb55 => by exfalso; first | omega | simp at hb55 | contradiction) (fun hb55 => ?_)
        refine Ev.iconst d_Tp_read_58 ?_
        refine Ev.goto (tgt := 63) d_Tp_read_59 rfl ?_
        refine Ev.istore_6 d_Tp_read_63 rfl ?_
        refine Ev.iload d_Tp_read_65 rfl ?_
        refine Ev.if_ne (tgt := 92) d_Tp_read_67 rfl (by first | omega | (simp [mu]; done) | (simp [mu]; omega)) (fun hb67 => ?_) (fun hb67 => by exfalso; first | omega | simp at hb67 | contradiction)
        refine Ev.iload d_Tp_read_92 rfl ?_
        refine Ev.iload_n d_Tp_read_94 rfl ?_
        refine Ev.iconst d_Tp_read_95 ?_
        refine Ev.icmp_ne (tgt := 103) d_Tp_read_96 rfl (by first | omega | (simp [mu]; done) | (simp [mu]; omega)) (by first | omega | (simp [mu]; done) | (simp [mu]; omega)) (fun hb96 => by exfalso; first | omega | simp at hb96 | contradiction) (fun hb96 => ?_)
        refine Ev.iconst d_Tp_read_99 ?_
        refine Ev.goto (tgt := 104) d_Tp_read_100 rfl ?_
        refine Ev.icmp_ne (tgt := 115) d_Tp_read_104 rfl (by first | omega | (simp [mu]; done) | (simp [mu]; omega)) (by first | omega | (simp [mu]; done) | (simp [mu]; omega)) (fun hb104 => by exfalso; first | omega | simp at hb104 | contradiction) (fun hb104 => ?_)
        refine Ev.aload_n d_Tp_read_107 rfl ?_
        refine Ev.iload d_Tp_read_108 rfl ?_
        refine Ev.iconst d_Tp_read_110 ?_
        refine Ev.callV d_Tp_read_111 mt_Tp_failAt lk_Tp_27 in_Tp_failAt se_Tp_failAt rfl (Nat.le_of_ble_eq_true rfl) rfl (Nat.le_of_ble_eq_true rfl) (by decide) (fi_17 hF) (by decide) rfl rfl (c_Tp_failAt hF) ?_
        exact Ev.to (Ev.ireturn d_Tp_read_114 rfl) rfl rfl
    rw [if_neg c3]
    by_cases c4 : c = 97 ∨ c = 98
    · rw [if_pos c4]
      show Ev 2 m_Tp_read 9 _ [] σ m (some (vi p)) σ (mu m 17 3 2)
      refine Ev.iload d_Tp_read_9 rfl ?_
      refine Ev.aload_n d_Tp_read_11 rfl ?_
      refine Ev.gf 1 d_Tp_read_12 lf_Tp_21 rfl rfl (fi_17 hF) (by decide) ?_
      rw [e]
      refine Ev.icmp_ge (tgt := 170) d_Tp_read_15 rfl (by first | omega | (simp [mu]; done) | (simp [mu]; omega)) (by first | omega | (simp [mu]; done) | (simp [mu]; omega)) (fun hb15 => by exfalso; first | omega | simp at hb15 | contradiction) (fun hb15 => ?_)
      refine Ev.iload d_Tp_read_18 rfl ?_
      refine Ev.bipush d_Tp_read_20 rfl ?_
      refine Ev.icmp_ge (tgt := 170) d_Tp_read_22 rfl (by first | omega | (simp [mu]; done) | (simp [mu]; omega)) (by first | omega | (simp [mu]; done) | (simp [mu]; omega)) (fun hb22 => by exfalso; first | omega | simp at hb22 | contradiction) (fun hb22 => ?_)
      refine Ev.aload_n d_Tp_read_25 rfl ?_
      refine Ev.gr 0 d_Tp_read_26 lf_Tp_11 rfl rfl (fi_17 hF) (by decide) (fr_17_0 hF) ?_
      refine Ev.iload d_Tp_read_29 rfl ?_
      refine Ev.baload d_Tp_read_31 (fi_18 hF) (by first | omega | (simp [mu]; done) | (simp [mu]; omega)) ?_
      rw [e18]
      refine Ev.istore_5 d_Tp_read_32 rfl ?_
      refine Ev.iload d_Tp_read_34 rfl ?_
      refine Ev.bipush d_Tp_read_36 rfl ?_
      refine Ev.icmp_ne (tgt := 44) d_Tp_read_38 rfl (by first | omega | (simp [mu]; done) | (simp [mu]; omega)) (by first | omega | (simp [mu]; done) | (simp [mu]; omega)) (fun hb38 => ?_) (fun hb38 => by exfalso; first | omega | simp at hb38 | contradiction)
      refine Ev.iload d_Tp_read_44 rfl ?_
      refine Ev.bipush d_Tp_read_46 rfl ?_
      refine Ev.icmp_lt (tgt := 62) d_Tp_read_48 rfl (by first | omega | (simp [mu]; done) | (simp [mu]; omega)) (by first | omega | (simp [mu]; done) | (simp [mu]; omega)) (fun hb48 => by exfalso; first | omega | simp at hb48 | contradiction) (fun hb48 => ?_)
      refine Ev.iload d_Tp_read_51 rfl ?_
      refine Ev.bipush d_Tp_read_53 rfl ?_
      refine Ev.icmp_gt (tgt := 62) d_Tp_read_55 rfl (by first | omega | (simp [mu]; done) | (simp [mu]; omega)) (by first | omega | (simp [mu]; done) | (simp [mu]; omega)) (fun hb55 => ?_) (fun hb55 => by exfalso; first | omega | simp at hb55 | contradiction)
      refine Ev.iconst d_Tp_read_62 ?_
      refine Ev.istore_6 d_Tp_read_63 rfl ?_
      refine Ev.iload d_Tp_read_65 rfl ?_
      refine Ev.if_ne (tgt := 92) d_Tp_read_67 rfl (by first | omega | (simp [mu]; done) | (simp [mu]; omega)) (fun hb67 => by exfalso; first | omega | simp at hb67 | contradiction) (fun hb67 => ?_)
      refine Ev.iload d_Tp_read_70 rfl ?_
      refine Ev.bipush d_Tp_read_72 rfl ?_
      refine Ev.icmp_eq (tgt := 92) d_Tp_read_74 rfl (by first | omega | (simp [mu]; done) | (simp [mu]; omega)) (by first | omega | (simp [mu]; done) | (simp [mu]; omega)) (fun hb74 => ?_) (fun hb74 => ?_)
      · refine Ev.iload d_Tp_read_92 rfl ?_
        refine Ev.iload_n d_Tp_read_94 rfl ?_
        refine Ev.iconst d_Tp_read_95 ?_
        refine Ev.icmp_ne (tgt := 103) d_Tp_read_96 rfl (by first | omega | (simp [mu]; done) | (simp [mu]; omega)) (by first | omega | (simp [mu]; done) | (simp [mu]; omega)) (fun hb96 => ?_) (fun hb96 => by exfalso; first | omega | simp at hb96 | contradiction)
        refine Ev.iconst d_Tp_read_103 ?_
        refine Ev.icmp_ne (tgt := 115) d_Tp_read_104 rfl (by first | omega | (simp [mu]; done) | (simp [mu]; omega)) (by first | omega | (simp [mu]; done) | (simp [mu]; omega)) (fun hb104 => by exfalso; first | omega | simp at hb104 | contradiction) (fun hb104 => ?_)
        refine Ev.aload_n d_Tp_read_107 rfl ?_
        refine Ev.iload d_Tp_read_108 rfl ?_
        refine Ev.iconst d_Tp_read_110 ?_
        refine Ev.callV d_Tp_read_111 mt_Tp_failAt lk_Tp_27 in_Tp_failAt se_Tp_failAt rfl (Nat.le_of_ble_eq_true rfl) rfl (Nat.le_of_ble_eq_true rfl) (by decide) (fi_17 hF) (by decide) rfl rfl (c_Tp_failAt hF) ?_
        exact Ev.to (Ev.ireturn d_Tp_read_114 rfl) rfl rfl
      · refine Ev.iload d_Tp_read_77 rfl ?_
        refine Ev.bipush d_Tp_read_79 rfl ?_
        refine Ev.icmp_eq (tgt := 92) d_Tp_read_81 rfl (by first | omega | (simp [mu]; done) | (simp [mu]; omega)) (by first | omega | (simp [mu]; done) | (simp [mu]; omega)) (fun hb81 => ?_) (fun hb81 => by exfalso; first | omega | simp at hb81 | contradiction)
        refine Ev.iload d_Tp_read_92 rfl ?_
        refine Ev.iload_n d_Tp_read_94 rfl ?_
        refine Ev.iconst d_Tp_read_95 ?_
        refine Ev.icmp_ne (tgt := 103) d_Tp_read_96 rfl (by first | omega | (simp [mu]; done) | (simp [mu]; omega)) (by first | omega | (simp [mu]; done) | (simp [mu]; omega)) (fun hb96 => ?_) (fun hb96 => by exfalso; first | omega | simp at hb96 | contradiction)
        refine Ev.iconst d_Tp_read_103 ?_
        refine Ev.icmp_ne (tgt := 115) d_Tp_read_104 rfl (by first | omega | (simp [mu]; done) | (simp [mu]; omega)) (by first | omega | (simp [mu]; done) | (simp [mu]; omega)) (fun hb104 => by exfalso; first | omega | simp at hb104 | contradiction) (fun hb104 => ?_)
        refine Ev.aload_n d_Tp_read_107 rfl ?_
        refine Ev.iload d_Tp_read_108 rfl ?_
        refine Ev.iconst d_Tp_read_110 ?_
        refine Ev.callV d_Tp_read_111 mt_Tp_failAt lk_Tp_27 in_Tp_failAt se_Tp_failAt rfl (Nat.le_of_ble_eq_true rfl) rfl (Nat.le_of_ble_eq_true rfl) (by decide) (fi_17 hF) (by decide) rfl rfl (c_Tp_failAt hF) ?_
        exact Ev.to (Ev.ireturn d_Tp_read_114 rfl) rfl rfl
    rw [if_neg c4]
    by_cases c5 : 5 < s + c - 48
    · rw [if_pos c5]
      show Ev 2 m_Tp_read 9 _ [] σ m (some (vi p)) σ (mu m 17 3 3)
      refine Ev.iload d_Tp_read_9 rfl ?_
      refine Ev.aload_n d_Tp_read_11 rfl ?_
      refine Ev.gf 1 d_Tp_read_12 lf_Tp_21 rfl rfl (fi_17 hF) (by decide) ?_
      rw [e]
      refine Ev.icmp_ge (tgt := 170) d_Tp_read_15 rfl (by first | omega | (simp [mu]; done) | (simp [mu]; omega)) (by first | omega | (simp [mu]; done) | (simp [mu]; omega)) (fun hb15 => by exfalso; first | omega | simp at hb15 | contradiction) (fun hb15 => ?_)
      refine Ev.iload d_Tp_read_18 rfl ?_
      refine Ev.bipush d_Tp_read_20 rfl ?_
      refine Ev.icmp_ge (tgt := 170) d_Tp_read_22 rfl (by first | omega | (simp [mu]; done) | (simp [mu]; omega)) (by first | omega | (simp [mu]; done) | (simp [mu]; omega)) (fun hb22 => by exfalso; first | omega | simp at hb22 | contradiction) (fun hb22 => ?_)
      refine Ev.aload_n d_Tp_read_25 rfl ?_
      refine Ev.gr 0 d_Tp_read_26 lf_Tp_11 rfl rfl (fi_17 hF) (by decide) (fr_17_0 hF) ?_
      refine Ev.iload d_Tp_read_29 rfl ?_
      refine Ev.baload d_Tp_read_31 (fi_18 hF) (by first | omega | (simp [mu]; done) | (simp [mu]; omega)) ?_
      rw [e18]
      refine Ev.istore_5 d_Tp_read_32 rfl ?_
      refine Ev.iload d_Tp_read_34 rfl ?_
      refine Ev.bipush d_Tp_read_36 rfl ?_
      refine Ev.icmp_ne (tgt := 44) d_Tp_read_38 rfl (by first | omega | (simp [mu]; done) | (simp [mu]; omega)) (by first | omega | (simp [mu]; done) | (simp [mu]; omega)) (fun hb38 => ?_) (fun hb38 => by exfalso; first | omega | simp at hb38 | contradiction)
      refine Ev.iload d_Tp_read_44 rfl ?_
      refine Ev.bipush d_Tp_read_46 rfl ?_
      refine Ev.icmp_lt (tgt := 62) d_Tp_read_48 rfl (by first | omega | (simp [mu]; done) | (simp [mu]; omega)) (by first | omega | (simp [mu]; done) | (simp [mu]; omega)) (fun hb48 => by exfalso; first | omega | simp at hb48 | contradiction) (fun hb48 => ?_)
      refine Ev.iload d_Tp_read_51 rfl ?_
      refine Ev.bipush d_Tp_read_53 rfl ?_
      refine Ev.icmp_gt (tgt := 62) d_Tp_read_55 rfl (by first | omega | (simp [mu]; done) | (simp [mu]; omega)) (by first | omega | (simp [mu]; done) | (simp [mu]; omega)) (fun hb55 => by exfalso; first | omega | simp at hb55 | contradiction) (fun hb55 => ?_)
      refine Ev.iconst d_Tp_read_58 ?_
      refine Ev.goto (tgt := 63) d_Tp_read_59 rfl ?_
      refine Ev.istore_6 d_Tp_read_63 rfl ?_
      refine Ev.iload d_Tp_read_65 rfl ?_
      refine Ev.if_ne (tgt := 92) d_Tp_read_67 rfl (by first | omega | (simp [mu]; done) | (simp [mu]; omega)) (fun hb67 => ?_) (fun hb67 => by exfalso; first | omega | simp at hb67 | contradiction)
      refine Ev.iload d_Tp_read_92 rfl ?_
      refine Ev.iload_n d_Tp_read_94 rfl ?_
      refine Ev.iconst d_Tp_read_95 ?_
      refine Ev.icmp_ne (tgt := 103) d_Tp_read_96 rfl (by first | omega | (simp [mu]; done) | (simp [mu]; omega)) (by first | omega | (simp [mu]; done) | (simp [mu]; omega)) (fun hb96 => ?_) (fun hb96 => by exfalso; first | omega | simp at hb96 | contradiction)
      refine Ev.iconst d_Tp_read_103 ?_
      refine Ev.icmp_ne (tgt := 115) d_Tp_read_104 rfl (by first | omega | (simp [mu]; done) | (simp [mu]; omega)) (by first | omega | (simp [mu]; done) | (simp [mu]; omega)) (fun hb104 => ?_) (fun hb104 => by exfalso; first | omega | simp at hb104 | contradiction)
      refine Ev.iload d_Tp_read_115 rfl ?_
      refine Ev.if_ne (tgt := 129) d_Tp_read_117 rfl (by first | omega | (simp [mu]; done) | (simp [mu]; omega)) (fun hb117 => ?_) (fun hb117 => by exfalso; first | omega | simp at hb117 | contradiction)
      refine Ev.iload_n d_Tp_read_129 rfl ?_
      refine Ev.iload d_Tp_read_130 rfl ?_
      refine Ev.bipush d_Tp_read_132 rfl ?_
      refine Ev.isub d_Tp_read_134 ?_
      refine Ev.iadd d_Tp_read_135 ?_
      refine Ev.istore_2 d_Tp_read_136 rfl ?_
      refine Ev.iload_n d_Tp_read_137 rfl ?_
      refine Ev.iconst d_Tp_read_138 ?_
      refine Ev.icmp_le (tgt := 150) d_Tp_read_139 rfl (by first | omega | (simp [mu]; done) | (simp [mu]; omega)) (by first | omega | (simp [mu]; done) | (simp [mu]; omega)) (fun hb139 => by exfalso; first | omega | simp at hb139 | contradiction) (fun hb139 => ?_)
      refine Ev.aload_n d_Tp_read_142 rfl ?_
      refine Ev.iload d_Tp_read_143 rfl ?_
      refine Ev.iconst d_Tp_read_145 ?_
      refine Ev.callV d_Tp_read_146 mt_Tp_failAt lk_Tp_27 in_Tp_failAt se_Tp_failAt rfl (Nat.le_of_ble_eq_true rfl) rfl (Nat.le_of_ble_eq_true rfl) (by decide) (fi_17 hF) (by decide) rfl rfl (c_Tp_failAt hF) ?_
      exact Ev.to (Ev.ireturn d_Tp_read_149 rfl) rfl rfl
    rw [if_neg c5]
    have hidx : (if l = 97 then (0 : Int) else 6) + c - 48 = 6 * lt4 l + (c - 48) := by
      by_cases h : l = 97
      · rw [if_pos h]; omega
      · rw [if_neg h]; omega
    rw [hidx]
    have htc : tk = c := by omega
    have hpk := pkF_up (R := R) (l := lt4 l) (k := tk - 48) (by omega) (by omega)
    have hr := lp_Tp_read hF hT hK q (p + 1) (-4) (s + (c - 48)) (up R (6 * lt4 l + (c - 48)) (R (6 * lt4 l + (c - 48)) + 1)) (some (vi tk)) (some (vi 1)) (by omega) (by omega) (Or.inl rfl) (by omega)
    rw [← htc] at hr ⊢
    rw [hpk] at hr
    refine Ev.iload d_Tp_read_9 rfl ?_
    refine Ev.aload_n d_Tp_read_11 rfl ?_
    refine Ev.gf 1 d_Tp_read_12 lf_Tp_21 rfl rfl (fi_17 hF) (by decide) ?_
    rw [e]
    refine Ev.icmp_ge (tgt := 170) d_Tp_read_15 rfl (by first | omega | (simp [mu]; done) | (simp [mu]; omega)) (by first | omega | (simp [mu]; done) | (simp [mu]; omega)) (fun hb15 => by exfalso; first | omega | simp at hb15 | contradiction) (fun hb15 => ?_)
    refine Ev.iload d_Tp_read_18 rfl ?_
    refine Ev.bipush d_Tp_read_20 rfl ?_
    refine Ev.icmp_ge (tgt := 170) d_Tp_read_22 rfl (by first | omega | (simp [mu]; done) | (simp [mu]; omega)) (by first | omega | (simp [mu]; done) | (simp [mu]; omega)) (fun hb22 => by exfalso; first | omega | simp at hb22 | contradiction) (fun hb22 => ?_)
    refine Ev.aload_n d_Tp_read_25 rfl ?_
    refine Ev.gr 0 d_Tp_read_26 lf_Tp_11 rfl rfl (fi_17 hF) (by decide) (fr_17_0 hF) ?_
    refine Ev.iload d_Tp_read_29 rfl ?_
    refine Ev.baload d_Tp_read_31 (fi_18 hF) (by first | omega | (simp [mu]; done) | (simp [mu]; omega)) ?_
    rw [e18]
    refine Ev.istore_5 d_Tp_read_32 rfl ?_
    refine Ev.iload d_Tp_read_34 rfl ?_
    refine Ev.bipush d_Tp_read_36 rfl ?_
    refine Ev.icmp_ne (tgt := 44) d_Tp_read_38 rfl (by first | omega | (simp [mu]; done) | (simp [mu]; omega)) (by first | omega | (simp [mu]; done) | (simp [mu]; omega)) (fun hb38 => ?_) (fun hb38 => by exfalso; first | omega | simp at hb38 | contradiction)
    refine Ev.iload d_Tp_read_44 rfl ?_
    refine Ev.bipush d_Tp_read_46 rfl ?_
    refine Ev.icmp_lt (tgt := 62) d_Tp_read_48 rfl (by first | omega | (simp [mu]; done) | (simp [mu]; omega)) (by first | omega | (simp [mu]; done) | (simp [mu]; omega)) (fun hb48 => by exfalso; first | omega | simp at hb48 | contradiction) (fun hb48 => ?_)
    refine Ev.iload d_Tp_read_51 rfl ?_
    refine Ev.bipush d_Tp_read_53 rfl ?_
    refine Ev.icmp_gt (tgt := 62) d_Tp_read_55 rfl (by first | omega | (simp [mu]; done) | (simp [mu]; omega)) (by first | omega | (simp [mu]; done) | (simp [mu]; omega)) (fun hb55 => by exfalso; first | omega | simp at hb55 | contradiction) (fun hb55 => ?_)
    refine Ev.iconst d_Tp_read_58 ?_
    refine Ev.goto (tgt := 63) d_Tp_read_59 rfl ?_
    refine Ev.istore_6 d_Tp_read_63 rfl ?_
    refine Ev.iload d_Tp_read_65 rfl ?_
    refine Ev.if_ne (tgt := 92) d_Tp_read_67 rfl (by first | omega | (simp [mu]; done) | (simp [mu]; omega)) (fun hb67 => ?_) (fun hb67 => by exfalso; first | omega | simp at hb67 | contradiction)
    refine Ev.iload d_Tp_read_92 rfl ?_
    refine Ev.iload_n d_Tp_read_94 rfl ?_
    refine Ev.iconst d_Tp_read_95 ?_
    refine Ev.icmp_ne (tgt := 103) d_Tp_read_96 rfl (by first | omega | (simp [mu]; done) | (simp [mu]; omega)) (by first | omega | (simp [mu]; done) | (simp [mu]; omega)) (fun hb96 => ?_) (fun hb96 => by exfalso; first | omega | simp at hb96 | contradiction)
    refine Ev.iconst d_Tp_read_103 ?_
    refine Ev.icmp_ne (tgt := 115) d_Tp_read_104 rfl (by first | omega | (simp [mu]; done) | (simp [mu]; omega)) (by first | omega | (simp [mu]; done) | (simp [mu]; omega)) (fun hb104 => ?_) (fun hb104 => by exfalso; first | omega | simp at hb104 | contradiction)
    refine Ev.iload d_Tp_read_115 rfl ?_
    refine Ev.if_ne (tgt := 129) d_Tp_read_117 rfl (by first | omega | (simp [mu]; done) | (simp [mu]; omega)) (fun hb117 => ?_) (fun hb117 => by exfalso; first | omega | simp at hb117 | contradiction)
    refine Ev.iload_n d_Tp_read_129 rfl ?_
    refine Ev.iload d_Tp_read_130 rfl ?_
    refine Ev.bipush d_Tp_read_132 rfl ?_
    refine Ev.isub d_Tp_read_134 ?_
    refine Ev.iadd d_Tp_read_135 ?_
    refine Ev.istore_2 d_Tp_read_136 rfl ?_
    refine Ev.iload_n d_Tp_read_137 rfl ?_
    refine Ev.iconst d_Tp_read_138 ?_
    refine Ev.icmp_le (tgt := 150) d_Tp_read_139 rfl (by first | omega | (simp [mu]; done) | (simp [mu]; omega)) (by first | omega | (simp [mu]; done) | (simp [mu]; omega)) (fun hb139 => ?_) (fun hb139 => by exfalso; first | omega | simp at hb139 | contradiction)
    refine Ev.iload_n d_Tp_read_150 rfl ?_
    refine Ev.iload_n d_Tp_read_151 rfl ?_
    refine Ev.iload d_Tp_read_152 rfl ?_
    refine Ev.bipush d_Tp_read_154 rfl ?_
    refine Ev.isub d_Tp_read_156 ?_
    refine Ev.callS d_Tp_read_157 mt_Rows_one lk_Tp_31 st_Rows_one rfl (Nat.le_of_ble_eq_true rfl) rfl (Nat.le_of_ble_eq_true rfl) (by decide) rfl (c_Rows_one (by omega) (by omega)) ?_
    refine Ev.iadd d_Tp_read_160 ?_
    refine Ev.istore_1 d_Tp_read_161 rfl ?_
    refine Ev.iconst d_Tp_read_162 ?_
    refine Ev.istore_3 d_Tp_read_163 rfl ?_
    refine Ev.iinc_4 d_Tp_read_164 rfl ?_
    refine Ev.goto (tgt := 9) d_Tp_read_167 rfl ?_
    exact hr
theorem c_Tp_read (hF : FcS σ) {T : TPt} (hT : TpM m T) (hK : TK T) : Call 2 m_Tp_read [vr 17] σ m (some (vi (rdV (txt T)))) σ (rdE m (txt T)) := by
  show Ev 2 m_Tp_read 0 [some (vr 17), none, none, none, none, none, none] [] σ m _ σ (rdE m (txt T))
  have k := hK.1
  refine Ev.iconst d_Tp_read_0 ?_
  refine Ev.istore_1 d_Tp_read_1 rfl ?_
  refine Ev.iconst d_Tp_read_2 ?_
  refine Ev.istore_2 d_Tp_read_3 rfl ?_
  refine Ev.iconst d_Tp_read_4 ?_
  refine Ev.istore_3 d_Tp_read_5 rfl ?_
  refine Ev.iconst d_Tp_read_6 ?_
  refine Ev.istore_4 d_Tp_read_7 rfl ?_
  exact lp_Tp_read hF hT hK T.1.toNat 0 (-4) 0 (fun _ => 0) none none (by omega) (by decide) (Or.inl rfl) (by decide)
end
