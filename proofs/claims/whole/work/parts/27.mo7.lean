section
variable {σ : Sg} {m : Mm}
/-! parts -/
def two (s : Int) : Nat := 2 ^ (fS s).toNat ||| 2 ^ (tS s).toNat
def pass : List Int → Nat → Nat
  | [], M => M
  | s :: t, M => pass t (if M &&& two s = 0 then M else M ||| two s)
def itp (l : List Int) : Nat → Nat → Nat
  | 0, M => M
  | r + 1, M => itp l r (pass l M)
def prt (l : List Int) : Nat → Nat → Nat → Int → Int
  | 0, _, _, c => c
  | n + 1, f, seen, c => if seen / 2 ^ f % 2 = 0 then prt l n (f + 1) (seen ||| itp l 4 (2 ^ f)) (c + 1) else prt l n (f + 1) seen c
theorem two_lt (s : Int) : two s < 16 := by
  have h1 := fS_b s
  have h2 := tS_b s
  have e1 : 2 ^ (fS s).toNat < 2 ^ 4 := Nat.pow_lt_pow_right (by decide) (by omega)
  have e2 : 2 ^ (tS s).toNat < 2 ^ 4 := Nat.pow_lt_pow_right (by decide) (by omega)
  exact Nat.or_lt_two_pow e1 e2
theorem pass_lt : ∀ (l : List Int) (M : Nat), M < 16 → pass l M < 16
  | [], M, h => h
  | s :: t, M, h => by
    simp only [pass]
    refine pass_lt t _ ?_
    split
    · exact h
    · exact Nat.or_lt_two_pow (n := 4) h (two_lt s)
theorem itp_lt (l : List Int) : ∀ (r M : Nat), M < 16 → itp l r M < 16
  | 0, M, h => h
  | r + 1, M, h => itp_lt l r _ (pass_lt l M h)
theorem lp3_Mo_parts (hM : MoS σ) {p c se f rd n : Int} {r : Option AV} {m' : Mm} (hp : 0 ≤ p ∧ p ≤ 8) (hn : m 59 p = n) (h6 : 0 ≤ n ∧ n ≤ 6) : ∀ (l : List Int) (k : Int) (M : Nat) (x8 : Option AV), At m k l → k + l.length = 6 * p + n → 6 * p ≤ k → M < 16 → (∀ (x7 : Int) (x8 : Option AV), Ev 1 m_Mo_partsOf 113 [some (vr 57), some (vi p), some (vi c), some (vi se), some (vi f), some (vi (pass l M : Nat)), some (vi rd), some (vi x7), x8] [] σ m r σ m') → Ev 1 m_Mo_partsOf 51 [some (vr 57), some (vi p), some (vi c), some (vi se), some (vi f), some (vi (M : Nat)), some (vi rd), some (vi k), x8] [] σ m r σ m'
  | [], k, M, x8, hA, he, hk, hm, cont => by
    simp only [List.length_nil] at he
    refine Ev.iload d_Mo_partsOf_51 rfl ?_
    refine Ev.bipush d_Mo_partsOf_53 rfl ?_
    refine Ev.iload_n d_Mo_partsOf_55 rfl ?_
    refine Ev.imul d_Mo_partsOf_56 ?_
    refine Ev.aload_n d_Mo_partsOf_57 rfl ?_
    refine Ev.gr 2 d_Mo_partsOf_58 lf_Mo_13 rfl rfl (is_57 hM) (by decide) (rf_57_2 hM) ?_
    refine Ev.iload_n d_Mo_partsOf_61 rfl ?_
    refine Ev.iaload d_Mo_partsOf_62 (is_59 hM) (by first | omega | (simp [mu]; done) | (simp [mu]; omega)) ?_
    refine Ev.iadd d_Mo_partsOf_63 ?_
    refine Ev.icmp_ge (tgt := 113) d_Mo_partsOf_64 rfl (by first | omega | (simp [mu]; done) | (simp [mu]; omega)) (by first | omega | (simp [mu]; done) | (simp [mu]; omega)) (fun hb64 => ?_) (fun hb64 => by exfalso; first | omega | simp at hb64 | contradiction)
    exact cont _ _
  | s :: t, k, M, x8, hA, he, hk, hm, cont => by
    obtain ⟨⟨e1, e2, e3⟩, hA2⟩ := hA
    simp only [List.length_cons] at he
    have d1 := fS_b s
    have d2 := tS_b s
    have hT := two_lt s
    have hMT : M &&& two s ≤ M := Nat.and_le_left
    have hor : M ||| two s < 16 := Nat.or_lt_two_pow (n := 4) hm hT
    refine Ev.iload d_Mo_partsOf_51 rfl ?_
    refine Ev.bipush d_Mo_partsOf_53 rfl ?_
    refine Ev.iload_n d_Mo_partsOf_55 rfl ?_
    refine Ev.imul d_Mo_partsOf_56 ?_
    refine Ev.aload_n d_Mo_partsOf_57 rfl ?_
    refine Ev.gr 2 d_Mo_partsOf_58 lf_Mo_13 rfl rfl (is_57 hM) (by decide) (rf_57_2 hM) ?_
    refine Ev.iload_n d_Mo_partsOf_61 rfl ?_
    refine Ev.iaload d_Mo_partsOf_62 (is_59 hM) (by first | omega | (simp [mu]; done) | (simp [mu]; omega)) ?_
    refine Ev.iadd d_Mo_partsOf_63 ?_
    refine Ev.icmp_ge (tgt := 113) d_Mo_partsOf_64 rfl (by first | omega | (simp [mu]; done) | (simp [mu]; omega)) (by first | omega | (simp [mu]; done) | (simp [mu]; omega)) (fun hb64 => by exfalso; first | omega | simp at hb64 | contradiction) (fun hb64 => ?_)
    refine Ev.iconst d_Mo_partsOf_67 ?_
    refine Ev.aload_n d_Mo_partsOf_68 rfl ?_
    refine Ev.gr 3 d_Mo_partsOf_69 lf_Mo_16 rfl rfl (is_57 hM) (by decide) (rf_57_3 hM) ?_
    refine Ev.iload d_Mo_partsOf_72 rfl ?_
    refine Ev.iaload d_Mo_partsOf_74 (is_60 hM) (by first | omega | (simp [mu]; done) | (simp [mu]; omega)) ?_
    refine Ev.ishl d_Mo_partsOf_75 (by first | omega | (simp [mu]; done) | (simp [mu]; omega)) ?_
    rw [show (1 : Int) * 2 ^ (m 60 k).toNat = ((2 ^ (fS s).toNat : Nat) : Int) by rw [e1, Int.one_mul, q_pow]]
    refine Ev.iconst d_Mo_partsOf_76 ?_
    refine Ev.aload_n d_Mo_partsOf_77 rfl ?_
    refine Ev.gr 4 d_Mo_partsOf_78 lf_Mo_19 rfl rfl (is_57 hM) (by decide) (rf_57_4 hM) ?_
    refine Ev.iload d_Mo_partsOf_81 rfl ?_
    refine Ev.iaload d_Mo_partsOf_83 (is_61 hM) (by first | omega | (simp [mu]; done) | (simp [mu]; omega)) ?_
    refine Ev.ishl d_Mo_partsOf_84 (by first | omega | (simp [mu]; done) | (simp [mu]; omega)) ?_
    rw [show (1 : Int) * 2 ^ (m 61 k).toNat = ((2 ^ (tS s).toNat : Nat) : Int) by rw [e2, Int.one_mul, q_pow]]
    refine Ev.ior d_Mo_partsOf_85 (Int.natCast_nonneg _) (Int.natCast_nonneg _) ?_
    simp only [Int.toNat_natCast]
    rw [show ((2 ^ (fS s).toNat ||| 2 ^ (tS s).toNat : Nat) : Int) = ((two s : Nat) : Int) from rfl]
    refine Ev.istore_8 d_Mo_partsOf_86 rfl ?_
    refine Ev.iload d_Mo_partsOf_88 rfl ?_
    refine Ev.iload d_Mo_partsOf_90 rfl ?_
    refine Ev.iload d_Mo_partsOf_92 rfl ?_
    refine Ev.iand d_Mo_partsOf_94 (by first | omega | (simp [mu]; done) | (simp [mu]; omega)) (by first | omega | (simp [mu]; done) | (simp [mu]; omega)) ?_
    simp only [Int.toNat_natCast]
    refine Ev.if_eq (tgt := 103) d_Mo_partsOf_95 rfl (by first | omega | (simp [mu]; done) | (simp [mu]; omega)) (fun hb95 => ?_) (fun hb95 => ?_)
    · refine Ev.iconst d_Mo_partsOf_103 ?_
      refine Ev.ior d_Mo_partsOf_104 (by first | omega | (simp [mu]; done) | (simp [mu]; omega)) (by first | omega | (simp [mu]; done) | (simp [mu]; omega)) ?_
      simp only [Int.toNat_natCast, Int.toNat_zero, Nat.or_zero]
      refine Ev.istore_5 d_Mo_partsOf_105 rfl ?_
      refine Ev.iinc_7 d_Mo_partsOf_107 rfl ?_
      refine Ev.goto (tgt := 51) d_Mo_partsOf_110 rfl ?_
      exact lp3_Mo_parts hM hp hn h6 t (k + 1) _ _ hA2 (by omega) (by omega) (by omega) (fun x7 x8 => by have := cont x7 x8; rw [pass] at this; first | (rw [if_pos (by omega)] at this; exact this) | (rw [if_neg (by omega)] at this; exact this))
    · refine Ev.iload d_Mo_partsOf_98 rfl ?_
      refine Ev.goto (tgt := 104) d_Mo_partsOf_100 rfl ?_
      refine Ev.ior d_Mo_partsOf_104 (by first | omega | (simp [mu]; done) | (simp [mu]; omega)) (by first | omega | (simp [mu]; done) | (simp [mu]; omega)) ?_
      simp only [Int.toNat_natCast, Int.toNat_zero, Nat.or_zero]
      refine Ev.istore_5 d_Mo_partsOf_105 rfl ?_
      refine Ev.iinc_7 d_Mo_partsOf_107 rfl ?_
      refine Ev.goto (tgt := 51) d_Mo_partsOf_110 rfl ?_
      exact lp3_Mo_parts hM hp hn h6 t (k + 1) _ _ hA2 (by omega) (by omega) (by omega) (fun x7 x8 => by have := cont x7 x8; rw [pass] at this; first | (rw [if_pos (by omega)] at this; exact this) | (rw [if_neg (by omega)] at this; exact this))
theorem lp2_Mo_parts (hM : MoS σ) {p c se f n : Int} {l : List Int} {r : Option AV} {m' : Mm} (hp : 0 ≤ p ∧ p ≤ 8) (hn : m 59 p = n) (h6 : 0 ≤ n ∧ n ≤ 6) (hl : n = l.length) (hA : At m (6 * p) l) : ∀ (q : Nat) (rd : Int) (M : Nat) (x7 x8 : Option AV), rd + q = 4 → 0 ≤ rd → M < 16 → (∀ (rd : Int) (x7 x8 : Option AV), Ev 1 m_Mo_partsOf 119 [some (vr 57), some (vi p), some (vi c), some (vi se), some (vi f), some (vi (itp l q M : Nat)), some (vi rd), x7, x8] [] σ m r σ m') → Ev 1 m_Mo_partsOf 39 [some (vr 57), some (vi p), some (vi c), some (vi se), some (vi f), some (vi (M : Nat)), some (vi rd), x7, x8] [] σ m r σ m'
  | 0, rd, M, x7, x8, hr, h0, hm, cont => by
    refine Ev.iload d_Mo_partsOf_39 rfl ?_
    refine Ev.iconst d_Mo_partsOf_41 ?_
    refine Ev.icmp_ge (tgt := 119) d_Mo_partsOf_42 rfl (by first | omega | (simp [mu]; done) | (simp [mu]; omega)) (by first | omega | (simp [mu]; done) | (simp [mu]; omega)) (fun hb42 => ?_) (fun hb42 => by exfalso; first | omega | simp at hb42 | contradiction)
    exact cont _ _ _
  | q + 1, rd, M, x7, x8, hr, h0, hm, cont => by
    refine Ev.iload d_Mo_partsOf_39 rfl ?_
    refine Ev.iconst d_Mo_partsOf_41 ?_
    refine Ev.icmp_ge (tgt := 119) d_Mo_partsOf_42 rfl (by first | omega | (simp [mu]; done) | (simp [mu]; omega)) (by first | omega | (simp [mu]; done) | (simp [mu]; omega)) (fun hb42 => by exfalso; first | omega | simp at hb42 | contradiction) (fun hb42 => ?_)
    refine Ev.bipush d_Mo_partsOf_45 rfl ?_
    refine Ev.iload_n d_Mo_partsOf_47 rfl ?_
    refine Ev.imul d_Mo_partsOf_48 ?_
    refine Ev.istore_7 d_Mo_partsOf_49 rfl ?_
    refine lp3_Mo_parts hM hp hn h6 l _ M _ hA (by omega) (by omega) hm (fun y7 y8 => ?_)
    refine Ev.iinc_6 d_Mo_partsOf_113 rfl ?_
    refine Ev.goto (tgt := 39) d_Mo_partsOf_116 rfl ?_
    exact lp2_Mo_parts hM hp hn h6 hl hA q (rd + 1) _ _ _ (by omega) (by omega) (pass_lt l M hm) cont
theorem lp1_Mo_parts (hM : MoS σ) {p d n : Int} {l : List Int} (hp : 0 ≤ p ∧ p ≤ 8) (hd : m 58 p = d) (hd4 : 0 ≤ d ∧ d ≤ 4) (hn : m 59 p = n) (h6 : 0 ≤ n ∧ n ≤ 6) (hl : n = l.length) (hA : At m (6 * p) l) : ∀ (q f seen : Nat) (c : Int) (x5 x6 x7 x8 : Option AV), (f : Int) + q = d → seen < 16 → Ev 1 m_Mo_partsOf 7 [some (vr 57), some (vi p), some (vi c), some (vi (seen : Nat)), some (vi (f : Nat)), x5, x6, x7, x8] [] σ m (some (vi (prt l q f seen c))) σ m
  | 0, f, seen, c, x5, x6, x7, x8, hf, hs => by
    refine Ev.iload d_Mo_partsOf_7 rfl ?_
    refine Ev.aload_n d_Mo_partsOf_9 rfl ?_
    refine Ev.gr 1 d_Mo_partsOf_10 lf_Mo_7 rfl rfl (is_57 hM) (by decide) (rf_57_1 hM) ?_
    refine Ev.iload_n d_Mo_partsOf_13 rfl ?_
    refine Ev.iaload d_Mo_partsOf_14 (is_58 hM) (by first | omega | (simp [mu]; done) | (simp [mu]; omega)) ?_
    refine Ev.icmp_ge (tgt := 130) d_Mo_partsOf_15 rfl (by first | omega | (simp [mu]; done) | (simp [mu]; omega)) (by first | omega | (simp [mu]; done) | (simp [mu]; omega)) (fun hb15 => ?_) (fun hb15 => by exfalso; first | omega | simp at hb15 | contradiction)
    refine Ev.iload_n d_Mo_partsOf_130 rfl ?_
    exact Ev.to (Ev.ireturn d_Mo_partsOf_131 rfl) rfl rfl
  | q + 1, f, seen, c, x5, x6, x7, x8, hf, hs => by
    have ef : ((f : Nat) : Int).toNat = f := by omega
    have hf4 : f < 4 := by omega
    have e2 : (seen : Int) / 2 ^ ((f : Nat) : Int).toNat % 2 ^ 1 = ((seen / 2 ^ f % 2 : Nat) : Int) := by
      rw [ef, ← q_pow, ← q_pow, ← Int.natCast_ediv, ← Int.natCast_emod]
    have hlt : 2 ^ f < 16 := Nat.pow_lt_pow_right (n := 4) (by decide) hf4
    have hor : seen ||| itp l 4 (2 ^ f) < 16 := Nat.or_lt_two_pow (n := 4) hs (itp_lt l 4 _ hlt)
    refine Ev.iload d_Mo_partsOf_7 rfl ?_
    refine Ev.aload_n d_Mo_partsOf_9 rfl ?_
    refine Ev.gr 1 d_Mo_partsOf_10 lf_Mo_7 rfl rfl (is_57 hM) (by decide) (rf_57_1 hM) ?_
    refine Ev.iload_n d_Mo_partsOf_13 rfl ?_
    refine Ev.iaload d_Mo_partsOf_14 (is_58 hM) (by first | omega | (simp [mu]; done) | (simp [mu]; omega)) ?_
    refine Ev.icmp_ge (tgt := 130) d_Mo_partsOf_15 rfl (by first | omega | (simp [mu]; done) | (simp [mu]; omega)) (by first | omega | (simp [mu]; done) | (simp [mu]; omega)) (fun hb15 => by exfalso; first | omega | simp at hb15 | contradiction) (fun hb15 => ?_)
    refine Ev.iload_n d_Mo_partsOf_18 rfl ?_
    refine Ev.iload d_Mo_partsOf_19 rfl ?_
    refine Ev.ishr d_Mo_partsOf_21 (by first | omega | (simp [mu]; done) | (simp [mu]; omega)) (by first | omega | (simp [mu]; done) | (simp [mu]; omega)) ?_
    refine Ev.iconst d_Mo_partsOf_22 ?_
    refine Ev.iandm 1 d_Mo_partsOf_23 (by decide) rfl ?_
    rw [e2]
    refine Ev.if_ne (tgt := 124) d_Mo_partsOf_24 rfl (by first | omega | (simp [mu]; done) | (simp [mu]; omega)) (fun hb24 => ?_) (fun hb24 => ?_)
    · refine Ev.iinc_4 d_Mo_partsOf_124 rfl ?_
      refine Ev.goto (tgt := 7) d_Mo_partsOf_127 rfl ?_
      exact Ev.to (lp1_Mo_parts hM hp hd hd4 hn h6 hl hA q (f + 1) seen c _ _ _ _ (by omega) hs) (by rw [prt, if_neg (by omega)]) rfl
    · refine Ev.iinc_2 d_Mo_partsOf_27 rfl ?_
      refine Ev.iconst d_Mo_partsOf_30 ?_
      refine Ev.iload d_Mo_partsOf_31 rfl ?_
      refine Ev.ishl d_Mo_partsOf_33 (by first | omega | (simp [mu]; done) | (simp [mu]; omega)) ?_
      rw [show (1 : Int) * 2 ^ ((f : Nat) : Int).toNat = ((2 ^ f : Nat) : Int) by rw [ef, Int.one_mul, q_pow]]
      refine Ev.istore_5 d_Mo_partsOf_34 rfl ?_
      refine Ev.iconst d_Mo_partsOf_36 ?_
      refine Ev.istore_6 d_Mo_partsOf_37 rfl ?_
      refine lp2_Mo_parts hM hp hn h6 hl hA 4 0 _ _ _ (by omega) (by omega) hlt (fun rd y7 y8 => ?_)
      refine Ev.iload_n d_Mo_partsOf_119 rfl ?_
      refine Ev.iload d_Mo_partsOf_120 rfl ?_
      refine Ev.ior d_Mo_partsOf_122 (by first | omega | (simp [mu]; done) | (simp [mu]; omega)) (by first | omega | (simp [mu]; done) | (simp [mu]; omega)) ?_
      simp only [Int.toNat_natCast]
      refine Ev.istore_3 d_Mo_partsOf_123 rfl ?_
      refine Ev.iinc_4 d_Mo_partsOf_124 rfl ?_
      refine Ev.goto (tgt := 7) d_Mo_partsOf_127 rfl ?_
      exact Ev.to (lp1_Mo_parts hM hp hd hd4 hn h6 hl hA q (f + 1) _ (c + 1) _ _ _ _ (by omega) hor) (by rw [prt, if_pos (by omega)]) rfl
theorem c_Mo_partsOf (hM : MoS σ) {p d : Int} {l : List Int} (hp : 0 ≤ p ∧ p ≤ 8) (hP : PM m p d l) (hK : PK d l) : Call 1 m_Mo_partsOf [vr 57, vi p] σ m (some (vi (prt l d.toNat 0 0 0))) σ m := by
  show Ev 1 m_Mo_partsOf 0 [some (vr 57), some (vi p), none, none, none, none, none, none, none] [] σ m _ σ m
  have h6 := hK.2.1
  have hd := hK.1
  refine Ev.iconst d_Mo_partsOf_0 ?_
  refine Ev.istore_2 d_Mo_partsOf_1 rfl ?_
  refine Ev.iconst d_Mo_partsOf_2 ?_
  refine Ev.istore_3 d_Mo_partsOf_3 rfl ?_
  refine Ev.iconst d_Mo_partsOf_4 ?_
  refine Ev.istore_4 d_Mo_partsOf_5 rfl ?_
  exact lp1_Mo_parts hM hp hP.1 (by omega) hP.2.1 (by omega) rfl hP.2.2 d.toNat 0 0 0 none none none none (by omega) (by decide)
def abt (d : Int) (l : List Int) (what : Int) : Int := if what = 0 then d else if what = 1 then l.length else if what = 2 then b01 (right d l = true) else if what = 3 then d * (d - 1) / 2 - l.length else if what = 4 then prt l d.toNat 0 0 0 else if what = 5 then mulL l else sgL 1 l
def sp_about (S : PS) (p what : Int) : Int := if (0 ≤ p ∧ p < S.1) ∧ 0 ≤ what ∧ what ≤ 6 then abt (S.2.1 p) (S.2.2 p) what else -1
theorem c_Mo_about (hM : MoS σ) {S : PS} (hS : MS m S) {p what : Int} (h1 : -2147483648 ≤ p ∧ p ≤ 2147483647) (h2 : -2147483648 ≤ what ∧ what ≤ 2147483647) : Call 3 m_Mo_about [vr 57, vi p, vi what] σ m (some (vi (sp_about S p what))) σ m := by
  show Ev 3 m_Mo_about 0 [some (vr 57), some (vi p), some (vi what)] [] σ m _ σ m
  have hS1 := hS.1
  have hS2 := hS.2.1
  refine Ev.aload_n d_Mo_about_0 rfl ?_
  refine Ev.iload_n d_Mo_about_1 rfl ?_
  refine Ev.callV d_Mo_about_2 mt_Mo_is lk_Mo_117 in_Mo_is se_Mo_is rfl (Nat.le_of_ble_eq_true rfl) rfl (Nat.le_of_ble_eq_true rfl) (by decide) (is_57 hM) (by decide) rfl rfl (c_Mo_is hM (by omega) (by omega)) ?_
  refine Ev.if_eq (tgt := 20) d_Mo_about_5 rfl b01_b (fun hb5 => ?_) (fun hb5 => ?_)
  · rw [b01_eq] at hb5
    refine Ev.iconst d_Mo_about_20 ?_
    exact Ev.to (Ev.ireturn d_Mo_about_21 rfl) (ri (by rw [sp_about, if_neg (by omega)])) rfl
  · rw [b01_ne] at hb5
    obtain ⟨hPM, g4⟩ := hS.2.2 p (by omega) (by omega)
    obtain ⟨g1, g2, g3⟩ := id hPM
    have k3 := g4.2.1
    have k1 := g4.1
    refine Ev.iload_n d_Mo_about_8 rfl ?_
    refine Ev.i2l d_Mo_about_9 (by first | omega | (simp [mu]; done) | (simp [mu]; omega)) ?_
    refine Ev.lconst (x := 0) d_Mo_about_10 rfl ?_
    refine Ev.ldc2 (x := 6) d_Mo_about_11 kl_Mo_132 ?_
    refine Ev.callS d_Mo_about_14 mt_Mo_in lk_Mo_107 st_Mo_in rfl (Nat.le_of_ble_eq_true rfl) rfl (Nat.le_of_ble_eq_true rfl) (by decide) rfl (c_Mo_in (by omega) (by omega) (by omega)) ?_
    refine Ev.if_ne (tgt := 22) d_Mo_about_17 rfl b01_b (fun hb17 => ?_) (fun hb17 => ?_)
    · rw [b01_ne] at hb17
      refine Ev.iload_n d_Mo_about_22 rfl ?_
      refine Ev.if_ne (tgt := 35) d_Mo_about_23 rfl (by first | omega | (simp [mu]; done) | (simp [mu]; omega)) (fun hb23 => ?_) (fun hb23 => ?_)
      · refine Ev.iload_n d_Mo_about_35 rfl ?_
        refine Ev.iconst d_Mo_about_36 ?_
        refine Ev.icmp_ne (tgt := 49) d_Mo_about_37 rfl (by first | omega | (simp [mu]; done) | (simp [mu]; omega)) (by first | omega | (simp [mu]; done) | (simp [mu]; omega)) (fun hb37 => ?_) (fun hb37 => ?_)
        · refine Ev.iload_n d_Mo_about_49 rfl ?_
          refine Ev.iconst d_Mo_about_50 ?_
          refine Ev.icmp_ne (tgt := 70) d_Mo_about_51 rfl (by first | omega | (simp [mu]; done) | (simp [mu]; omega)) (by first | omega | (simp [mu]; done) | (simp [mu]; omega)) (fun hb51 => ?_) (fun hb51 => ?_)
          · refine Ev.iload_n d_Mo_about_70 rfl ?_
            refine Ev.iconst d_Mo_about_71 ?_
            refine Ev.icmp_ne (tgt := 83) d_Mo_about_72 rfl (by first | omega | (simp [mu]; done) | (simp [mu]; omega)) (by first | omega | (simp [mu]; done) | (simp [mu]; omega)) (fun hb72 => ?_) (fun hb72 => ?_)
            · refine Ev.iload_n d_Mo_about_83 rfl ?_
              refine Ev.iconst d_Mo_about_84 ?_
              refine Ev.icmp_ne (tgt := 96) d_Mo_about_85 rfl (by first | omega | (simp [mu]; done) | (simp [mu]; omega)) (by first | omega | (simp [mu]; done) | (simp [mu]; omega)) (fun hb85 => ?_) (fun hb85 => ?_)
              · refine Ev.iload_n d_Mo_about_96 rfl ?_
                refine Ev.iconst d_Mo_about_97 ?_
                refine Ev.icmp_ne (tgt := 109) d_Mo_about_98 rfl (by first | omega | (simp [mu]; done) | (simp [mu]; omega)) (by first | omega | (simp [mu]; done) | (simp [mu]; omega)) (fun hb98 => ?_) (fun hb98 => ?_)
                · refine Ev.aload_n d_Mo_about_109 rfl ?_
                  refine Ev.iload_n d_Mo_about_110 rfl ?_
                  refine Ev.callV d_Mo_about_111 mt_Mo_signOf lk_Mo_147 in_Mo_signOf se_Mo_signOf rfl (Nat.le_of_ble_eq_true rfl) rfl (Nat.le_of_ble_eq_true rfl) (by decide) (is_57 hM) (by decide) rfl rfl (c_Mo_signOf hM (by omega) hPM g4) ?_
                  exact Ev.to (Ev.ireturn d_Mo_about_114 rfl) (ri (by rw [sp_about, if_pos (by omega), abt]; simp [*, b01])) rfl
                · refine Ev.aload_n d_Mo_about_101 rfl ?_
                  refine Ev.iload_n d_Mo_about_102 rfl ?_
                  refine Ev.callV d_Mo_about_103 mt_Mo_multOf lk_Mo_144 in_Mo_multOf se_Mo_multOf rfl (Nat.le_of_ble_eq_true rfl) rfl (Nat.le_of_ble_eq_true rfl) (by decide) (is_57 hM) (by decide) rfl rfl (c_Mo_multOf hM (by omega) hPM g4) ?_
                  refine Ev.goto (tgt := 114) d_Mo_about_106 rfl ?_
                  exact Ev.to (Ev.ireturn d_Mo_about_114 rfl) (ri (by rw [sp_about, if_pos (by omega), abt]; simp [*, b01])) rfl
              · refine Ev.aload_n d_Mo_about_88 rfl ?_
                refine Ev.iload_n d_Mo_about_89 rfl ?_
                refine Ev.callV d_Mo_about_90 mt_Mo_partsOf lk_Mo_141 in_Mo_partsOf se_Mo_partsOf rfl (Nat.le_of_ble_eq_true rfl) rfl (Nat.le_of_ble_eq_true rfl) (by decide) (is_57 hM) (by decide) rfl rfl (c_Mo_partsOf hM (by omega) hPM g4) ?_
                refine Ev.goto (tgt := 114) d_Mo_about_93 rfl ?_
                exact Ev.to (Ev.ireturn d_Mo_about_114 rfl) (ri (by rw [sp_about, if_pos (by omega), abt]; simp [*, b01])) rfl
            · refine Ev.aload_n d_Mo_about_75 rfl ?_
              refine Ev.iload_n d_Mo_about_76 rfl ?_
              refine Ev.callV d_Mo_about_77 mt_Mo_knots lk_Mo_137 in_Mo_knots se_Mo_knots rfl (Nat.le_of_ble_eq_true rfl) rfl (Nat.le_of_ble_eq_true rfl) (by decide) (is_57 hM) (by decide) rfl rfl (c_Mo_knots hM (by omega) hPM g4) ?_
              refine Ev.goto (tgt := 114) d_Mo_about_80 rfl ?_
              exact Ev.to (Ev.ireturn d_Mo_about_114 rfl) (ri (by rw [sp_about, if_pos (by omega), abt]; simp [*, b01])) rfl
          · refine Ev.aload_n d_Mo_about_54 rfl ?_
            refine Ev.iload_n d_Mo_about_55 rfl ?_
            refine Ev.callV d_Mo_about_56 mt_Mo_isRight lk_Mo_134 in_Mo_isRight se_Mo_isRight rfl (Nat.le_of_ble_eq_true rfl) rfl (Nat.le_of_ble_eq_true rfl) (by decide) (is_57 hM) (by decide) rfl rfl (c_Mo_isRight hM (by omega) hPM g4) ?_
            refine Ev.if_eq (tgt := 66) d_Mo_about_59 rfl b01_b (fun hb59 => ?_) (fun hb59 => ?_)
            · rw [b01_eq] at hb59
              refine Ev.iconst d_Mo_about_66 ?_
              refine Ev.goto (tgt := 114) d_Mo_about_67 rfl ?_
              exact Ev.to (Ev.ireturn d_Mo_about_114 rfl) (ri (by rw [sp_about, if_pos (by omega), abt]; simp [*, b01])) rfl
            · rw [b01_ne] at hb59
              refine Ev.iconst d_Mo_about_62 ?_
              refine Ev.goto (tgt := 114) d_Mo_about_63 rfl ?_
              exact Ev.to (Ev.ireturn d_Mo_about_114 rfl) (ri (by rw [sp_about, if_pos (by omega), abt]; simp [*, b01])) rfl
        · refine Ev.aload_n d_Mo_about_40 rfl ?_
          refine Ev.gr 2 d_Mo_about_41 lf_Mo_13 rfl rfl (is_57 hM) (by decide) (rf_57_2 hM) ?_
          refine Ev.iload_n d_Mo_about_44 rfl ?_
          refine Ev.iaload d_Mo_about_45 (is_59 hM) (by first | omega | (simp [mu]; done) | (simp [mu]; omega)) ?_
          refine Ev.goto (tgt := 114) d_Mo_about_46 rfl ?_
          exact Ev.to (Ev.ireturn d_Mo_about_114 rfl) (ri (by rw [sp_about, if_pos (by omega), abt]; simp [*, b01])) rfl
      · refine Ev.aload_n d_Mo_about_26 rfl ?_
        refine Ev.gr 1 d_Mo_about_27 lf_Mo_7 rfl rfl (is_57 hM) (by decide) (rf_57_1 hM) ?_
        refine Ev.iload_n d_Mo_about_30 rfl ?_
        refine Ev.iaload d_Mo_about_31 (is_58 hM) (by first | omega | (simp [mu]; done) | (simp [mu]; omega)) ?_
        refine Ev.goto (tgt := 114) d_Mo_about_32 rfl ?_
        exact Ev.to (Ev.ireturn d_Mo_about_114 rfl) (ri (by rw [sp_about, if_pos (by omega), abt]; simp [*, b01])) rfl
    · rw [b01_eq] at hb17
      refine Ev.iconst d_Mo_about_20 ?_
      exact Ev.to (Ev.ireturn d_Mo_about_21 rfl) (ri (by rw [sp_about, if_neg (by omega)])) rfl
end
