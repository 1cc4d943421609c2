section
variable {σ : Sg} {m : Mm}
theorem mrow_id {m : Mm} : mrow m (m 69) = m := by
  funext a j
  simp only [mrow]
  split
  · next h => rw [h]
  · rfl
def zrA (J : Int → Int) (k : Int) : Int → Int := fun j => if 0 ≤ j ∧ j < k then 0 else J j
theorem zrA_up {J : Int → Int} {k : Int} (h : 0 ≤ k) : up (zrA J k) k 0 = zrA J (k + 1) := by
  funext j
  simp only [up, zrA]
  by_cases e : j = k
  · rw [if_pos e, if_pos (by omega)]
  · rw [if_neg e]
    by_cases e2 : 0 ≤ j ∧ j < k
    · rw [if_pos e2, if_pos (by omega)]
    · rw [if_neg e2, if_neg (by omega)]
theorem zrA_0 {J : Int → Int} : zrA J 0 = J := by
  funext j
  simp only [zrA]
  rw [if_neg (by omega)]
theorem lpz_Mo_marked (hM : MoS σ) {p gap wanted d wide codes N : Int} {J : Int → Int} {x7 x8 x9 : Option AV} {r : Option AV} {mF : Mm} (hd : 1 ≤ d ∧ d ≤ 4) (hN : (d + 1) * codes * wide = N) (hN6 : N ≤ 60000) (h13 : m 57 13 = codes) (c : Ev 4 m_Mo_marked 61 [some (vr 57), some (vi p), some (vi gap), some (vi wanted), some (vi d), some (vi wide), some (vi N), x7, x8, x9, none] [] σ (mrow m (zrA J N)) r σ mF) : ∀ (q : Nat) (k : Int), k + q = N → 0 ≤ k → Ev 4 m_Mo_marked 30 [some (vr 57), some (vi p), some (vi gap), some (vi wanted), some (vi d), some (vi wide), some (vi k), x7, x8, x9, none] [] σ (mrow m (zrA J k)) r σ mF
  | 0, k, hk, h0 => by
    have r13 : mrow m (zrA J k) 57 13 = codes := (mrow_a (by decide)).trans h13
    have e : k = N := by omega
    refine Ev.iload d_Mo_marked_30 rfl ?_
    refine Ev.iload d_Mo_marked_32 rfl ?_
    refine Ev.iconst d_Mo_marked_34 ?_
    refine Ev.iadd d_Mo_marked_35 ?_
    refine Ev.aload_n d_Mo_marked_36 rfl ?_
    refine Ev.gf 13 d_Mo_marked_37 lf_Mo_167 rfl rfl (is_57 hM) (by decide) ?_
    refine Ev.imul d_Mo_marked_40 ?_
    refine Ev.iload d_Mo_marked_41 rfl ?_
    refine Ev.imul d_Mo_marked_43 ?_
    rw [r13, hN]
    refine Ev.icmp_ge (tgt := 61) d_Mo_marked_44 rfl (by first | omega | (simp [mu]; done) | (simp [mu]; omega)) (by first | omega | (simp [mu]; done) | (simp [mu]; omega)) (fun hb44 => ?_) (fun hb44 => by exfalso; first | omega | simp at hb44 | contradiction)
    rw [e]
    exact c
  | q + 1, k, hk, h0 => by
    have r13 : mrow m (zrA J k) 57 13 = codes := (mrow_a (by decide)).trans h13
    refine Ev.iload d_Mo_marked_30 rfl ?_
    refine Ev.iload d_Mo_marked_32 rfl ?_
    refine Ev.iconst d_Mo_marked_34 ?_
    refine Ev.iadd d_Mo_marked_35 ?_
    refine Ev.aload_n d_Mo_marked_36 rfl ?_
    refine Ev.gf 13 d_Mo_marked_37 lf_Mo_167 rfl rfl (is_57 hM) (by decide) ?_
    refine Ev.imul d_Mo_marked_40 ?_
    refine Ev.iload d_Mo_marked_41 rfl ?_
    refine Ev.imul d_Mo_marked_43 ?_
    rw [r13, hN]
    refine Ev.icmp_ge (tgt := 61) d_Mo_marked_44 rfl (by first | omega | (simp [mu]; done) | (simp [mu]; omega)) (by first | omega | (simp [mu]; done) | (simp [mu]; omega)) (fun hb44 => by exfalso; first | omega | simp at hb44 | contradiction) (fun hb44 => ?_)
    refine Ev.aload_n d_Mo_marked_47 rfl ?_
    refine Ev.gr 14 d_Mo_marked_48 lf_Mo_45 rfl rfl (is_57 hM) (by decide) (rf_57_14 hM) ?_
    refine Ev.iload d_Mo_marked_51 rfl ?_
    refine Ev.lconst (x := 0) d_Mo_marked_53 rfl ?_
    refine Ev.lastore d_Mo_marked_54 (is_69 hM) (by decide) (by first | omega | (simp [mu]; done) | (simp [mu]; omega)) ?_
    refine Ev.iinc_6 d_Mo_marked_55 rfl ?_
    refine Ev.goto (tgt := 30) d_Mo_marked_58 rfl ?_
    rw [mrow_mu, zrA_up h0]
    exact lpz_Mo_marked hM hd hN hN6 h13 c q (k + 1) (by omega) (by omega)
theorem lpn_Mo_marked (hM : MoS σ) {p gap wanted d wide codes : Int} {K : KD} {r : Option AV} {mF : Mm} (hd : 1 ≤ d ∧ d ≤ 4) (hw : wide = 1 ∨ wide = 11) (hg : -4 ≤ gap ∧ gap ≤ 4) (hcs : 0 < codes ∧ codes ≤ 900) (h13 : m 57 13 = codes) (h8 : m 57 8 = K.length) (hkn : (K.length : Int) ≤ 10) (hA : KA m 0 K 1) (hK : KOK K) (hcc : cdl K 1 = codes) {f code : Int} (hf : 0 ≤ f ∧ f ≤ d) (hcd : 0 ≤ code ∧ code < codes) (hfc : 0 ≤ f * codes ∧ f * codes ≤ 3600) : ∀ (q : Nat) (n : Int) (A : Int → Int) (x9 : Option AV), n + q = wide → 0 ≤ n → (∀ x9, Ev 4 m_Mo_marked 153 [some (vr 57), some (vi p), some (vi gap), some (vi wanted), some (vi d), some (vi wide), some (vi f), some (vi code), some (vi wide), x9, none] [] σ (mrow m (dpN d gap codes wide f code K q n A)) r σ mF) → Ev 4 m_Mo_marked 93 [some (vr 57), some (vi p), some (vi gap), some (vi wanted), some (vi d), some (vi wide), some (vi f), some (vi code), some (vi n), x9, none] [] σ (mrow m A) r σ mF
  | 0, n, A, x9, hn, h0, c => by
    have e : n = wide := by omega
    refine Ev.iload d_Mo_marked_93 rfl ?_
    refine Ev.iload d_Mo_marked_95 rfl ?_
    refine Ev.icmp_ge (tgt := 153) d_Mo_marked_97 rfl (by first | omega | (simp [mu]; done) | (simp [mu]; omega)) (by first | omega | (simp [mu]; done) | (simp [mu]; omega)) (fun hb97 => ?_) (fun hb97 => by exfalso; first | omega | simp at hb97 | contradiction)
    rw [e]
    exact c _
  | q + 1, n, A, x9, hn, h0, c => by
    have r13 : mrow m A 57 13 = codes := (mrow_a (by decide)).trans h13
    simp only [dpN] at c
    refine Ev.iload d_Mo_marked_93 rfl ?_
    refine Ev.iload d_Mo_marked_95 rfl ?_
    refine Ev.icmp_ge (tgt := 153) d_Mo_marked_97 rfl (by first | omega | (simp [mu]; done) | (simp [mu]; omega)) (by first | omega | (simp [mu]; done) | (simp [mu]; omega)) (fun hb97 => by exfalso; first | omega | simp at hb97 | contradiction) (fun hb97 => ?_)
    refine Ev.aload_n d_Mo_marked_100 rfl ?_
    refine Ev.gr 14 d_Mo_marked_101 lf_Mo_45 rfl rfl (is_57 hM) (by decide) (rf_57_14 hM) ?_
    refine Ev.iload d_Mo_marked_104 rfl ?_
    refine Ev.aload_n d_Mo_marked_106 rfl ?_
    refine Ev.gf 13 d_Mo_marked_107 lf_Mo_167 rfl rfl (is_57 hM) (by decide) ?_
    refine Ev.imul d_Mo_marked_110 ?_
    refine Ev.iload d_Mo_marked_111 rfl ?_
    rw [r13]
    refine Ev.iadd d_Mo_marked_113 ?_
    refine Ev.iload d_Mo_marked_114 rfl ?_
    refine Ev.imul d_Mo_marked_116 ?_
    refine Ev.iload d_Mo_marked_117 rfl ?_
    refine Ev.iadd d_Mo_marked_119 ?_
    refine Ev.laload d_Mo_marked_120 (is_69 hM) (by rcases hw with rfl | rfl <;> omega) ?_
    rw [mrow_s]
    refine Ev.lstore_9 d_Mo_marked_121 rfl ?_
    refine Ev.lload d_Mo_marked_123 rfl ?_
    refine Ev.lconst (x := 0) d_Mo_marked_125 rfl ?_
    refine Ev.lcmpw d_Mo_marked_126 ?_
    refine Ev.if_eq (tgt := 147) d_Mo_marked_127 rfl lcm_b (fun hb127 => ?_) (fun hb127 => ?_)
    · rw [lcm_eq] at hb127
      refine Ev.iinc_8 d_Mo_marked_147 rfl ?_
      refine Ev.goto (tgt := 93) d_Mo_marked_150 rfl ?_
      rw [if_pos (hb127.trans (by decide))] at c
      exact lpn_Mo_marked hM hd hw hg hcs h13 h8 hkn hA hK hcc hf hcd hfc q (n + 1) A _ (by omega) (by omega) c
    · rw [lcm_eq] at hb127
      refine Ev.aload_n d_Mo_marked_130 rfl ?_
      refine Ev.iload d_Mo_marked_131 rfl ?_
      refine Ev.iload d_Mo_marked_133 rfl ?_
      refine Ev.iload d_Mo_marked_135 rfl ?_
      refine Ev.lload d_Mo_marked_137 rfl ?_
      refine Ev.iload d_Mo_marked_139 rfl ?_
      refine Ev.iload_n d_Mo_marked_141 rfl ?_
      refine Ev.iload d_Mo_marked_142 rfl ?_
      refine Ev.callVv d_Mo_marked_144 mt_Mo_goOn lk_Mo_177 in_Mo_goOn se_Mo_goOn rfl (Nat.le_of_ble_eq_true rfl) rfl (Nat.le_of_ble_eq_true rfl) (by decide) (is_57 hM) (by decide) rfl rfl (c_Mo_goOn hM hw (by omega) (by omega) (by omega) (by omega) (by omega) (by omega) (by omega) (by omega) h8 hkn h13 hA rfl hK hcc) ?_
      refine Ev.iinc_8 d_Mo_marked_147 rfl ?_
      refine Ev.goto (tgt := 93) d_Mo_marked_150 rfl ?_
      rw [if_neg (fun h => hb127 (h.trans (by decide)))] at c
      exact lpn_Mo_marked hM hd hw hg hcs h13 h8 hkn hA hK hcc hf hcd hfc q (n + 1) _ _ (by omega) (by omega) c
theorem lpc_Mo_marked (hM : MoS σ) {p gap wanted d wide codes : Int} {K : KD} {r : Option AV} {mF : Mm} (hd : 1 ≤ d ∧ d ≤ 4) (hw : wide = 1 ∨ wide = 11) (hg : -4 ≤ gap ∧ gap ≤ 4) (hcs : 0 < codes ∧ codes ≤ 900) (h13 : m 57 13 = codes) (h8 : m 57 8 = K.length) (hkn : (K.length : Int) ≤ 10) (hA : KA m 0 K 1) (hK : KOK K) (hcc : cdl K 1 = codes) {f : Int} (hf : 0 ≤ f ∧ f ≤ d) (hfc : 0 ≤ f * codes ∧ f * codes ≤ 3600) : ∀ (q : Nat) (code : Int) (A : Int → Int) (x8 x9 : Option AV), code + q = codes → 0 ≤ code → (∀ x8 x9, Ev 4 m_Mo_marked 159 [some (vr 57), some (vi p), some (vi gap), some (vi wanted), some (vi d), some (vi wide), some (vi f), some (vi codes), x8, x9, none] [] σ (mrow m (dpC d gap codes wide f K q code A)) r σ mF) → Ev 4 m_Mo_marked 81 [some (vr 57), some (vi p), some (vi gap), some (vi wanted), some (vi d), some (vi wide), some (vi f), some (vi code), x8, x9, none] [] σ (mrow m A) r σ mF
  | 0, code, A, x8, x9, hn, h0, c => by
    have e : code = codes := by omega
    have r13 : mrow m A 57 13 = codes := (mrow_a (by decide)).trans h13
    refine Ev.iload d_Mo_marked_81 rfl ?_
    refine Ev.aload_n d_Mo_marked_83 rfl ?_
    refine Ev.gf 13 d_Mo_marked_84 lf_Mo_167 rfl rfl (is_57 hM) (by decide) ?_
    refine Ev.icmp_ge (tgt := 159) d_Mo_marked_87 rfl (by first | omega | (simp [mu]; done) | (simp [mu]; omega)) (by first | omega | (simp [mu]; done) | (simp [mu]; omega)) (fun hb87 => ?_) (fun hb87 => by exfalso; first | omega | simp at hb87 | contradiction)
    rw [e]
    exact c _ _
  | q + 1, code, A, x8, x9, hn, h0, c => by
    have r13 : mrow m A 57 13 = codes := (mrow_a (by decide)).trans h13
    simp only [dpC] at c
    refine Ev.iload d_Mo_marked_81 rfl ?_
    refine Ev.aload_n d_Mo_marked_83 rfl ?_
    refine Ev.gf 13 d_Mo_marked_84 lf_Mo_167 rfl rfl (is_57 hM) (by decide) ?_
    refine Ev.icmp_ge (tgt := 159) d_Mo_marked_87 rfl (by first | omega | (simp [mu]; done) | (simp [mu]; omega)) (by first | omega | (simp [mu]; done) | (simp [mu]; omega)) (fun hb87 => by exfalso; first | omega | simp at hb87 | contradiction) (fun hb87 => ?_)
    refine Ev.iconst d_Mo_marked_90 ?_
    refine Ev.istore_8 d_Mo_marked_91 rfl ?_
    refine lpn_Mo_marked hM hd hw hg hcs h13 h8 hkn hA hK hcc hf (by omega) hfc wide.toNat 0 A _ (by omega) (by omega) (fun x9 => ?_)
    refine Ev.iinc_7 d_Mo_marked_153 rfl ?_
    refine Ev.goto (tgt := 81) d_Mo_marked_156 rfl ?_
    exact lpc_Mo_marked hM hd hw hg hcs h13 h8 hkn hA hK hcc hf hfc q (code + 1) _ _ _ (by omega) (by omega) c
theorem lpf_Mo_marked (hM : MoS σ) {p gap wanted d wide codes : Int} {K : KD} {r : Option AV} {mF : Mm} (hd : 1 ≤ d ∧ d ≤ 4) (hw : wide = 1 ∨ wide = 11) (hg : -4 ≤ gap ∧ gap ≤ 4) (hcs : 0 < codes ∧ codes ≤ 900) (h13 : m 57 13 = codes) (h8 : m 57 8 = K.length) (hkn : (K.length : Int) ≤ 10) (hA : KA m 0 K 1) (hK : KOK K) (hcc : cdl K 1 = codes) : ∀ (q : Nat) (f : Int) (A : Int → Int) (x7 x8 x9 : Option AV), f + q = d + 1 → 0 ≤ f → (∀ x7 x8 x9, Ev 4 m_Mo_marked 165 [some (vr 57), some (vi p), some (vi gap), some (vi wanted), some (vi d), some (vi wide), some (vi (d + 1)), x7, x8, x9, none] [] σ (mrow m (dpF d gap codes wide K q f A)) r σ mF) → Ev 4 m_Mo_marked 71 [some (vr 57), some (vi p), some (vi gap), some (vi wanted), some (vi d), some (vi wide), some (vi f), x7, x8, x9, none] [] σ (mrow m A) r σ mF
  | 0, f, A, x7, x8, x9, hn, h0, c => by
    have e : f = d + 1 := by omega
    refine Ev.iload d_Mo_marked_71 rfl ?_
    refine Ev.iload d_Mo_marked_73 rfl ?_
    refine Ev.icmp_gt (tgt := 165) d_Mo_marked_75 rfl (by first | omega | (simp [mu]; done) | (simp [mu]; omega)) (by first | omega | (simp [mu]; done) | (simp [mu]; omega)) (fun hb75 => ?_) (fun hb75 => by exfalso; first | omega | simp at hb75 | contradiction)
    rw [e]
    exact c _ _ _
  | q + 1, f, A, x7, x8, x9, hn, h0, c => by
    have hf1 : 0 ≤ f * codes := Int.mul_nonneg h0 (by omega)
    have hf2 : f * codes ≤ 4 * 900 := Int.mul_le_mul (by omega) (by omega) (by omega) (by omega)
    simp only [dpF] at c
    refine Ev.iload d_Mo_marked_71 rfl ?_
    refine Ev.iload d_Mo_marked_73 rfl ?_
    refine Ev.icmp_gt (tgt := 165) d_Mo_marked_75 rfl (by first | omega | (simp [mu]; done) | (simp [mu]; omega)) (by first | omega | (simp [mu]; done) | (simp [mu]; omega)) (fun hb75 => by exfalso; first | omega | simp at hb75 | contradiction) (fun hb75 => ?_)
    refine Ev.iconst d_Mo_marked_78 ?_
    refine Ev.istore_7 d_Mo_marked_79 rfl ?_
    refine lpc_Mo_marked hM hd hw hg hcs h13 h8 hkn hA hK hcc (by omega) (by omega) codes.toNat 0 A _ _ (by omega) (by omega) (fun x8 x9 => ?_)
    refine Ev.iinc_6 d_Mo_marked_159 rfl ?_
    refine Ev.goto (tgt := 71) d_Mo_marked_162 rfl ?_
    exact lpf_Mo_marked hM hd hw hg hcs h13 h8 hkn hA hK hcc q (f + 1) _ _ _ _ (by omega) (by omega) c
def FrN (m m' : Mm) : Prop := ∀ a i : Int, ¬ (a = 57 ∧ (i = 8 ∨ i = 13)) → (a < 65 ∨ 69 < a) → m' a i = m a i
theorem FrN.tr {m m1 m2 : Mm} (h : FrN m m1) (h2 : FrN m1 m2) : FrN m m2 := fun a i x y => (h2 a i x y).trans (h a i x y)
theorem FrN.PM {m m' : Mm} {p d : Int} {l : List Int} (h : FrN m m') (hP : PM m p d l) : PM m' p d l :=
  ⟨(h 58 p (by simp) (by decide)).trans hP.1, (h 59 p (by simp) (by decide)).trans hP.2.1, At_eq (fun j _ _ => ⟨h 60 j (by simp) (by decide), h 61 j (by simp) (by decide), h 62 j (by simp) (by decide)⟩) hP.2.2⟩
theorem FrN.MS {m m' : Mm} {S : PS} (h : FrN m m') (hS : MS m S) : MS m' S :=
  ⟨hS.1, (h 57 0 (by simp) (by decide)).trans hS.2.1, fun p h1 h2 => ⟨h.PM (hS.2.2 p h1 h2).1, (hS.2.2 p h1 h2).2⟩⟩
def KIN (d : Int) (l : List Int) : Prop := KOK (kdS d l) ∧ 0 < cdl (kdS d l) 1 ∧ cdl (kdS d l) 1 ≤ 900
theorem c_Mo_marked (hM : MoS σ) {p d gap wanted : Int} {l : List Int} (hp : 0 ≤ p ∧ p ≤ 8) (hP : PM m p d l) (hK : PK d l) (hI : KIN d l) (hg : -4 ≤ gap ∧ gap ≤ 4) (hwn : -2147483648 ≤ wanted ∧ wanted ≤ 2147483647) : ∃ m', Call 4 m_Mo_marked [vr 57, vi p, vi gap, vi wanted] σ m (some (vl (mkd (m 69) d gap wanted l))) σ m' ∧ FrN m m' := by
  obtain ⟨m1, g1, fr, e8, e13, eA⟩ := c_Mo_layKinds hM hp hP hK
  have hd := hK.1
  have hP1 := fr.PM hP
  have h58 := hP1.1
  have hJ : m1 69 = m 69 := by funext j; exact fr 69 j (by simp) (by decide)
  have hmi : mrow m1 (m 69) = m1 := by rw [← hJ]; exact mrow_id
  have hkn : ((kdS d l).length : Int) ≤ 10 := by
    have a1 := lsK_len d l d.toNat 0
    have a2 := grK_len l.length l
    have a3 := hK.2.1
    simp only [kdS, List.length_append]
    omega
  obtain ⟨hKO, hc0, hc9⟩ := hI
  generalize hcc : cdl (kdS d l) 1 = codes at *
  have hdc0 : 0 ≤ d * codes := Int.mul_nonneg (by omega) (by omega)
  have hdc : d * codes ≤ 4 * 900 := Int.mul_le_mul (by omega) (by omega) (by omega) (by omega)
  have hdc1 : (d + 1) * codes = d * codes + codes := by rw [Int.add_mul, Int.one_mul]
  have hwd : wdt gap = 1 ∨ wdt gap = 11 := by unfold wdt; split <;> simp
  have hN6 : (d + 1) * codes * wdt gap ≤ 60000 := by rcases hwd with h | h <;> rw [h] <;> omega
  have hN0 : 0 ≤ (d + 1) * codes * wdt gap := by rcases hwd with h | h <;> rw [h] <;> omega
  refine ⟨mrow m1 (dpA (m 69) d gap (kdS d l)), ?_, fun a i x y => (mrow_a (by omega)).trans (fr a i x (by omega))⟩
  show Ev 4 m_Mo_marked 0 [some (vr 57), some (vi p), some (vi gap), some (vi wanted), none, none, none, none, none, none, none] [] σ m _ σ _
  refine Ev.aload_n d_Mo_marked_0 rfl ?_
  refine Ev.iload_n d_Mo_marked_1 rfl ?_
  refine Ev.callVv d_Mo_marked_2 mt_Mo_layKinds lk_Mo_174 in_Mo_layKinds se_Mo_layKinds rfl (Nat.le_of_ble_eq_true rfl) rfl (Nat.le_of_ble_eq_true rfl) (by decide) (is_57 hM) (by decide) rfl rfl g1 ?_
  refine Ev.aload_n d_Mo_marked_5 rfl ?_
  refine Ev.gr 1 d_Mo_marked_6 lf_Mo_7 rfl rfl (is_57 hM) (by decide) (rf_57_1 hM) ?_
  refine Ev.iload_n d_Mo_marked_9 rfl ?_
  refine Ev.iaload d_Mo_marked_10 (is_58 hM) (by first | omega | (simp [mu]; done) | (simp [mu]; omega)) ?_
  rw [h58]
  refine Ev.istore_4 d_Mo_marked_11 rfl ?_
  refine Ev.iload_n d_Mo_marked_13 rfl ?_
  refine Ev.bipush d_Mo_marked_14 rfl ?_
  refine Ev.icmp_ne (tgt := 23) d_Mo_marked_16 rfl (by first | omega | (simp [mu]; done) | (simp [mu]; omega)) (by first | omega | (simp [mu]; done) | (simp [mu]; omega)) (fun hb16 => ?_) (fun hb16 => ?_)
  · refine Ev.bipush d_Mo_marked_23 rfl ?_
    refine Ev.istore_5 d_Mo_marked_25 rfl ?_
    refine Ev.iconst d_Mo_marked_27 ?_
    refine Ev.istore_6 d_Mo_marked_28 rfl ?_
    have ew : wdt gap = 11 := if_neg (by omega)
    rw [ew] at hwd hN6 hN0
    have c0 := lpz_Mo_marked (m := m1) (σ := σ) (x7 := none) (x8 := none) (x9 := none) (J := m 69) (p := p) (gap := gap) (wanted := wanted) (r := some (vl (mkd (m 69) d gap wanted l))) (mF := mrow m1 (dpA (m 69) d gap (kdS d l))) hM hd rfl hN6 e13 ?_ (((d + 1) * codes * 11).toNat) 0 (by omega) (by omega)
    · rw [zrA_0, hmi] at c0; exact c0
    · refine Ev.aload_n d_Mo_marked_61 rfl ?_
      refine Ev.gr 14 d_Mo_marked_62 lf_Mo_45 rfl rfl (is_57 hM) (by decide) (rf_57_14 hM) ?_
      refine Ev.iconst d_Mo_marked_65 ?_
      refine Ev.lconst (x := 1) d_Mo_marked_66 rfl ?_
      refine Ev.lastore d_Mo_marked_67 (is_69 hM) (by decide) (by first | omega | (simp [mu]; done) | (simp [mu]; omega)) ?_
      refine Ev.iconst d_Mo_marked_68 ?_
      refine Ev.istore_6 d_Mo_marked_69 rfl ?_
      rw [mrow_mu]
      refine lpf_Mo_marked hM hd hwd hg (by omega) e13 e8 hkn eA hKO hcc (d + 1).toNat 0 _ _ _ _ (by omega) (by omega) (fun x7 x8 x9 => ?_)
      have r13 : ∀ B, mrow m1 B 57 13 = codes := fun B => (mrow_a (by decide)).trans e13
      have eD : dpF d gap codes 11 (kdS d l) (d + 1).toNat 0 (up (zrA (m 69) ((d + 1) * codes * 11)) 0 1) = dpA (m 69) d gap (kdS d l) := by
        unfold dpA zrA; rw [ew, hcc]
      rw [eD]
      have eM : mkd (m 69) d gap wanted l = if 0 ≤ wanted ∧ wanted ≤ 10 then dpA (m 69) d gap (kdS d l) ((d * codes + codes - 1) * 11 + wanted) else 0 := by
        unfold mkd; rw [ew, hcc]; rfl
      rw [eM]
      refine Ev.iload_n d_Mo_marked_165 rfl ?_
      refine Ev.i2l d_Mo_marked_166 (by first | omega | (simp [mu]; done) | (simp [mu]; omega)) ?_
      refine Ev.lconst (x := 0) d_Mo_marked_167 rfl ?_
      refine Ev.iload d_Mo_marked_168 rfl ?_
      refine Ev.iconst d_Mo_marked_170 ?_
      refine Ev.isub d_Mo_marked_171 ?_
      refine Ev.i2l d_Mo_marked_172 (by first | omega | (simp [mu]; done) | (simp [mu]; omega)) ?_
      refine Ev.callS d_Mo_marked_173 mt_Mo_in lk_Mo_107 st_Mo_in rfl (Nat.le_of_ble_eq_true rfl) rfl (Nat.le_of_ble_eq_true rfl) (by decide) rfl (c_Mo_in (by omega) (by omega) (by omega)) ?_
      refine Ev.if_eq (tgt := 206) d_Mo_marked_176 rfl b01_b (fun hb176 => ?_) (fun hb176 => ?_)
      · rw [b01_eq] at hb176
        refine Ev.lconst (x := 0) d_Mo_marked_206 rfl ?_
        exact Ev.to (Ev.lreturn d_Mo_marked_207 rfl) (rl (by rw [if_neg (by omega)])) rfl
      · rw [b01_ne] at hb176
        refine Ev.aload_n d_Mo_marked_179 rfl ?_
        refine Ev.gr 14 d_Mo_marked_180 lf_Mo_45 rfl rfl (is_57 hM) (by decide) (rf_57_14 hM) ?_
        refine Ev.iload d_Mo_marked_183 rfl ?_
        refine Ev.aload_n d_Mo_marked_185 rfl ?_
        refine Ev.gf 13 d_Mo_marked_186 lf_Mo_167 rfl rfl (is_57 hM) (by decide) ?_
        refine Ev.imul d_Mo_marked_189 ?_
        refine Ev.aload_n d_Mo_marked_190 rfl ?_
        refine Ev.gf 13 d_Mo_marked_191 lf_Mo_167 rfl rfl (is_57 hM) (by decide) ?_
        refine Ev.iadd d_Mo_marked_194 ?_
        rw [r13]
        refine Ev.iconst d_Mo_marked_195 ?_
        refine Ev.isub d_Mo_marked_196 ?_
        refine Ev.iload d_Mo_marked_197 rfl ?_
        refine Ev.imul d_Mo_marked_199 ?_
        refine Ev.iload_n d_Mo_marked_200 rfl ?_
        refine Ev.iadd d_Mo_marked_201 ?_
        refine Ev.laload d_Mo_marked_202 (is_69 hM) (by omega) ?_
        rw [mrow_s]
        refine Ev.goto (tgt := 207) d_Mo_marked_203 rfl ?_
        exact Ev.to (Ev.lreturn d_Mo_marked_207 rfl) (rl (by rw [if_pos (by omega)])) rfl
  · refine Ev.iconst d_Mo_marked_19 ?_
    refine Ev.goto (tgt := 25) d_Mo_marked_20 rfl ?_
    refine Ev.istore_5 d_Mo_marked_25 rfl ?_
    refine Ev.iconst d_Mo_marked_27 ?_
    refine Ev.istore_6 d_Mo_marked_28 rfl ?_
    have ew : wdt gap = 1 := if_pos (by omega)
    rw [ew] at hwd hN6 hN0
    have c0 := lpz_Mo_marked (m := m1) (σ := σ) (x7 := none) (x8 := none) (x9 := none) (J := m 69) (p := p) (gap := gap) (wanted := wanted) (r := some (vl (mkd (m 69) d gap wanted l))) (mF := mrow m1 (dpA (m 69) d gap (kdS d l))) hM hd rfl hN6 e13 ?_ (((d + 1) * codes * 1).toNat) 0 (by omega) (by omega)
    · rw [zrA_0, hmi] at c0; exact c0
    · refine Ev.aload_n d_Mo_marked_61 rfl ?_
      refine Ev.gr 14 d_Mo_marked_62 lf_Mo_45 rfl rfl (is_57 hM) (by decide) (rf_57_14 hM) ?_
      refine Ev.iconst d_Mo_marked_65 ?_
      refine Ev.lconst (x := 1) d_Mo_marked_66 rfl ?_
      refine Ev.lastore d_Mo_marked_67 (is_69 hM) (by decide) (by first | omega | (simp [mu]; done) | (simp [mu]; omega)) ?_
      refine Ev.iconst d_Mo_marked_68 ?_
      refine Ev.istore_6 d_Mo_marked_69 rfl ?_
      rw [mrow_mu]
      refine lpf_Mo_marked hM hd hwd hg (by omega) e13 e8 hkn eA hKO hcc (d + 1).toNat 0 _ _ _ _ (by omega) (by omega) (fun x7 x8 x9 => ?_)
      have r13 : ∀ B, mrow m1 B 57 13 = codes := fun B => (mrow_a (by decide)).trans e13
      have eD : dpF d gap codes 1 (kdS d l) (d + 1).toNat 0 (up (zrA (m 69) ((d + 1) * codes * 1)) 0 1) = dpA (m 69) d gap (kdS d l) := by
        unfold dpA zrA; rw [ew, hcc]
      rw [eD]
      have eM : mkd (m 69) d gap wanted l = if 0 ≤ wanted ∧ wanted ≤ 0 then dpA (m 69) d gap (kdS d l) ((d * codes + codes - 1) * 1 + wanted) else 0 := by
        unfold mkd; rw [ew, hcc]; rfl
      rw [eM]
      refine Ev.iload_n d_Mo_marked_165 rfl ?_
      refine Ev.i2l d_Mo_marked_166 (by first | omega | (simp [mu]; done) | (simp [mu]; omega)) ?_
      refine Ev.lconst (x := 0) d_Mo_marked_167 rfl ?_
      refine Ev.iload d_Mo_marked_168 rfl ?_
      refine Ev.iconst d_Mo_marked_170 ?_
      refine Ev.isub d_Mo_marked_171 ?_
      refine Ev.i2l d_Mo_marked_172 (by first | omega | (simp [mu]; done) | (simp [mu]; omega)) ?_
      refine Ev.callS d_Mo_marked_173 mt_Mo_in lk_Mo_107 st_Mo_in rfl (Nat.le_of_ble_eq_true rfl) rfl (Nat.le_of_ble_eq_true rfl) (by decide) rfl (c_Mo_in (by omega) (by omega) (by omega)) ?_
      refine Ev.if_eq (tgt := 206) d_Mo_marked_176 rfl b01_b (fun hb176 => ?_) (fun hb176 => ?_)
      · rw [b01_eq] at hb176
        refine Ev.lconst (x := 0) d_Mo_marked_206 rfl ?_
        exact Ev.to (Ev.lreturn d_Mo_marked_207 rfl) (rl (by rw [if_neg (by omega)])) rfl
      · rw [b01_ne] at hb176
        refine Ev.aload_n d_Mo_marked_179 rfl ?_
        refine Ev.gr 14 d_Mo_marked_180 lf_Mo_45 rfl rfl (is_57 hM) (by decide) (rf_57_14 hM) ?_
        refine Ev.iload d_Mo_marked_183 rfl ?_
        refine Ev.aload_n d_Mo_marked_185 rfl ?_
        refine Ev.gf 13 d_Mo_marked_186 lf_Mo_167 rfl rfl (is_57 hM) (by decide) ?_
        refine Ev.imul d_Mo_marked_189 ?_
        refine Ev.aload_n d_Mo_marked_190 rfl ?_
        refine Ev.gf 13 d_Mo_marked_191 lf_Mo_167 rfl rfl (is_57 hM) (by decide) ?_
        refine Ev.iadd d_Mo_marked_194 ?_
        rw [r13]
        refine Ev.iconst d_Mo_marked_195 ?_
        refine Ev.isub d_Mo_marked_196 ?_
        refine Ev.iload d_Mo_marked_197 rfl ?_
        refine Ev.imul d_Mo_marked_199 ?_
        refine Ev.iload_n d_Mo_marked_200 rfl ?_
        refine Ev.iadd d_Mo_marked_201 ?_
        refine Ev.laload d_Mo_marked_202 (is_69 hM) (by omega) ?_
        rw [mrow_s]
        refine Ev.goto (tgt := 207) d_Mo_marked_203 rfl ?_
        exact Ev.to (Ev.lreturn d_Mo_marked_207 rfl) (rl (by rw [if_pos (by omega)])) rfl
def RKI : Prop := ∀ (d : Int) (l : List Int), PK d l → right d l = true → KIN d l
def sp_markings (J : Int → Int) (S : PS) (p : Int) : Int := if 0 ≤ p ∧ p < S.1 then (if right (S.2.1 p) (S.2.2 p) = true then mkd J (S.2.1 p) (-4) 0 (S.2.2 p) else -2) else -1
def sp_between (J : Int → Int) (S : PS) (p f n : Int) : Int := if (0 ≤ p ∧ p < S.1) ∧ (0 ≤ f ∧ f < S.2.1 p) ∧ 0 ≤ n then (if right (S.2.1 p) (S.2.2 p) = true then mkd J (S.2.1 p) f n (S.2.2 p) else -2) else -1
theorem c_Mo_markings (hM : MoS σ) {S : PS} (hS : MS m S) (hR : RKI) {p : Int} (h1 : -2147483648 ≤ p ∧ p ≤ 2147483647) : ∃ m', Call 5 m_Mo_markings [vr 57, vi p] σ m (some (vl (sp_markings (m 69) S p))) σ m' ∧ FrN m m' := by
  have hS1 := hS.1
  have hS2 := hS.2.1
  by_cases hp : 0 ≤ p ∧ p < S.1
  · obtain ⟨hPM, g4⟩ := hS.2.2 p hp.1 hp.2
    by_cases hr : right (S.2.1 p) (S.2.2 p) = true
    · obtain ⟨m', q1, q2⟩ := c_Mo_marked (gap := -4) (wanted := 0) hM (by omega) hPM g4 (hR _ _ g4 hr) (by omega) (by omega)
      refine ⟨m', ?_, q2⟩
      rw [sp_markings, if_pos hp, if_pos hr]
      show Ev 5 m_Mo_markings 0 [some (vr 57), some (vi p)] [] σ m _ σ _
      refine Ev.aload_n d_Mo_markings_0 rfl ?_
      refine Ev.iload_n d_Mo_markings_1 rfl ?_
      refine Ev.callV d_Mo_markings_2 mt_Mo_is lk_Mo_117 in_Mo_is se_Mo_is rfl (Nat.le_of_ble_eq_true rfl) rfl (Nat.le_of_ble_eq_true rfl) (by decide) (is_57 hM) (by decide) rfl rfl (c_Mo_is hM (by omega) (by omega)) ?_
      refine Ev.if_ne (tgt := 12) d_Mo_markings_5 rfl b01_b (fun hb5 => ?_) (fun hb5 => by exfalso; (first | rw [b01_ne] at hb5 | rw [b01_eq] at hb5); omega)
      rw [b01_ne] at hb5
      refine Ev.aload_n d_Mo_markings_12 rfl ?_
      refine Ev.iload_n d_Mo_markings_13 rfl ?_
      refine Ev.callV d_Mo_markings_14 mt_Mo_isRight lk_Mo_134 in_Mo_isRight se_Mo_isRight rfl (Nat.le_of_ble_eq_true rfl) rfl (Nat.le_of_ble_eq_true rfl) (by decide) (is_57 hM) (by decide) rfl rfl (c_Mo_isRight hM (by omega) hPM g4) ?_
      rw [b01_t hr]
      refine Ev.if_eq (tgt := 31) d_Mo_markings_17 rfl (by first | omega | (simp [mu]; done) | (simp [mu]; omega)) (fun hb17 => by exfalso; first | omega | simp at hb17 | contradiction) (fun hb17 => ?_)
      refine Ev.aload_n d_Mo_markings_20 rfl ?_
      refine Ev.iload_n d_Mo_markings_21 rfl ?_
      refine Ev.bipush d_Mo_markings_22 rfl ?_
      refine Ev.iconst d_Mo_markings_24 ?_
      refine Ev.callV d_Mo_markings_25 mt_Mo_marked lk_Mo_184 in_Mo_marked se_Mo_marked rfl (Nat.le_of_ble_eq_true rfl) rfl (Nat.le_of_ble_eq_true rfl) (by decide) (is_57 hM) (by decide) rfl rfl q1 ?_
      refine Ev.goto (tgt := 34) d_Mo_markings_28 rfl ?_
      exact Ev.to (Ev.lreturn d_Mo_markings_34 rfl) rfl rfl
    · refine ⟨m, ?_, fun _ _ _ _ => rfl⟩
      rw [sp_markings, if_pos hp, if_neg hr]
      show Ev 5 m_Mo_markings 0 [some (vr 57), some (vi p)] [] σ m _ σ _
      refine Ev.aload_n d_Mo_markings_0 rfl ?_
      refine Ev.iload_n d_Mo_markings_1 rfl ?_
      refine Ev.callV d_Mo_markings_2 mt_Mo_is lk_Mo_117 in_Mo_is se_Mo_is rfl (Nat.le_of_ble_eq_true rfl) rfl (Nat.le_of_ble_eq_true rfl) (by decide) (is_57 hM) (by decide) rfl rfl (c_Mo_is hM (by omega) (by omega)) ?_
      refine Ev.if_ne (tgt := 12) d_Mo_markings_5 rfl b01_b (fun hb5 => ?_) (fun hb5 => by exfalso; (first | rw [b01_ne] at hb5 | rw [b01_eq] at hb5); omega)
      rw [b01_ne] at hb5
      refine Ev.aload_n d_Mo_markings_12 rfl ?_
      refine Ev.iload_n d_Mo_markings_13 rfl ?_
      refine Ev.callV d_Mo_markings_14 mt_Mo_isRight lk_Mo_134 in_Mo_isRight se_Mo_isRight rfl (Nat.le_of_ble_eq_true rfl) rfl (Nat.le_of_ble_eq_true rfl) (by decide) (is_57 hM) (by decide) rfl rfl (c_Mo_isRight hM (by omega) hPM g4) ?_
      rw [b01_f hr]
      refine Ev.if_eq (tgt := 31) d_Mo_markings_17 rfl (by first | omega | (simp [mu]; done) | (simp [mu]; omega)) (fun hb17 => ?_) (fun hb17 => by exfalso; first | omega | simp at hb17 | contradiction)
      refine Ev.ldc2 (x := (-2)) d_Mo_markings_31 kl_Mo_188 ?_
      exact Ev.to (Ev.lreturn d_Mo_markings_34 rfl) rfl rfl
  · refine ⟨m, ?_, fun _ _ _ _ => rfl⟩
    rw [sp_markings, if_neg hp]
    show Ev 5 m_Mo_markings 0 [some (vr 57), some (vi p)] [] σ m _ σ _
    refine Ev.aload_n d_Mo_markings_0 rfl ?_
    refine Ev.iload_n d_Mo_markings_1 rfl ?_
    refine Ev.callV d_Mo_markings_2 mt_Mo_is lk_Mo_117 in_Mo_is se_Mo_is rfl (Nat.le_of_ble_eq_true rfl) rfl (Nat.le_of_ble_eq_true rfl) (by decide) (is_57 hM) (by decide) rfl rfl (c_Mo_is hM (by omega) (by omega)) ?_
    refine Ev.if_ne (tgt := 12) d_Mo_markings_5 rfl b01_b (fun hb5 => by exfalso; (first | rw [b01_ne] at hb5 | rw [b01_eq] at hb5); omega) (fun hb5 => ?_)
    rw [b01_eq] at hb5
    refine Ev.ldc2 (x := (-1)) d_Mo_markings_8 kl_Mo_154 ?_
    exact Ev.to (Ev.lreturn d_Mo_markings_11 rfl) rfl rfl
theorem c_Mo_between (hM : MoS σ) {S : PS} (hS : MS m S) (hR : RKI) {p f n : Int} (h1 : -2147483648 ≤ p ∧ p ≤ 2147483647) (h2 : -2147483648 ≤ f ∧ f ≤ 2147483647) (h3 : -2147483648 ≤ n ∧ n ≤ 2147483647) : ∃ m', Call 5 m_Mo_between [vr 57, vi p, vi f, vi n] σ m (some (vl (sp_between (m 69) S p f n))) σ m' ∧ FrN m m' := by
  have hS1 := hS.1
  have hS2 := hS.2.1
  by_cases hp : 0 ≤ p ∧ p < S.1
  · obtain ⟨hPM, g4⟩ := hS.2.2 p hp.1 hp.2
    have hd := g4.1
    have h58 := hPM.1
    by_cases hf : (0 ≤ f ∧ f < S.2.1 p) ∧ 0 ≤ n
    · by_cases hr : right (S.2.1 p) (S.2.2 p) = true
      · obtain ⟨m', q1, q2⟩ := c_Mo_marked (gap := f) (wanted := n) hM (by omega) hPM g4 (hR _ _ g4 hr) (by omega) (by omega)
        refine ⟨m', ?_, q2⟩
        rw [sp_between, if_pos ⟨hp, hf⟩, if_pos hr]
        show Ev 5 m_Mo_between 0 [some (vr 57), some (vi p), some (vi f), some (vi n)] [] σ m _ σ _
        refine Ev.aload_n d_Mo_between_0 rfl ?_
        refine Ev.iload_n d_Mo_between_1 rfl ?_
        refine Ev.callV d_Mo_between_2 mt_Mo_is lk_Mo_117 in_Mo_is se_Mo_is rfl (Nat.le_of_ble_eq_true rfl) rfl (Nat.le_of_ble_eq_true rfl) (by decide) (is_57 hM) (by decide) rfl rfl (c_Mo_is hM (by omega) (by omega)) ?_
        refine Ev.if_eq (tgt := 30) d_Mo_between_5 rfl b01_b (fun hb5 => by exfalso; (first | rw [b01_ne] at hb5 | rw [b01_eq] at hb5); omega) (fun hb5 => ?_)
        rw [b01_ne] at hb5
        refine Ev.iload_n d_Mo_between_8 rfl ?_
        refine Ev.i2l d_Mo_between_9 (by first | omega | (simp [mu]; done) | (simp [mu]; omega)) ?_
        refine Ev.lconst (x := 0) d_Mo_between_10 rfl ?_
        refine Ev.aload_n d_Mo_between_11 rfl ?_
        refine Ev.gr 1 d_Mo_between_12 lf_Mo_7 rfl rfl (is_57 hM) (by decide) (rf_57_1 hM) ?_
        refine Ev.iload_n d_Mo_between_15 rfl ?_
        refine Ev.iaload d_Mo_between_16 (is_58 hM) (by first | omega | (simp [mu]; done) | (simp [mu]; omega)) ?_
        rw [h58]
        refine Ev.iconst d_Mo_between_17 ?_
        refine Ev.isub d_Mo_between_18 ?_
        refine Ev.i2l d_Mo_between_19 (by first | omega | (simp [mu]; done) | (simp [mu]; omega)) ?_
        refine Ev.callS d_Mo_between_20 mt_Mo_in lk_Mo_107 st_Mo_in rfl (Nat.le_of_ble_eq_true rfl) rfl (Nat.le_of_ble_eq_true rfl) (by decide) rfl (c_Mo_in (by omega) (by omega) (by omega)) ?_
        refine Ev.if_eq (tgt := 30) d_Mo_between_23 rfl b01_b (fun hb23 => by exfalso; (first | rw [b01_ne] at hb23 | rw [b01_eq] at hb23); omega) (fun hb23 => ?_)
        rw [b01_ne] at hb23
        refine Ev.iload_n d_Mo_between_26 rfl ?_
        refine Ev.if_ge (tgt := 34) d_Mo_between_27 rfl (by first | omega | (simp [mu]; done) | (simp [mu]; omega)) (fun hb27 => ?_) (fun hb27 => by exfalso; first | omega | simp at hb27 | contradiction)
        refine Ev.aload_n d_Mo_between_34 rfl ?_
        refine Ev.iload_n d_Mo_between_35 rfl ?_
        refine Ev.callV d_Mo_between_36 mt_Mo_isRight lk_Mo_134 in_Mo_isRight se_Mo_isRight rfl (Nat.le_of_ble_eq_true rfl) rfl (Nat.le_of_ble_eq_true rfl) (by decide) (is_57 hM) (by decide) rfl rfl (c_Mo_isRight hM (by omega) hPM g4) ?_
        rw [b01_t hr]
        refine Ev.if_eq (tgt := 52) d_Mo_between_39 rfl (by first | omega | (simp [mu]; done) | (simp [mu]; omega)) (fun hb39 => by exfalso; first | omega | simp at hb39 | contradiction) (fun hb39 => ?_)
        refine Ev.aload_n d_Mo_between_42 rfl ?_
        refine Ev.iload_n d_Mo_between_43 rfl ?_
        refine Ev.iload_n d_Mo_between_44 rfl ?_
        refine Ev.iload_n d_Mo_between_45 rfl ?_
        refine Ev.callV d_Mo_between_46 mt_Mo_marked lk_Mo_184 in_Mo_marked se_Mo_marked rfl (Nat.le_of_ble_eq_true rfl) rfl (Nat.le_of_ble_eq_true rfl) (by decide) (is_57 hM) (by decide) rfl rfl q1 ?_
        refine Ev.goto (tgt := 55) d_Mo_between_49 rfl ?_
        exact Ev.to (Ev.lreturn d_Mo_between_55 rfl) rfl rfl
      · refine ⟨m, ?_, fun _ _ _ _ => rfl⟩
        rw [sp_between, if_pos ⟨hp, hf⟩, if_neg hr]
        show Ev 5 m_Mo_between 0 [some (vr 57), some (vi p), some (vi f), some (vi n)] [] σ m _ σ _
        refine Ev.aload_n d_Mo_between_0 rfl ?_
        refine Ev.iload_n d_Mo_between_1 rfl ?_
        refine Ev.callV d_Mo_between_2 mt_Mo_is lk_Mo_117 in_Mo_is se_Mo_is rfl (Nat.le_of_ble_eq_true rfl) rfl (Nat.le_of_ble_eq_true rfl) (by decide) (is_57 hM) (by decide) rfl rfl (c_Mo_is hM (by omega) (by omega)) ?_
        refine Ev.if_eq (tgt := 30) d_Mo_between_5 rfl b01_b (fun hb5 => by exfalso; (first | rw [b01_ne] at hb5 | rw [b01_eq] at hb5); omega) (fun hb5 => ?_)
        rw [b01_ne] at hb5
        refine Ev.iload_n d_Mo_between_8 rfl ?_
        refine Ev.i2l d_Mo_between_9 (by first | omega | (simp [mu]; done) | (simp [mu]; omega)) ?_
        refine Ev.lconst (x := 0) d_Mo_between_10 rfl ?_
        refine Ev.aload_n d_Mo_between_11 rfl ?_
        refine Ev.gr 1 d_Mo_between_12 lf_Mo_7 rfl rfl (is_57 hM) (by decide) (rf_57_1 hM) ?_
        refine Ev.iload_n d_Mo_between_15 rfl ?_
        refine Ev.iaload d_Mo_between_16 (is_58 hM) (by first | omega | (simp [mu]; done) | (simp [mu]; omega)) ?_
        rw [h58]
        refine Ev.iconst d_Mo_between_17 ?_
        refine Ev.isub d_Mo_between_18 ?_
        refine Ev.i2l d_Mo_between_19 (by first | omega | (simp [mu]; done) | (simp [mu]; omega)) ?_
        refine Ev.callS d_Mo_between_20 mt_Mo_in lk_Mo_107 st_Mo_in rfl (Nat.le_of_ble_eq_true rfl) rfl (Nat.le_of_ble_eq_true rfl) (by decide) rfl (c_Mo_in (by omega) (by omega) (by omega)) ?_
        refine Ev.if_eq (tgt := 30) d_Mo_between_23 rfl b01_b (fun hb23 => by exfalso; (first | rw [b01_ne] at hb23 | rw [b01_eq] at hb23); omega) (fun hb23 => ?_)
        rw [b01_ne] at hb23
        refine Ev.iload_n d_Mo_between_26 rfl ?_
        refine Ev.if_ge (tgt := 34) d_Mo_between_27 rfl (by first | omega | (simp [mu]; done) | (simp [mu]; omega)) (fun hb27 => ?_) (fun hb27 => by exfalso; first | omega | simp at hb27 | contradiction)
        refine Ev.aload_n d_Mo_between_34 rfl ?_
        refine Ev.iload_n d_Mo_between_35 rfl ?_
        refine Ev.callV d_Mo_between_36 mt_Mo_isRight lk_Mo_134 in_Mo_isRight se_Mo_isRight rfl (Nat.le_of_ble_eq_true rfl) rfl (Nat.le_of_ble_eq_true rfl) (by decide) (is_57 hM) (by decide) rfl rfl (c_Mo_isRight hM (by omega) hPM g4) ?_
        rw [b01_f hr]
        refine Ev.if_eq (tgt := 52) d_Mo_between_39 rfl (by first | omega | (simp [mu]; done) | (simp [mu]; omega)) (fun hb39 => ?_) (fun hb39 => by exfalso; first | omega | simp at hb39 | contradiction)
        refine Ev.ldc2 (x := (-2)) d_Mo_between_52 kl_Mo_188 ?_
        exact Ev.to (Ev.lreturn d_Mo_between_55 rfl) rfl rfl
    · refine ⟨m, ?_, fun _ _ _ _ => rfl⟩
      rw [sp_between, if_neg (fun h => hf h.2)]
      show Ev 5 m_Mo_between 0 [some (vr 57), some (vi p), some (vi f), some (vi n)] [] σ m _ σ _
      refine Ev.aload_n d_Mo_between_0 rfl ?_
      refine Ev.iload_n d_Mo_between_1 rfl ?_
      refine Ev.callV d_Mo_between_2 mt_Mo_is lk_Mo_117 in_Mo_is se_Mo_is rfl (Nat.le_of_ble_eq_true rfl) rfl (Nat.le_of_ble_eq_true rfl) (by decide) (is_57 hM) (by decide) rfl rfl (c_Mo_is hM (by omega) (by omega)) ?_
      refine Ev.if_eq (tgt := 30) d_Mo_between_5 rfl b01_b (fun hb5 => by exfalso; (first | rw [b01_ne] at hb5 | rw [b01_eq] at hb5); omega) (fun hb5 => ?_)
      rw [b01_ne] at hb5
      refine Ev.iload_n d_Mo_between_8 rfl ?_
      refine Ev.i2l d_Mo_between_9 (by first | omega | (simp [mu]; done) | (simp [mu]; omega)) ?_
      refine Ev.lconst (x := 0) d_Mo_between_10 rfl ?_
      refine Ev.aload_n d_Mo_between_11 rfl ?_
      refine Ev.gr 1 d_Mo_between_12 lf_Mo_7 rfl rfl (is_57 hM) (by decide) (rf_57_1 hM) ?_
      refine Ev.iload_n d_Mo_between_15 rfl ?_
      refine Ev.iaload d_Mo_between_16 (is_58 hM) (by first | omega | (simp [mu]; done) | (simp [mu]; omega)) ?_
      rw [h58]
      refine Ev.iconst d_Mo_between_17 ?_
      refine Ev.isub d_Mo_between_18 ?_
      refine Ev.i2l d_Mo_between_19 (by first | omega | (simp [mu]; done) | (simp [mu]; omega)) ?_
      refine Ev.callS d_Mo_between_20 mt_Mo_in lk_Mo_107 st_Mo_in rfl (Nat.le_of_ble_eq_true rfl) rfl (Nat.le_of_ble_eq_true rfl) (by decide) rfl (c_Mo_in (by omega) (by omega) (by omega)) ?_
      refine Ev.if_eq (tgt := 30) d_Mo_between_23 rfl b01_b (fun hb23 => ?_) (fun hb23 => ?_)
      · rw [b01_eq] at hb23
        refine Ev.ldc2 (x := (-1)) d_Mo_between_30 kl_Mo_154 ?_
        exact Ev.to (Ev.lreturn d_Mo_between_33 rfl) rfl rfl
      · rw [b01_ne] at hb23
        refine Ev.iload_n d_Mo_between_26 rfl ?_
        refine Ev.if_ge (tgt := 34) d_Mo_between_27 rfl (by first | omega | (simp [mu]; done) | (simp [mu]; omega)) (fun hb27 => ?_) (fun hb27 => ?_)
        · exfalso; omega
        · refine Ev.ldc2 (x := (-1)) d_Mo_between_30 kl_Mo_154 ?_
          exact Ev.to (Ev.lreturn d_Mo_between_33 rfl) rfl rfl
  · refine ⟨m, ?_, fun _ _ _ _ => rfl⟩
    rw [sp_between, if_neg (fun h => hp h.1)]
    show Ev 5 m_Mo_between 0 [some (vr 57), some (vi p), some (vi f), some (vi n)] [] σ m _ σ _
    refine Ev.aload_n d_Mo_between_0 rfl ?_
    refine Ev.iload_n d_Mo_between_1 rfl ?_
    refine Ev.callV d_Mo_between_2 mt_Mo_is lk_Mo_117 in_Mo_is se_Mo_is rfl (Nat.le_of_ble_eq_true rfl) rfl (Nat.le_of_ble_eq_true rfl) (by decide) (is_57 hM) (by decide) rfl rfl (c_Mo_is hM (by omega) (by omega)) ?_
    refine Ev.if_eq (tgt := 30) d_Mo_between_5 rfl b01_b (fun hb5 => ?_) (fun hb5 => by exfalso; (first | rw [b01_ne] at hb5 | rw [b01_eq] at hb5); omega)
    rw [b01_eq] at hb5
    refine Ev.ldc2 (x := (-1)) d_Mo_between_30 kl_Mo_154 ?_
    exact Ev.to (Ev.lreturn d_Mo_between_33 rfl) rfl rfl
end
