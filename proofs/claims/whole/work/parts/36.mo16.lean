section
variable {σ : Sg} {m : Mm}
/-! the reference's table of ways, as a function of the row -/
def mrow (m : Mm) (A : Int → Int) : Mm := fun a j => if a = 69 then A j else m a j
theorem mrow_a {m : Mm} {A : Int → Int} {a j : Int} (h : a ≠ 69) : mrow m A a j = m a j := if_neg h
theorem mrow_s {m : Mm} {A : Int → Int} {j : Int} : mrow m A 69 j = A j := if_pos rfl
theorem mrow_mu {m : Mm} {A : Int → Int} {i x : Int} : mu (mrow m A) 69 i x = mrow m (up A i x) := by
  funext a j
  simp only [mu, mrow, up]
  by_cases h : a = 69
  · simp [h]
  · simp [h]
def adA (A : Int → Int) (i v : Int) : Int → Int := up A i (A i + v)
def gok (f code n v gap codes wide : Int) : KD → Int → (Int → Int) → Int → (Int → Int) × Int
  | [], _, A, fl => (A, fl)
  | k :: t, c, A, fl => gok f code n v gap codes wide t (c * (k.2.2 + 1)) (if code / c % (k.2.2 + 1) < k.2.2 ∧ k.1 < f ∧ f ≤ k.2.1 then adA A ((f * codes + code + c) * wide + (if gap = f - 1 then n + 1 else n)) v else A) (if fl = 1 ∧ ¬ (code / c % (k.2.2 + 1) < k.2.2 ∧ k.2.1 = f) then 1 else 0)
def gfin (f code n v codes wide : Int) (p : (Int → Int) × Int) : Int → Int := if p.2 = 1 then adA p.1 (((f + 1) * codes + code) * wide + n) v else p.1
theorem gfin0 {f code n v codes wide : Int} {A : Int → Int} {fl : Int} (h : ¬ fl = 1) : gfin f code n v codes wide (A, fl) = A := if_neg h
theorem gfin1 {f code n v codes wide : Int} {A : Int → Int} {fl : Int} (h : fl = 1) : gfin f code n v codes wide (A, fl) = adA A (((f + 1) * codes + code) * wide + n) v := if_pos h
theorem gok_nil {f code n v gap codes wide c : Int} {A : Int → Int} {fl : Int} : gok f code n v gap codes wide [] c A fl = (A, fl) := rfl
theorem gok_cons {f code n v gap codes wide c : Int} {A : Int → Int} {fl : Int} {k : Int × Int × Int} {t : KD} : gok f code n v gap codes wide (k :: t) c A fl = gok f code n v gap codes wide t (c * (k.2.2 + 1)) (if code / c % (k.2.2 + 1) < k.2.2 ∧ k.1 < f ∧ f ≤ k.2.1 then adA A ((f * codes + code + c) * wide + (if gap = f - 1 then n + 1 else n)) v else A) (if fl = 1 ∧ ¬ (code / c % (k.2.2 + 1) < k.2.2 ∧ k.2.1 = f) then 1 else 0) := rfl
def goF (f code n v d gap codes wide : Int) (K : KD) (A : Int → Int) : Int → Int := gfin f code n v codes wide (gok f code n v gap codes wide K 1 A (if f < d then 1 else 0))
def dpN (d gap codes wide f code : Int) (K : KD) : Nat → Int → (Int → Int) → Int → Int
  | 0, _, A => A
  | q + 1, n, A => dpN d gap codes wide f code K q (n + 1) (if (A ((f * codes + code) * wide + n)).bmod 18446744073709551616 = 0 then A else goF f code n (A ((f * codes + code) * wide + n)) d gap codes wide K A)
def dpC (d gap codes wide f : Int) (K : KD) : Nat → Int → (Int → Int) → Int → Int
  | 0, _, A => A
  | q + 1, code, A => dpC d gap codes wide f K q (code + 1) (dpN d gap codes wide f code K wide.toNat 0 A)
def dpF (d gap codes wide : Int) (K : KD) : Nat → Int → (Int → Int) → Int → Int
  | 0, _, A => A
  | q + 1, f, A => dpF d gap codes wide K q (f + 1) (dpC d gap codes wide f K codes.toNat 0 A)
def wdt (gap : Int) : Int := if gap = -4 then 1 else 11
def dpA (J : Int → Int) (d gap : Int) (K : KD) : Int → Int := dpF d gap (cdl K 1) (wdt gap) K (d + 1).toNat 0 (up (fun j => if 0 ≤ j ∧ j < (d + 1) * cdl K 1 * wdt gap then 0 else J j) 0 1)
def mkd (J : Int → Int) (d gap wanted : Int) (l : List Int) : Int := if 0 ≤ wanted ∧ wanted ≤ wdt gap - 1 then dpA J d gap (kdS d l) ((d * cdl (kdS d l) 1 + cdl (kdS d l) 1 - 1) * wdt gap + wanted) else 0
theorem c_Mo_usedOf (hM : MoS σ) {code t c mn : Int} (ht : 0 ≤ t ∧ t < 10) (hc : m 68 t = c) (hn : m 67 t = mn) (hc0 : 0 < c ∧ c ≤ 1000000) (hm : 0 ≤ mn ∧ mn ≤ 30) (hcd : 0 ≤ code ∧ code ≤ 1000000) : Call 1 m_Mo_usedOf [vr 57, vi code, vi t] σ m (some (vi (code / c % (mn + 1)))) σ m := by
  show Ev 1 m_Mo_usedOf 0 [some (vr 57), some (vi code), some (vi t)] [] σ m _ σ m
  have h1 : 0 ≤ code / c := Int.ediv_nonneg hcd.1 (by omega)
  have h2 : code / c ≤ code := Int.ediv_le_self _ hcd.1
  refine Ev.iload_n d_Mo_usedOf_0 rfl ?_
  refine Ev.aload_n d_Mo_usedOf_1 rfl ?_
  refine Ev.gr 12 d_Mo_usedOf_2 lf_Mo_41 rfl rfl (is_57 hM) (by decide) (rf_57_12 hM) ?_
  refine Ev.iload_n d_Mo_usedOf_5 rfl ?_
  refine Ev.iaload d_Mo_usedOf_6 (is_68 hM) (by first | omega | (simp [mu]; done) | (simp [mu]; omega)) ?_
  refine Ev.idiv d_Mo_usedOf_7 (by omega) (by rw [hc]; omega) ?_
  refine Ev.aload_n d_Mo_usedOf_8 rfl ?_
  refine Ev.gr 11 d_Mo_usedOf_9 lf_Mo_38 rfl rfl (is_57 hM) (by decide) (rf_57_11 hM) ?_
  refine Ev.iload_n d_Mo_usedOf_12 rfl ?_
  refine Ev.iaload d_Mo_usedOf_13 (is_67 hM) (by first | omega | (simp [mu]; done) | (simp [mu]; omega)) ?_
  refine Ev.iconst d_Mo_usedOf_14 ?_
  refine Ev.iadd d_Mo_usedOf_15 ?_
  refine Ev.irem d_Mo_usedOf_16 (by rw [hc]; omega) (by rw [hn]; omega) ?_
  exact Ev.to (Ev.ireturn d_Mo_usedOf_17 rfl) (ri (by rw [hc, hn])) rfl
theorem lp_Mo_goOn (hM : MoS σ) {f code n v d gap codes wide kn : Int} (hw : wide = 1 ∨ wide = 11) (hf : 0 ≤ f ∧ f ≤ 4) (hd : 0 ≤ d ∧ d ≤ 4) (hfc : 0 ≤ f * codes) (hcd : 0 ≤ code ∧ code ≤ 1000) (hn : 0 ≤ n ∧ n ≤ 20) (hg : -4 ≤ gap ∧ gap ≤ 4) (hB : (f * codes + code + codes) * 11 + n + 1 < 60000) (hcs : 0 < codes ∧ codes ≤ 1000) (h8 : m 57 8 = kn) (hkn : kn ≤ 10) (h13 : m 57 13 = codes) : ∀ (K : KD) (t c : Int) (A : Int → Int) (fl : Int) (x11 x12 : Option AV), KA m t K c → t + K.length = kn → 0 ≤ t → 0 < c → KOK K → cdl K c = codes → (fl = 0 ∨ fl = 1) → Ev 2 m_Mo_goOn 16 [some (vr 57), some (vi f), some (vi code), some (vi n), some (vl v), none, some (vi d), some (vi gap), some (vi wide), some (vi fl), some (vi t), x11, x12] [] σ (mrow m A) none σ (mrow m (gfin f code n v codes wide (gok f code n v gap codes wide K c A fl)))
  | [], t, c, A, fl, x11, x12, hA, ht, h0, hc, hK, hcc, hfl => by
    simp only [List.length_nil] at ht
    have r8 : mrow m A 57 8 = kn := (mrow_a (by decide)).trans h8
    have r13 : mrow m A 57 13 = codes := (mrow_a (by decide)).trans h13
    have e1 : (f + 1) * codes = f * codes + codes := by rw [Int.add_mul, Int.one_mul]
    rw [gok_nil]
    refine Ev.iload d_Mo_goOn_16 rfl ?_
    refine Ev.aload_n d_Mo_goOn_18 rfl ?_
    refine Ev.gf 8 d_Mo_goOn_19 lf_Mo_164 rfl rfl (is_57 hM) (by decide) ?_
    refine Ev.icmp_ge (tgt := 159) d_Mo_goOn_22 rfl (by first | omega | (simp [mu]; done) | (simp [mu]; omega)) (by first | omega | (simp [mu]; done) | (simp [mu]; omega)) (fun hb22 => ?_) (fun hb22 => by exfalso; first | omega | simp at hb22 | contradiction)
    refine Ev.iload d_Mo_goOn_159 rfl ?_
    refine Ev.if_eq (tgt := 189) d_Mo_goOn_161 rfl (by first | omega | (simp [mu]; done) | (simp [mu]; omega)) (fun hb161 => ?_) (fun hb161 => ?_)
    · exact Ev.to (Ev.return d_Mo_goOn_189 rfl) rfl (by rw [gfin0 (by omega)])
    · refine Ev.aload_n d_Mo_goOn_164 rfl ?_
      refine Ev.gr 14 d_Mo_goOn_165 lf_Mo_45 rfl rfl (is_57 hM) (by decide) (rf_57_14 hM) ?_
      refine Ev.iload_n d_Mo_goOn_168 rfl ?_
      refine Ev.iconst d_Mo_goOn_169 ?_
      refine Ev.iadd d_Mo_goOn_170 ?_
      refine Ev.aload_n d_Mo_goOn_171 rfl ?_
      refine Ev.gf 13 d_Mo_goOn_172 lf_Mo_167 rfl rfl (is_57 hM) (by decide) ?_
      refine Ev.imul d_Mo_goOn_175 ?_
      refine Ev.iload_n d_Mo_goOn_176 rfl ?_
      refine Ev.iadd d_Mo_goOn_177 ?_
      refine Ev.iload d_Mo_goOn_178 rfl ?_
      refine Ev.imul d_Mo_goOn_180 ?_
      refine Ev.iload_n d_Mo_goOn_181 rfl ?_
      refine Ev.iadd d_Mo_goOn_182 ?_
      rw [r13]
      refine Ev.dup2 d_Mo_goOn_183 rfl rfl ?_
      refine Ev.laload d_Mo_goOn_184 (is_69 hM) (by rcases hw with rfl | rfl <;> omega) ?_
      rw [mrow_s]
      refine Ev.lload d_Mo_goOn_185 rfl ?_
      refine Ev.ladd d_Mo_goOn_187 ?_
      refine Ev.lastore d_Mo_goOn_188 (is_69 hM) (by decide) (by rcases hw with rfl | rfl <;> omega) ?_
      exact Ev.to (Ev.return d_Mo_goOn_189 rfl) rfl (by rw [gfin1 (by omega), mrow_mu]; rfl)
  | k :: K, t, c, A, fl, x11, x12, hA, ht, h0, hc, hK, hcc, hfl => by
    obtain ⟨⟨a1, a2, a3, a4⟩, hA2⟩ := hA
    simp only [List.length_cons] at ht
    obtain ⟨q1, q2, q3⟩ := hK k List.mem_cons_self
    have hcle : c * 1 ≤ c * (k.2.2 + 1) := Int.mul_le_mul_of_nonneg_left (by omega) (by omega)
    have hc1 := cdl_ge K (c * (k.2.2 + 1)) (fun z hz => by have := (hK z (List.mem_cons_of_mem _ hz)).2.2; omega) (by omega)
    simp only [cdl] at hcc
    have r8 : mrow m A 57 8 = kn := (mrow_a (by decide)).trans h8
    have r13 : mrow m A 57 13 = codes := (mrow_a (by decide)).trans h13
    have r65 : mrow m A 65 t = k.1 := (mrow_a (by decide)).trans a1
    have r66 : mrow m A 66 t = k.2.1 := (mrow_a (by decide)).trans a2
    have r66g : ∀ B : Int → Int, mrow m B 66 t = k.2.1 := fun B => (mrow_a (by decide)).trans a2
    have r67 : mrow m A 67 t = k.2.2 := (mrow_a (by decide)).trans a3
    have r68 : mrow m A 68 t = c := (mrow_a (by decide)).trans a4
    have u0 : 0 ≤ code / c % (k.2.2 + 1) := Int.emod_nonneg _ (by omega)
    have u1 : code / c % (k.2.2 + 1) < k.2.2 + 1 := Int.emod_lt_of_pos _ (by omega)
    rw [gok_cons]
    refine Ev.iload d_Mo_goOn_16 rfl ?_
    refine Ev.aload_n d_Mo_goOn_18 rfl ?_
    refine Ev.gf 8 d_Mo_goOn_19 lf_Mo_164 rfl rfl (is_57 hM) (by decide) ?_
    refine Ev.icmp_ge (tgt := 159) d_Mo_goOn_22 rfl (by first | omega | (simp [mu]; done) | (simp [mu]; omega)) (by first | omega | (simp [mu]; done) | (simp [mu]; omega)) (fun hb22 => by exfalso; first | omega | simp at hb22 | contradiction) (fun hb22 => ?_)
    refine Ev.aload_n d_Mo_goOn_25 rfl ?_
    refine Ev.iload_n d_Mo_goOn_26 rfl ?_
    refine Ev.iload d_Mo_goOn_27 rfl ?_
    refine Ev.callV d_Mo_goOn_29 mt_Mo_usedOf lk_Mo_181 in_Mo_usedOf se_Mo_usedOf rfl (Nat.le_of_ble_eq_true rfl) rfl (Nat.le_of_ble_eq_true rfl) (by decide) (is_57 hM) (by decide) rfl rfl (c_Mo_usedOf hM (by omega) r68 r67 (by omega) (by omega) (by omega)) ?_
    refine Ev.aload_n d_Mo_goOn_32 rfl ?_
    refine Ev.gr 11 d_Mo_goOn_33 lf_Mo_38 rfl rfl (is_57 hM) (by decide) (rf_57_11 hM) ?_
    refine Ev.iload d_Mo_goOn_36 rfl ?_
    refine Ev.iaload d_Mo_goOn_38 (is_67 hM) (by first | omega | (simp [mu]; done) | (simp [mu]; omega)) ?_
    refine Ev.icmp_ge (tgt := 46) d_Mo_goOn_39 rfl (by first | omega | (simp [mu]; done) | (simp [mu]; omega)) (by first | omega | (simp [mu]; done) | (simp [mu]; omega)) (fun hb39 => ?_) (fun hb39 => ?_)
    · refine Ev.iconst d_Mo_goOn_46 ?_
      refine Ev.istore_11 d_Mo_goOn_47 rfl ?_
      refine Ev.iload d_Mo_goOn_49 rfl ?_
      refine Ev.if_eq (tgt := 125) d_Mo_goOn_51 rfl (by first | omega | (simp [mu]; done) | (simp [mu]; omega)) (fun hb51 => ?_) (fun hb51 => by exfalso; first | omega | simp at hb51 | contradiction)
      try rw [mrow_mu]
      refine Ev.iload d_Mo_goOn_125 rfl ?_
      refine Ev.if_eq (tgt := 150) d_Mo_goOn_127 rfl (by first | omega | (simp [mu]; done) | (simp [mu]; omega)) (fun hb127 => ?_) (fun hb127 => ?_)
      · refine Ev.iconst d_Mo_goOn_150 ?_
        refine Ev.istore_9 d_Mo_goOn_151 rfl ?_
        refine Ev.iinc_10 d_Mo_goOn_153 rfl ?_
        refine Ev.goto (tgt := 16) d_Mo_goOn_156 rfl ?_
        rw [if_neg (by omega)]
        rw [if_neg (by omega)]
        exact lp_Mo_goOn hM hw hf hd hfc hcd hn hg hB hcs h8 hkn h13 K (t + 1) (c * (k.2.2 + 1)) _ _ _ _ hA2 (by omega) (by omega) (by omega) (fun z hz => hK z (List.mem_cons_of_mem _ hz)) hcc (by omega)
      · refine Ev.iload d_Mo_goOn_130 rfl ?_
        refine Ev.if_eq (tgt := 146) d_Mo_goOn_132 rfl (by first | omega | (simp [mu]; done) | (simp [mu]; omega)) (fun hb132 => ?_) (fun hb132 => by exfalso; first | omega | simp at hb132 | contradiction)
        refine Ev.iconst d_Mo_goOn_146 ?_
        refine Ev.goto (tgt := 151) d_Mo_goOn_147 rfl ?_
        refine Ev.istore_9 d_Mo_goOn_151 rfl ?_
        refine Ev.iinc_10 d_Mo_goOn_153 rfl ?_
        refine Ev.goto (tgt := 16) d_Mo_goOn_156 rfl ?_
        rw [if_neg (by omega)]
        rw [if_pos (by omega)]
        exact lp_Mo_goOn hM hw hf hd hfc hcd hn hg hB hcs h8 hkn h13 K (t + 1) (c * (k.2.2 + 1)) _ _ _ _ hA2 (by omega) (by omega) (by omega) (fun z hz => hK z (List.mem_cons_of_mem _ hz)) hcc (by omega)
    · refine Ev.iconst d_Mo_goOn_42 ?_
      refine Ev.goto (tgt := 47) d_Mo_goOn_43 rfl ?_
      refine Ev.istore_11 d_Mo_goOn_47 rfl ?_
      refine Ev.iload d_Mo_goOn_49 rfl ?_
      refine Ev.if_eq (tgt := 125) d_Mo_goOn_51 rfl (by first | omega | (simp [mu]; done) | (simp [mu]; omega)) (fun hb51 => by exfalso; first | omega | simp at hb51 | contradiction) (fun hb51 => ?_)
      refine Ev.aload_n d_Mo_goOn_54 rfl ?_
      refine Ev.gr 9 d_Mo_goOn_55 lf_Mo_32 rfl rfl (is_57 hM) (by decide) (rf_57_9 hM) ?_
      refine Ev.iload d_Mo_goOn_58 rfl ?_
      refine Ev.iaload d_Mo_goOn_60 (is_65 hM) (by first | omega | (simp [mu]; done) | (simp [mu]; omega)) ?_
      refine Ev.iload_n d_Mo_goOn_61 rfl ?_
      refine Ev.icmp_ge (tgt := 125) d_Mo_goOn_62 rfl (by first | omega | (simp [mu]; done) | (simp [mu]; omega)) (by first | omega | (simp [mu]; done) | (simp [mu]; omega)) (fun hb62 => ?_) (fun hb62 => ?_)
      · try rw [mrow_mu]
        refine Ev.iload d_Mo_goOn_125 rfl ?_
        refine Ev.if_eq (tgt := 150) d_Mo_goOn_127 rfl (by first | omega | (simp [mu]; done) | (simp [mu]; omega)) (fun hb127 => ?_) (fun hb127 => ?_)
        · refine Ev.iconst d_Mo_goOn_150 ?_
          refine Ev.istore_9 d_Mo_goOn_151 rfl ?_
          refine Ev.iinc_10 d_Mo_goOn_153 rfl ?_
          refine Ev.goto (tgt := 16) d_Mo_goOn_156 rfl ?_
          rw [if_neg (by omega)]
          rw [if_neg (by omega)]
          exact lp_Mo_goOn hM hw hf hd hfc hcd hn hg hB hcs h8 hkn h13 K (t + 1) (c * (k.2.2 + 1)) _ _ _ _ hA2 (by omega) (by omega) (by omega) (fun z hz => hK z (List.mem_cons_of_mem _ hz)) hcc (by omega)
        · refine Ev.iload d_Mo_goOn_130 rfl ?_
          refine Ev.if_eq (tgt := 146) d_Mo_goOn_132 rfl (by first | omega | (simp [mu]; done) | (simp [mu]; omega)) (fun hb132 => by exfalso; first | omega | simp at hb132 | contradiction) (fun hb132 => ?_)
          refine Ev.aload_n d_Mo_goOn_135 rfl ?_
          refine Ev.gr 10 d_Mo_goOn_136 lf_Mo_35 rfl rfl (is_57 hM) (by decide) (rf_57_10 hM) ?_
          refine Ev.iload d_Mo_goOn_139 rfl ?_
          refine Ev.iaload d_Mo_goOn_141 (is_66 hM) (by first | omega | (simp [mu]; done) | (simp [mu]; omega)) ?_
          rw [r66g]
          refine Ev.iload_n d_Mo_goOn_142 rfl ?_
          refine Ev.icmp_eq (tgt := 150) d_Mo_goOn_143 rfl (by first | omega | (simp [mu]; done) | (simp [mu]; omega)) (by first | omega | (simp [mu]; done) | (simp [mu]; omega)) (fun hb143 => ?_) (fun hb143 => ?_)
          · refine Ev.iconst d_Mo_goOn_150 ?_
            refine Ev.istore_9 d_Mo_goOn_151 rfl ?_
            refine Ev.iinc_10 d_Mo_goOn_153 rfl ?_
            refine Ev.goto (tgt := 16) d_Mo_goOn_156 rfl ?_
            rw [if_neg (by omega)]
            rw [if_neg (by omega)]
            exact lp_Mo_goOn hM hw hf hd hfc hcd hn hg hB hcs h8 hkn h13 K (t + 1) (c * (k.2.2 + 1)) _ _ _ _ hA2 (by omega) (by omega) (by omega) (fun z hz => hK z (List.mem_cons_of_mem _ hz)) hcc (by omega)
          · refine Ev.iconst d_Mo_goOn_146 ?_
            refine Ev.goto (tgt := 151) d_Mo_goOn_147 rfl ?_
            refine Ev.istore_9 d_Mo_goOn_151 rfl ?_
            refine Ev.iinc_10 d_Mo_goOn_153 rfl ?_
            refine Ev.goto (tgt := 16) d_Mo_goOn_156 rfl ?_
            rw [if_neg (by omega)]
            rw [if_pos (by omega)]
            exact lp_Mo_goOn hM hw hf hd hfc hcd hn hg hB hcs h8 hkn h13 K (t + 1) (c * (k.2.2 + 1)) _ _ _ _ hA2 (by omega) (by omega) (by omega) (fun z hz => hK z (List.mem_cons_of_mem _ hz)) hcc (by omega)
      · refine Ev.aload_n d_Mo_goOn_65 rfl ?_
        refine Ev.gr 10 d_Mo_goOn_66 lf_Mo_35 rfl rfl (is_57 hM) (by decide) (rf_57_10 hM) ?_
        refine Ev.iload d_Mo_goOn_69 rfl ?_
        refine Ev.iaload d_Mo_goOn_71 (is_66 hM) (by first | omega | (simp [mu]; done) | (simp [mu]; omega)) ?_
        refine Ev.iload_n d_Mo_goOn_72 rfl ?_
        refine Ev.icmp_lt (tgt := 125) d_Mo_goOn_73 rfl (by first | omega | (simp [mu]; done) | (simp [mu]; omega)) (by first | omega | (simp [mu]; done) | (simp [mu]; omega)) (fun hb73 => ?_) (fun hb73 => ?_)
        · try rw [mrow_mu]
          refine Ev.iload d_Mo_goOn_125 rfl ?_
          refine Ev.if_eq (tgt := 150) d_Mo_goOn_127 rfl (by first | omega | (simp [mu]; done) | (simp [mu]; omega)) (fun hb127 => ?_) (fun hb127 => ?_)
          · refine Ev.iconst d_Mo_goOn_150 ?_
            refine Ev.istore_9 d_Mo_goOn_151 rfl ?_
            refine Ev.iinc_10 d_Mo_goOn_153 rfl ?_
            refine Ev.goto (tgt := 16) d_Mo_goOn_156 rfl ?_
            rw [if_neg (by omega)]
            rw [if_neg (by omega)]
            exact lp_Mo_goOn hM hw hf hd hfc hcd hn hg hB hcs h8 hkn h13 K (t + 1) (c * (k.2.2 + 1)) _ _ _ _ hA2 (by omega) (by omega) (by omega) (fun z hz => hK z (List.mem_cons_of_mem _ hz)) hcc (by omega)
          · refine Ev.iload d_Mo_goOn_130 rfl ?_
            refine Ev.if_eq (tgt := 146) d_Mo_goOn_132 rfl (by first | omega | (simp [mu]; done) | (simp [mu]; omega)) (fun hb132 => by exfalso; first | omega | simp at hb132 | contradiction) (fun hb132 => ?_)
            refine Ev.aload_n d_Mo_goOn_135 rfl ?_
            refine Ev.gr 10 d_Mo_goOn_136 lf_Mo_35 rfl rfl (is_57 hM) (by decide) (rf_57_10 hM) ?_
            refine Ev.iload d_Mo_goOn_139 rfl ?_
            refine Ev.iaload d_Mo_goOn_141 (is_66 hM) (by first | omega | (simp [mu]; done) | (simp [mu]; omega)) ?_
            rw [r66g]
            refine Ev.iload_n d_Mo_goOn_142 rfl ?_
            refine Ev.icmp_eq (tgt := 150) d_Mo_goOn_143 rfl (by first | omega | (simp [mu]; done) | (simp [mu]; omega)) (by first | omega | (simp [mu]; done) | (simp [mu]; omega)) (fun hb143 => ?_) (fun hb143 => ?_)
            · refine Ev.iconst d_Mo_goOn_150 ?_
              refine Ev.istore_9 d_Mo_goOn_151 rfl ?_
              refine Ev.iinc_10 d_Mo_goOn_153 rfl ?_
              refine Ev.goto (tgt := 16) d_Mo_goOn_156 rfl ?_
              rw [if_neg (by omega)]
              rw [if_neg (by omega)]
              exact lp_Mo_goOn hM hw hf hd hfc hcd hn hg hB hcs h8 hkn h13 K (t + 1) (c * (k.2.2 + 1)) _ _ _ _ hA2 (by omega) (by omega) (by omega) (fun z hz => hK z (List.mem_cons_of_mem _ hz)) hcc (by omega)
            · refine Ev.iconst d_Mo_goOn_146 ?_
              refine Ev.goto (tgt := 151) d_Mo_goOn_147 rfl ?_
              refine Ev.istore_9 d_Mo_goOn_151 rfl ?_
              refine Ev.iinc_10 d_Mo_goOn_153 rfl ?_
              refine Ev.goto (tgt := 16) d_Mo_goOn_156 rfl ?_
              rw [if_neg (by omega)]
              rw [if_pos (by omega)]
              exact lp_Mo_goOn hM hw hf hd hfc hcd hn hg hB hcs h8 hkn h13 K (t + 1) (c * (k.2.2 + 1)) _ _ _ _ hA2 (by omega) (by omega) (by omega) (fun z hz => hK z (List.mem_cons_of_mem _ hz)) hcc (by omega)
        · refine Ev.iload d_Mo_goOn_76 rfl ?_
          refine Ev.iload_n d_Mo_goOn_78 rfl ?_
          refine Ev.iconst d_Mo_goOn_79 ?_
          refine Ev.isub d_Mo_goOn_80 ?_
          refine Ev.icmp_ne (tgt := 90) d_Mo_goOn_81 rfl (by first | omega | (simp [mu]; done) | (simp [mu]; omega)) (by first | omega | (simp [mu]; done) | (simp [mu]; omega)) (fun hb81 => ?_) (fun hb81 => ?_)
          · refine Ev.iload_n d_Mo_goOn_90 rfl ?_
            refine Ev.istore_12 d_Mo_goOn_91 rfl ?_
            refine Ev.aload_n d_Mo_goOn_93 rfl ?_
            refine Ev.gr 14 d_Mo_goOn_94 lf_Mo_45 rfl rfl (is_57 hM) (by decide) (rf_57_14 hM) ?_
            refine Ev.iload_n d_Mo_goOn_97 rfl ?_
            refine Ev.aload_n d_Mo_goOn_98 rfl ?_
            refine Ev.gf 13 d_Mo_goOn_99 lf_Mo_167 rfl rfl (is_57 hM) (by decide) ?_
            refine Ev.imul d_Mo_goOn_102 ?_
            refine Ev.iload_n d_Mo_goOn_103 rfl ?_
            refine Ev.iadd d_Mo_goOn_104 ?_
            refine Ev.aload_n d_Mo_goOn_105 rfl ?_
            refine Ev.gr 12 d_Mo_goOn_106 lf_Mo_41 rfl rfl (is_57 hM) (by decide) (rf_57_12 hM) ?_
            refine Ev.iload d_Mo_goOn_109 rfl ?_
            refine Ev.iaload d_Mo_goOn_111 (is_68 hM) (by first | omega | (simp [mu]; done) | (simp [mu]; omega)) ?_
            refine Ev.iadd d_Mo_goOn_112 ?_
            refine Ev.iload d_Mo_goOn_113 rfl ?_
            refine Ev.imul d_Mo_goOn_115 ?_
            refine Ev.iload d_Mo_goOn_116 rfl ?_
            refine Ev.iadd d_Mo_goOn_118 ?_
            rw [r13, r68]
            refine Ev.dup2 d_Mo_goOn_119 rfl rfl ?_
            refine Ev.laload d_Mo_goOn_120 (is_69 hM) (by rcases hw with rfl | rfl <;> omega) ?_
            rw [mrow_s]
            refine Ev.lload d_Mo_goOn_121 rfl ?_
            refine Ev.ladd d_Mo_goOn_123 ?_
            refine Ev.lastore d_Mo_goOn_124 (is_69 hM) (by decide) (by rcases hw with rfl | rfl <;> omega) ?_
            try rw [mrow_mu]
            refine Ev.iload d_Mo_goOn_125 rfl ?_
            refine Ev.if_eq (tgt := 150) d_Mo_goOn_127 rfl (by first | omega | (simp [mu]; done) | (simp [mu]; omega)) (fun hb127 => ?_) (fun hb127 => ?_)
            · refine Ev.iconst d_Mo_goOn_150 ?_
              refine Ev.istore_9 d_Mo_goOn_151 rfl ?_
              refine Ev.iinc_10 d_Mo_goOn_153 rfl ?_
              refine Ev.goto (tgt := 16) d_Mo_goOn_156 rfl ?_
              rw [if_pos (by omega)]
              rw [if_neg (by omega)]
              rw [if_neg (by omega)]
              exact lp_Mo_goOn hM hw hf hd hfc hcd hn hg hB hcs h8 hkn h13 K (t + 1) (c * (k.2.2 + 1)) _ _ _ _ hA2 (by omega) (by omega) (by omega) (fun z hz => hK z (List.mem_cons_of_mem _ hz)) hcc (by omega)
            · refine Ev.iload d_Mo_goOn_130 rfl ?_
              refine Ev.if_eq (tgt := 146) d_Mo_goOn_132 rfl (by first | omega | (simp [mu]; done) | (simp [mu]; omega)) (fun hb132 => by exfalso; first | omega | simp at hb132 | contradiction) (fun hb132 => ?_)
              refine Ev.aload_n d_Mo_goOn_135 rfl ?_
              refine Ev.gr 10 d_Mo_goOn_136 lf_Mo_35 rfl rfl (is_57 hM) (by decide) (rf_57_10 hM) ?_
              refine Ev.iload d_Mo_goOn_139 rfl ?_
              refine Ev.iaload d_Mo_goOn_141 (is_66 hM) (by first | omega | (simp [mu]; done) | (simp [mu]; omega)) ?_
              rw [r66g]
              refine Ev.iload_n d_Mo_goOn_142 rfl ?_
              refine Ev.icmp_eq (tgt := 150) d_Mo_goOn_143 rfl (by first | omega | (simp [mu]; done) | (simp [mu]; omega)) (by first | omega | (simp [mu]; done) | (simp [mu]; omega)) (fun hb143 => ?_) (fun hb143 => ?_)
              · refine Ev.iconst d_Mo_goOn_150 ?_
                refine Ev.istore_9 d_Mo_goOn_151 rfl ?_
                refine Ev.iinc_10 d_Mo_goOn_153 rfl ?_
                refine Ev.goto (tgt := 16) d_Mo_goOn_156 rfl ?_
                rw [if_pos (by omega)]
                rw [if_neg (by omega)]
                rw [if_neg (by omega)]
                exact lp_Mo_goOn hM hw hf hd hfc hcd hn hg hB hcs h8 hkn h13 K (t + 1) (c * (k.2.2 + 1)) _ _ _ _ hA2 (by omega) (by omega) (by omega) (fun z hz => hK z (List.mem_cons_of_mem _ hz)) hcc (by omega)
              · refine Ev.iconst d_Mo_goOn_146 ?_
                refine Ev.goto (tgt := 151) d_Mo_goOn_147 rfl ?_
                refine Ev.istore_9 d_Mo_goOn_151 rfl ?_
                refine Ev.iinc_10 d_Mo_goOn_153 rfl ?_
                refine Ev.goto (tgt := 16) d_Mo_goOn_156 rfl ?_
                rw [if_pos (by omega)]
                rw [if_neg (by omega)]
                rw [if_pos (by omega)]
                exact lp_Mo_goOn hM hw hf hd hfc hcd hn hg hB hcs h8 hkn h13 K (t + 1) (c * (k.2.2 + 1)) _ _ _ _ hA2 (by omega) (by omega) (by omega) (fun z hz => hK z (List.mem_cons_of_mem _ hz)) hcc (by omega)
          · refine Ev.iload_n d_Mo_goOn_84 rfl ?_
            refine Ev.iconst d_Mo_goOn_85 ?_
            refine Ev.iadd d_Mo_goOn_86 ?_
            refine Ev.goto (tgt := 91) d_Mo_goOn_87 rfl ?_
            refine Ev.istore_12 d_Mo_goOn_91 rfl ?_
            refine Ev.aload_n d_Mo_goOn_93 rfl ?_
            refine Ev.gr 14 d_Mo_goOn_94 lf_Mo_45 rfl rfl (is_57 hM) (by decide) (rf_57_14 hM) ?_
            refine Ev.iload_n d_Mo_goOn_97 rfl ?_
            refine Ev.aload_n d_Mo_goOn_98 rfl ?_
            refine Ev.gf 13 d_Mo_goOn_99 lf_Mo_167 rfl rfl (is_57 hM) (by decide) ?_
            refine Ev.imul d_Mo_goOn_102 ?_
            refine Ev.iload_n d_Mo_goOn_103 rfl ?_
            refine Ev.iadd d_Mo_goOn_104 ?_
            refine Ev.aload_n d_Mo_goOn_105 rfl ?_
            refine Ev.gr 12 d_Mo_goOn_106 lf_Mo_41 rfl rfl (is_57 hM) (by decide) (rf_57_12 hM) ?_
            refine Ev.iload d_Mo_goOn_109 rfl ?_
            refine Ev.iaload d_Mo_goOn_111 (is_68 hM) (by first | omega | (simp [mu]; done) | (simp [mu]; omega)) ?_
            refine Ev.iadd d_Mo_goOn_112 ?_
            refine Ev.iload d_Mo_goOn_113 rfl ?_
            refine Ev.imul d_Mo_goOn_115 ?_
            refine Ev.iload d_Mo_goOn_116 rfl ?_
            refine Ev.iadd d_Mo_goOn_118 ?_
            rw [r13, r68]
            refine Ev.dup2 d_Mo_goOn_119 rfl rfl ?_
            refine Ev.laload d_Mo_goOn_120 (is_69 hM) (by rcases hw with rfl | rfl <;> omega) ?_
            rw [mrow_s]
            refine Ev.lload d_Mo_goOn_121 rfl ?_
            refine Ev.ladd d_Mo_goOn_123 ?_
            refine Ev.lastore d_Mo_goOn_124 (is_69 hM) (by decide) (by rcases hw with rfl | rfl <;> omega) ?_
            try rw [mrow_mu]
            refine Ev.iload d_Mo_goOn_125 rfl ?_
            refine Ev.if_eq (tgt := 150) d_Mo_goOn_127 rfl (by first | omega | (simp [mu]; done) | (simp [mu]; omega)) (fun hb127 => ?_) (fun hb127 => ?_)
            · refine Ev.iconst d_Mo_goOn_150 ?_
              refine Ev.istore_9 d_Mo_goOn_151 rfl ?_
              refine Ev.iinc_10 d_Mo_goOn_153 rfl ?_
              refine Ev.goto (tgt := 16) d_Mo_goOn_156 rfl ?_
              rw [if_pos (by omega)]
              rw [if_pos (by omega)]
              rw [if_neg (by omega)]
              exact lp_Mo_goOn hM hw hf hd hfc hcd hn hg hB hcs h8 hkn h13 K (t + 1) (c * (k.2.2 + 1)) _ _ _ _ hA2 (by omega) (by omega) (by omega) (fun z hz => hK z (List.mem_cons_of_mem _ hz)) hcc (by omega)
            · refine Ev.iload d_Mo_goOn_130 rfl ?_
              refine Ev.if_eq (tgt := 146) d_Mo_goOn_132 rfl (by first | omega | (simp [mu]; done) | (simp [mu]; omega)) (fun hb132 => by exfalso; first | omega | simp at hb132 | contradiction) (fun hb132 => ?_)
              refine Ev.aload_n d_Mo_goOn_135 rfl ?_
              refine Ev.gr 10 d_Mo_goOn_136 lf_Mo_35 rfl rfl (is_57 hM) (by decide) (rf_57_10 hM) ?_
              refine Ev.iload d_Mo_goOn_139 rfl ?_
              refine Ev.iaload d_Mo_goOn_141 (is_66 hM) (by first | omega | (simp [mu]; done) | (simp [mu]; omega)) ?_
              rw [r66g]
              refine Ev.iload_n d_Mo_goOn_142 rfl ?_
              refine Ev.icmp_eq (tgt := 150) d_Mo_goOn_143 rfl (by first | omega | (simp [mu]; done) | (simp [mu]; omega)) (by first | omega | (simp [mu]; done) | (simp [mu]; omega)) (fun hb143 => ?_) (fun hb143 => ?_)
              · refine Ev.iconst d_Mo_goOn_150 ?_
                refine Ev.istore_9 d_Mo_goOn_151 rfl ?_
                refine Ev.iinc_10 d_Mo_goOn_153 rfl ?_
                refine Ev.goto (tgt := 16) d_Mo_goOn_156 rfl ?_
                rw [if_pos (by omega)]
                rw [if_pos (by omega)]
                rw [if_neg (by omega)]
                exact lp_Mo_goOn hM hw hf hd hfc hcd hn hg hB hcs h8 hkn h13 K (t + 1) (c * (k.2.2 + 1)) _ _ _ _ hA2 (by omega) (by omega) (by omega) (fun z hz => hK z (List.mem_cons_of_mem _ hz)) hcc (by omega)
              · refine Ev.iconst d_Mo_goOn_146 ?_
                refine Ev.goto (tgt := 151) d_Mo_goOn_147 rfl ?_
                refine Ev.istore_9 d_Mo_goOn_151 rfl ?_
                refine Ev.iinc_10 d_Mo_goOn_153 rfl ?_
                refine Ev.goto (tgt := 16) d_Mo_goOn_156 rfl ?_
                rw [if_pos (by omega)]
                rw [if_pos (by omega)]
                rw [if_pos (by omega)]
                exact lp_Mo_goOn hM hw hf hd hfc hcd hn hg hB hcs h8 hkn h13 K (t + 1) (c * (k.2.2 + 1)) _ _ _ _ hA2 (by omega) (by omega) (by omega) (fun z hz => hK z (List.mem_cons_of_mem _ hz)) hcc (by omega)
theorem c_Mo_goOn (hM : MoS σ) {f code n v d gap codes wide kn : Int} (hw : wide = 1 ∨ wide = 11) (hf : 0 ≤ f ∧ f ≤ 4) (hd : 0 ≤ d ∧ d ≤ 4) (hfc : 0 ≤ f * codes) (hcd : 0 ≤ code ∧ code ≤ 1000) (hn : 0 ≤ n ∧ n ≤ 20) (hg : -4 ≤ gap ∧ gap ≤ 4) (hB : (f * codes + code + codes) * 11 + n + 1 < 60000) (hcs : 0 < codes ∧ codes ≤ 1000) (h8 : m 57 8 = kn) (hkn : kn ≤ 10) (h13 : m 57 13 = codes) {K : KD} {A : Int → Int} (hA : KA m 0 K 1) (hl : (K.length : Int) = kn) (hK : KOK K) (hcc : cdl K 1 = codes) : Call 2 m_Mo_goOn [vr 57, vi f, vi code, vi n, vl v, vi d, vi gap, vi wide] σ (mrow m A) none σ (mrow m (goF f code n v d gap codes wide K A)) := by
  show Ev 2 m_Mo_goOn 0 [some (vr 57), some (vi f), some (vi code), some (vi n), some (vl v), none, some (vi d), some (vi gap), some (vi wide), none, none, none, none] [] σ (mrow m A) _ σ _
  unfold goF
  refine Ev.iload_n d_Mo_goOn_0 rfl ?_
  refine Ev.iload d_Mo_goOn_1 rfl ?_
  refine Ev.icmp_ge (tgt := 10) d_Mo_goOn_3 rfl (by first | omega | (simp [mu]; done) | (simp [mu]; omega)) (by first | omega | (simp [mu]; done) | (simp [mu]; omega)) (fun hb3 => ?_) (fun hb3 => ?_)
  · refine Ev.iconst d_Mo_goOn_10 ?_
    refine Ev.istore_9 d_Mo_goOn_11 rfl ?_
    refine Ev.iconst d_Mo_goOn_13 ?_
    refine Ev.istore_10 d_Mo_goOn_14 rfl ?_
    rw [if_neg (by omega)]
    exact lp_Mo_goOn hM hw hf hd hfc hcd hn hg hB hcs h8 hkn h13 K 0 1 A _ _ _ hA (by omega) (by omega) (by omega) hK hcc (by omega)
  · refine Ev.iconst d_Mo_goOn_6 ?_
    refine Ev.goto (tgt := 11) d_Mo_goOn_7 rfl ?_
    refine Ev.istore_9 d_Mo_goOn_11 rfl ?_
    refine Ev.iconst d_Mo_goOn_13 ?_
    refine Ev.istore_10 d_Mo_goOn_14 rfl ?_
    rw [if_pos (by omega)]
    exact lp_Mo_goOn hM hw hf hd hfc hcd hn hg hB hcs h8 hkn h13 K 0 1 A _ _ _ hA (by omega) (by omega) (by omega) hK hcc (by omega)
end
