section
/-! the table of ways in one number, field by field: for closed runs -/
def gtT (T i : Nat) : Nat := T >>> (8 * i) % 256
theorem gtTd (T i : Nat) : gtT T i = T / 256 ^ i % 256 := by
  unfold gtT
  rw [Nat.shiftRight_eq_div_pow, Nat.pow_mul]
def tA (size T i v : Nat) : Option Nat := if i < size ∧ gtT T i + v < 256 then some (T + v <<< (8 * i)) else none
theorem tAd (size T i v : Nat) : tA size T i v = if i < size ∧ gtT T i + v < 256 then some (T + v * 256 ^ i) else none := by
  unfold tA
  rw [Nat.shiftLeft_eq, Nat.pow_mul]
def Rep (A : Int → Int) (T size : Nat) : Prop := ∀ j : Nat, j < size → A (j : Int) = (gtT T j : Int)
theorem gtT_same {T i v : Nat} (h : gtT T i + v < 256) : gtT (T + v * 256 ^ i) i = gtT T i + v := by
  simp only [gtTd] at *
  rw [Nat.add_mul_div_right _ _ (Nat.pow_pos (by decide))]
  omega
theorem gtT_lo {T i j v : Nat} (h : j < i) : gtT (T + v * 256 ^ i) j = gtT T j := by
  obtain ⟨k, rfl⟩ : ∃ k, i = j + 1 + k := ⟨i - j - 1, by omega⟩
  simp only [gtTd]
  have e : v * 256 ^ (j + 1 + k) = (v * 256 ^ k * 256) * 256 ^ j := by
    rw [Nat.pow_add, Nat.pow_add, Nat.pow_one]
    simp only [Nat.mul_comm, Nat.mul_left_comm, Nat.mul_assoc]
  rw [e, Nat.add_mul_div_right _ _ (Nat.pow_pos (by decide)), Nat.add_mul_mod_self_right]
theorem gtT_hi {T i j v : Nat} (h : i < j) (hv : gtT T i + v < 256) : gtT (T + v * 256 ^ i) j = gtT T j := by
  obtain ⟨k, rfl⟩ : ∃ k, j = i + 1 + k := ⟨j - i - 1, by omega⟩
  simp only [gtTd] at *
  rw [Nat.pow_add, Nat.pow_add, Nat.pow_one, ← Nat.div_div_eq_div_mul, ← Nat.div_div_eq_div_mul, ← Nat.div_div_eq_div_mul, ← Nat.div_div_eq_div_mul, Nat.add_mul_div_right _ _ (Nat.pow_pos (by decide))]
  rw [show (T / 256 ^ i + v) / 256 = T / 256 ^ i / 256 by omega]
theorem Rep_add {A : Int → Int} {T size i v T' : Nat} (h : Rep A T size) (e : tA size T i v = some T') : Rep (adA A i v) T' size := by
  rw [tAd] at e
  split at e
  · next hc =>
    cases e
    intro j hj
    simp only [adA, up]
    by_cases e : j = i
    · subst e
      rw [if_pos rfl, gtT_same hc.2, h j hj]; omega
    · rw [if_neg (by omega), h j hj]
      rcases Nat.lt_or_gt_of_ne e with h1 | h1
      · rw [gtT_lo h1]
      · rw [gtT_hi h1 hc.2]
  · cases e
abbrev KN : Type := List (Nat × Nat × Nat)
def kz (K : KN) : KD := K.map (fun k => ((k.1 : Int), (k.2.1 : Int), (k.2.2 : Int)))
def tk (f code n v gp codes wide size : Nat) : KN → Nat → Nat → Bool → Option (Nat × Bool)
  | [], _, T, fl => some (T, fl)
  | k :: t, c, T, fl =>
    (if code / c % (k.2.2 + 1) < k.2.2 ∧ k.1 < f ∧ f ≤ k.2.1 then tA size T ((f * codes + code + c) * wide + (if gp + 1 = f then n + 1 else n)) v else some T).bind (fun T' => tk f code n v gp codes wide size t (c * (k.2.2 + 1)) T' (fl && !(decide (code / c % (k.2.2 + 1) < k.2.2 ∧ k.2.1 = f))))
def GR (gap : Int) (gp : Nat) : Prop := (gap = -4 ∧ gp = 100) ∨ (gap = gp ∧ gp ≤ 3)
theorem tk_ok {f code n v gp codes wide size : Nat} {gap : Int} (hf : f ≤ 4) (hg : GR gap gp) : ∀ (K : KN) (c T : Nat) (fl : Bool) (A : Int → Int) (T' : Nat) (fl' : Bool), Rep A T size → tk f code n v gp codes wide size K c T fl = some (T', fl') → Rep (gok f code n v gap codes wide (kz K) c A (if fl = true then 1 else 0)).1 T' size ∧ (gok f code n v gap codes wide (kz K) c A (if fl = true then 1 else 0)).2 = (if fl' = true then 1 else 0)
  | [], c, T, fl, A, T', fl', hR, e => by
    simp only [tk, Option.some.injEq, Prod.mk.injEq] at e
    obtain ⟨rfl, rfl⟩ := e
    exact ⟨hR, rfl⟩
  | k :: t, c, T, fl, A, T', fl', hR, e => by
    simp only [tk, Option.bind_eq_some_iff] at e
    obtain ⟨T1, e1, e2⟩ := e
    have ed : (code : Int) / (c : Int) % ((k.2.2 : Int) + 1) = ((code / c % (k.2.2 + 1) : Nat) : Int) := by push_cast; rfl
    have eg : (if gap = (f : Int) - 1 then (n : Int) + 1 else (n : Int)) = ((if gp + 1 = f then n + 1 else n : Nat) : Int) := by
      unfold GR at hg
      by_cases h : gp + 1 = f
      · rw [if_pos h, if_pos (by omega)]; omega
      · rw [if_neg h, if_neg (by omega)]
    have ei : ((f : Int) * codes + code + c) * wide + ((if gp + 1 = f then n + 1 else n : Nat) : Int) = (((f * codes + code + c) * wide + (if gp + 1 = f then n + 1 else n) : Nat) : Int) := by push_cast; rfl
    have ec : (c : Int) * ((k.2.2 : Int) + 1) = ((c * (k.2.2 + 1) : Nat) : Int) := by push_cast; rfl
    have eA : Rep (if (code : Int) / c % ((k.2.2 : Int) + 1) < k.2.2 ∧ (k.1 : Int) < f ∧ (f : Int) ≤ k.2.1 then adA A (((f : Int) * codes + code + c) * wide + (if gap = (f : Int) - 1 then (n : Int) + 1 else n)) v else A) T1 size := by
      rw [ed, eg, ei]
      by_cases h : code / c % (k.2.2 + 1) < k.2.2 ∧ k.1 < f ∧ f ≤ k.2.1
      · rw [if_pos h] at e1
        rw [if_pos (by omega)]
        exact Rep_add hR e1
      · rw [if_neg h] at e1
        rw [if_neg (by omega)]
        cases e1
        exact hR
    have ef : (if (if fl = true then (1 : Int) else 0) = 1 ∧ ¬ ((code : Int) / c % ((k.2.2 : Int) + 1) < k.2.2 ∧ (k.2.1 : Int) = f) then (1 : Int) else 0) = if (fl && !(decide (code / c % (k.2.2 + 1) < k.2.2 ∧ k.2.1 = f))) = true then 1 else 0 := by
      rw [ed]
      cases fl
      · rw [if_neg (by simp), if_neg (by simp)]
      · by_cases h : code / c % (k.2.2 + 1) < k.2.2 ∧ k.2.1 = f
        · rw [if_neg (fun z => z.2 (by omega)), if_neg (by simp only [decide_eq_true h]; decide)]
        · rw [if_pos ⟨rfl, by omega⟩, if_pos (by simp only [decide_eq_false h]; decide)]
    have key := tk_ok hf hg t (c * (k.2.2 + 1)) T1 _ _ T' fl' eA e2
    rw [← ef] at key
    rw [show kz (k :: t) = ((k.1 : Int), (k.2.1 : Int), (k.2.2 : Int)) :: kz t from rfl, gok_cons]
    simp only []
    rw [ec]
    exact key
def tf (f code n v d gp codes wide size : Nat) (K : KN) (T : Nat) : Option Nat :=
  (tk f code n v gp codes wide size K 1 T (decide (f < d))).bind (fun p => if p.2 = true then tA size p.1 (((f + 1) * codes + code) * wide + n) v else some p.1)
theorem tf_ok {f code n v d gp codes wide size : Nat} {gap : Int} {K : KN} {T T' : Nat} {A : Int → Int} (hf : f ≤ 4) (hg : GR gap gp) (hR : Rep A T size) (e : tf f code n v d gp codes wide size K T = some T') : Rep (goF f code n v d gap codes wide (kz K) A) T' size := by
  simp only [tf, Option.bind_eq_some_iff] at e
  obtain ⟨⟨T1, b⟩, e1, e2⟩ := e
  have key := tk_ok hf hg K 1 T _ A T1 b hR e1
  have ef : (if decide (f < d) = true then (1 : Int) else 0) = if (f : Int) < d then 1 else 0 := by
    by_cases h : f < d
    · rw [if_pos (by simpa using h), if_pos (by omega)]
    · rw [if_neg (by simpa using h), if_neg (by omega)]
  rw [ef] at key
  unfold goF gfin
  obtain ⟨k1, k2⟩ := key
  have k1' : Rep (gok (f : Int) code n v gap codes wide (kz K) 1 A (if (f : Int) < d then 1 else 0)).1 T1 size := k1
  have k2' : (gok (f : Int) code n v gap codes wide (kz K) 1 A (if (f : Int) < d then 1 else 0)).2 = if b = true then 1 else 0 := k2
  rw [k2']
  cases b
  · simp only [Bool.false_eq_true, if_false, Option.some.injEq] at e2
    rw [if_neg (by simp), ← e2]
    exact k1'
  · simp only [if_true] at e2
    rw [if_pos (by simp)]
    have ei : (((f : Int) + 1) * codes + code) * wide + n = ((((f + 1) * codes + code) * wide + n : Nat) : Int) := by push_cast; rfl
    rw [ei]
    exact Rep_add k1' e2
theorem bm0 {v : Nat} (h : v < 256) : ((v : Int).bmod 18446744073709551616 = 0) ↔ v = 0 := by
  rw [Int.bmod_eq_of_le (by omega) (by omega)]; omega
theorem gtT_lt {T i : Nat} : gtT T i < 256 := Nat.mod_lt _ (by decide)
def tn (d gp codes wide size f code : Nat) (K : KN) : Nat → Nat → Nat → Option Nat
  | 0, _, T => some T
  | q + 1, n, T => (if (f * codes + code) * wide + n < size then (if gtT T ((f * codes + code) * wide + n) = 0 then some T else tf f code n (gtT T ((f * codes + code) * wide + n)) d gp codes wide size K T) else none).bind (fun T' => tn d gp codes wide size f code K q (n + 1) T')
theorem tn_ok {d gp codes wide size f code : Nat} {gap : Int} {K : KN} (hf : f ≤ 4) (hg : GR gap gp) : ∀ (q n T : Nat) (A : Int → Int) (T' : Nat), Rep A T size → tn d gp codes wide size f code K q n T = some T' → Rep (dpN d gap codes wide f code (kz K) q n A) T' size
  | 0, n, T, A, T', hR, e => by
    simp only [tn, Option.some.injEq] at e
    rw [← e]; exact hR
  | q + 1, n, T, A, T', hR, e => by
    simp only [tn, Option.bind_eq_some_iff] at e
    obtain ⟨T1, e1, e2⟩ := e
    by_cases hi : (f * codes + code) * wide + n < size
    · rw [if_pos hi] at e1
      have ei : ((f : Int) * codes + code) * wide + n = (((f * codes + code) * wide + n : Nat) : Int) := by push_cast; rfl
      simp only [dpN]
      rw [ei, hR _ hi]
      have en : (n : Int) + 1 = ((n + 1 : Nat) : Int) := by omega
      rw [en]
      refine tn_ok hf hg q (n + 1) T1 _ T' ?_ e2
      by_cases hz : gtT T ((f * codes + code) * wide + n) = 0
      · rw [if_pos hz] at e1
        rw [if_pos ((bm0 gtT_lt).mpr hz)]
        cases e1; exact hR
      · rw [if_neg hz] at e1
        rw [if_neg (fun h => hz ((bm0 gtT_lt).mp h))]
        exact tf_ok hf hg hR e1
    · rw [if_neg hi] at e1; cases e1
theorem dpN_zero {d gap codes wide f code : Int} {K : KD} {A : Int → Int} : ∀ (q : Nat) (n : Int), (∀ i : Nat, i < q → A ((f * codes + code) * wide + (n + i)) = 0) → dpN d gap codes wide f code K q n A = A
  | 0, n, _ => rfl
  | q + 1, n, h => by
    simp only [dpN]
    have h0 := h 0 (by omega)
    rw [show n + ((0 : Nat) : Int) = n by omega] at h0
    rw [h0, if_pos (by decide)]
    exact dpN_zero q (n + 1) (fun i hi => by have := h (i + 1) (by omega); rw [← this]; congr 1; omega)
theorem fld0 {X w n : Nat} (h : X % 256 ^ w = 0) (hn : n < w) : X / 256 ^ n % 256 = 0 := by
  obtain ⟨k, rfl⟩ : ∃ k, w = n + 1 + k := ⟨w - n - 1, by omega⟩
  obtain ⟨y, rfl⟩ := Nat.dvd_of_mod_eq_zero h
  have e : 256 ^ (n + 1 + k) * y = 256 ^ n * (256 * (256 ^ k * y)) := by
    rw [Nat.pow_add, Nat.pow_add, Nat.pow_one]
    simp only [Nat.mul_assoc]
  rw [e, Nat.mul_div_cancel_left _ (Nat.pow_pos (by decide)), Nat.mul_mod_right]
def tc (d gp codes wide size f : Nat) (K : KN) : Nat → Nat → Nat → Option Nat
  | 0, _, T => some T
  | q + 1, code, T => (if (f * codes + code) * wide + wide ≤ size ∧ T >>> (8 * ((f * codes + code) * wide)) % 256 ^ wide = 0 then some T else tn d gp codes wide size f code K wide 0 T).bind (fun T' => tc d gp codes wide size f K q (code + 1) T')
theorem tc_ok {d gp codes wide size f : Nat} {gap : Int} {K : KN} (hf : f ≤ 4) (hg : GR gap gp) : ∀ (q code T : Nat) (A : Int → Int) (T' : Nat), Rep A T size → tc d gp codes wide size f K q code T = some T' → Rep (dpC d gap codes wide f (kz K) q code A) T' size
  | 0, code, T, A, T', hR, e => by
    simp only [tc, Option.some.injEq] at e
    rw [← e]; exact hR
  | q + 1, code, T, A, T', hR, e => by
    simp only [tc, Option.bind_eq_some_iff] at e
    obtain ⟨T1, e1, e2⟩ := e
    simp only [dpC]
    rw [show (code : Int) + 1 = ((code + 1 : Nat) : Int) by omega, Int.toNat_natCast]
    refine tc_ok hf hg q (code + 1) T1 _ T' ?_ e2
    by_cases hz : (f * codes + code) * wide + wide ≤ size ∧ T >>> (8 * ((f * codes + code) * wide)) % 256 ^ wide = 0
    · rw [if_pos hz] at e1
      cases e1
      rw [dpN_zero]
      · exact hR
      · intro i hi
        have ei : ((f : Int) * codes + code) * wide + (0 + (i : Int)) = (((f * codes + code) * wide + i : Nat) : Int) := by push_cast; omega
        rw [ei, hR _ (by omega)]
        have hz2 := hz.2
        rw [Nat.shiftRight_eq_div_pow, Nat.pow_mul] at hz2
        have := fld0 (w := wide) hz2 hi
        rw [gtTd, Nat.pow_add, ← Nat.div_div_eq_div_mul, this]; rfl
    · rw [if_neg hz] at e1
      exact tn_ok hf hg wide 0 T A T1 hR e1
def tff (d gp codes wide size : Nat) (K : KN) : Nat → Nat → Nat → Option Nat
  | 0, _, T => some T
  | q + 1, f, T => (tc d gp codes wide size f K codes 0 T).bind (fun T' => tff d gp codes wide size K q (f + 1) T')
theorem tff_ok {d gp codes wide size : Nat} {gap : Int} {K : KN} (hg : GR gap gp) : ∀ (q f T : Nat) (A : Int → Int) (T' : Nat), f + q ≤ 5 → Rep A T size → tff d gp codes wide size K q f T = some T' → Rep (dpF d gap codes wide (kz K) q f A) T' size
  | 0, f, T, A, T', hq, hR, e => by
    simp only [tff, Option.some.injEq] at e
    rw [← e]; exact hR
  | q + 1, f, T, A, T', hq, hR, e => by
    simp only [tff, Option.bind_eq_some_iff] at e
    obtain ⟨T1, e1, e2⟩ := e
    simp only [dpF]
    rw [show (f : Int) + 1 = ((f + 1 : Nat) : Int) by omega, Int.toNat_natCast]
    exact tff_ok hg q (f + 1) T1 _ T' (by omega) (tc_ok (by omega) hg codes 0 T A T1 hR e1) e2
def kN (K : KD) : KN := K.map (fun k => (k.1.toNat, k.2.1.toNat, k.2.2.toNat))
theorem kz_kN : ∀ K : KD, KOK K → kz (kN K) = K
  | [], _ => rfl
  | k :: t, h => by
    obtain ⟨h1, h2, h3⟩ := h k List.mem_cons_self
    have ih := kz_kN t (fun z hz => h z (List.mem_cons_of_mem _ hz))
    simp only [kz, kN, List.map_cons] at *
    rw [ih, Int.toNat_of_nonneg h1.1, Int.toNat_of_nonneg h2.1, Int.toNat_of_nonneg (by omega)]
def wdN (gp : Nat) : Nat := if gp = 100 then 1 else 11
def tmk (d gp : Nat) (l : List Int) : Option Nat := tff d gp (cdl (kdS d l) 1).toNat (wdN gp) ((d + 1) * (cdl (kdS d l) 1).toNat * wdN gp) (kN (kdS d l)) (d + 1) 0 1
def ixT (d gp : Nat) (l : List Int) (w : Nat) : Nat := (d * (cdl (kdS d l) 1).toNat + (cdl (kdS d l) 1).toNat - 1) * wdN gp + w
theorem gt1 (j : Nat) : gtT 1 j = if j = 0 then 1 else 0 := by
  rw [gtTd]
  cases j with
  | zero => rfl
  | succ j =>
    have : 1 < 256 ^ (j + 1) := by
      rw [show (256 : Nat) = 2 ^ 8 from rfl, ← Nat.pow_mul]
      exact Nat.one_lt_two_pow (by omega)
    rw [Nat.div_eq_of_lt this]; rfl
theorem mkd_T {J : Int → Int} {d gp : Nat} {gap w : Int} {l : List Int} {T : Nat} (hd : d ≤ 4) (hg : GR gap gp) (hI : KIN d l) (e : tmk d gp l = some T) (hw : 0 ≤ w ∧ w < wdN gp) : mkd J d gap w l = (gtT T (ixT d gp l w.toNat) : Int) := by
  obtain ⟨hKO, h0, h9⟩ := hI
  have ew : wdt gap = (wdN gp : Int) := by
    unfold GR at hg
    unfold wdt wdN
    rcases hg with ⟨h1, h2⟩ | ⟨h1, h2⟩
    · rw [if_pos h1, if_pos h2]; rfl
    · rw [if_neg (by omega), if_neg (by omega)]; rfl
  obtain ⟨w, rfl⟩ := Int.eq_ofNat_of_zero_le hw.1
  have hc : cdl (kdS (d : Int) l) 1 = (((cdl (kdS (d : Int) l) 1).toNat : Nat) : Int) := (Int.toNat_of_nonneg (by omega)).symm
  have hw1 : 0 < wdN gp := by unfold wdN; split <;> decide
  unfold mkd
  rw [if_pos (by rw [ew]; omega)]
  unfold dpA
  unfold tmk at e
  unfold ixT
  rw [ew]
  have hcp : 0 < (cdl (kdS (d : Int) l) 1).toNat := by omega
  generalize (cdl (kdS (d : Int) l) 1).toNat = codes at *
  rw [hc]
  have hsz : 0 < (d + 1) * codes * wdN gp := Nat.mul_pos (Nat.mul_pos (by omega) hcp) hw1
  have hR0 : Rep (up (fun j => if 0 ≤ j ∧ j < ((d : Int) + 1) * codes * wdN gp then 0 else J j) 0 1) 1 ((d + 1) * codes * wdN gp) := by
    intro j hj
    simp only [up]
    rw [gt1]
    have es : ((d : Int) + 1) * codes * wdN gp = (((d + 1) * codes * wdN gp : Nat) : Int) := by push_cast; rfl
    rw [es]
    by_cases h : j = 0
    · rw [if_pos (by omega), if_pos h]; rfl
    · rw [if_neg (by omega), if_neg h, if_pos (by omega)]; rfl
  have key := tff_ok hg (d + 1) 0 1 _ T (by omega) hR0 e
  rw [kz_kN _ hKO] at key
  have ei : ((d : Int) * codes + codes - 1) * wdN gp + (w : Int) = (((d * codes + codes - 1) * wdN gp + w : Nat) : Int) := by
    have : ((d * codes + codes - 1 : Nat) : Int) = (d : Int) * codes + codes - 1 := by
      have h1 : 1 ≤ d * codes + codes := by omega
      rw [Int.natCast_sub h1]; push_cast; rfl
    rw [← this]; push_cast; rfl
  rw [show ((d : Int) + 1).toNat = d + 1 by omega, ei, Int.toNat_natCast]
  refine key _ ?_
  have hs2 : (d * codes + codes - 1) * wdN gp + wdN gp = (d + 1) * codes * wdN gp := by
    have e1 : (d + 1) * codes = d * codes + codes := Nat.succ_mul d codes
    rw [e1, show (d * codes + codes - 1) * wdN gp + wdN gp = (d * codes + codes - 1 + 1) * wdN gp from (Nat.succ_mul _ _).symm, Nat.sub_add_cancel (by omega)]
  omega
end
