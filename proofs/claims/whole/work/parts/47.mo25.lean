section
variable {σ : Sg} {m : Mm}
/-! which row it is -/
def eqK (l C : List Int) : Nat → Int → Int → Int
  | 0, _, s => s
  | q + 1, k, s => eqK l C q (k + 1) (if s = 1 ∧ cn k l = cn k C then 1 else 0)
def ixL (C : List Int) : List (List Int) → Int → Int
  | [], _ => -4
  | l :: t, n => if eqK l C 12 0 1 = 1 then n else ixL C t (n + 1)
theorem eqK_b (l C : List Int) : ∀ (q : Nat) (k s : Int), (s = 0 ∨ s = 1) → eqK l C q k s = 0 ∨ eqK l C q k s = 1
  | 0, _, _, h => h
  | q + 1, k, s, h => by
    simp only [eqK]
    exact eqK_b l C q (k + 1) _ (by split <;> simp)
theorem lpk_Mo_indexOf (hM : MoS σ) {a i : Int} {l C : List Int} (ha : Is σ a 100 12) (hi : 0 ≤ i ∧ i < 73) (hl : LT m i l) (hC : R12 a m C) (hcl : l.length ≤ 6) (hcC : C.length ≤ 12) {r : Option AV} {mF : Mm} : ∀ (q : Nat) (k s : Int), k + q = 12 → 0 ≤ k → (s = 0 ∨ s = 1) → Ev 1 m_Mo_indexOf 62 [some (vr 57), some (vr a), some (vi 0), some (vi i), some (vi (eqK l C q k s)), some (vi 12)] [] σ m r σ mF → Ev 1 m_Mo_indexOf 16 [some (vr 57), some (vr a), some (vi 0), some (vi i), some (vi s), some (vi k)] [] σ m r σ mF
  | 0, k, s, hk, h0, hs, c => by
    have e : k = 12 := by omega
    subst e
    simp only [eqK] at c
    refine Ev.iload d_Mo_indexOf_16 rfl ?_
    refine Ev.bipush d_Mo_indexOf_18 rfl ?_
    refine Ev.icmp_ge (tgt := 62) d_Mo_indexOf_20 rfl (by first | omega | (simp [mu]; done) | (simp [mu]; omega)) (by first | omega | (simp [mu]; done) | (simp [mu]; omega)) (fun hb20 => ?_) (fun hb20 => by exfalso; first | omega | simp at hb20 | contradiction)
    exact c
  | q + 1, k, s, hk, h0, hs, c => by
    have e1 := hl.2.2 k h0 (by omega)
    have e2 := hC k h0 (by omega)
    have e2' : m a (0 + k) = cn k C := by rw [Int.zero_add]; exact e2
    have b1 := cn_b k l
    have b2 := cn_b k C
    simp only [eqK] at c
    refine Ev.iload d_Mo_indexOf_16 rfl ?_
    refine Ev.bipush d_Mo_indexOf_18 rfl ?_
    refine Ev.icmp_ge (tgt := 62) d_Mo_indexOf_20 rfl (by first | omega | (simp [mu]; done) | (simp [mu]; omega)) (by first | omega | (simp [mu]; done) | (simp [mu]; omega)) (fun hb20 => by exfalso; first | omega | simp at hb20 | contradiction) (fun hb20 => ?_)
    refine Ev.iload d_Mo_indexOf_23 rfl ?_
    refine Ev.if_eq (tgt := 53) d_Mo_indexOf_25 rfl (by first | omega | (simp [mu]; done) | (simp [mu]; omega)) (fun hb25 => ?_) (fun hb25 => ?_)
    · refine Ev.iconst d_Mo_indexOf_53 ?_
      refine Ev.istore_4 d_Mo_indexOf_54 rfl ?_
      refine Ev.iinc_5 d_Mo_indexOf_56 rfl ?_
      refine Ev.goto (tgt := 16) d_Mo_indexOf_59 rfl ?_
      rw [if_neg (fun h => by omega)] at c
      exact lpk_Mo_indexOf hM ha hi hl hC hcl hcC q (k + 1) 0 (by omega) (by omega) (by omega) c
    · refine Ev.aload_n d_Mo_indexOf_28 rfl ?_
      refine Ev.gr 30 d_Mo_indexOf_29 lf_Mo_82 rfl rfl (is_57 hM) (by decide) (rf_57_30 hM) ?_
      refine Ev.bipush d_Mo_indexOf_32 rfl ?_
      refine Ev.iload_n d_Mo_indexOf_34 rfl ?_
      refine Ev.imul d_Mo_indexOf_35 ?_
      refine Ev.iload d_Mo_indexOf_36 rfl ?_
      refine Ev.iadd d_Mo_indexOf_38 ?_
      refine Ev.iaload d_Mo_indexOf_39 (is_81 hM) (by first | omega | (simp [mu]; done) | (simp [mu]; omega)) ?_
      rw [e1]
      refine Ev.aload_n d_Mo_indexOf_40 rfl ?_
      refine Ev.iload_n d_Mo_indexOf_41 rfl ?_
      refine Ev.iload d_Mo_indexOf_42 rfl ?_
      refine Ev.iadd d_Mo_indexOf_44 ?_
      refine Ev.iaload d_Mo_indexOf_45 ha (by first | omega | (simp [mu]; done) | (simp [mu]; omega)) ?_
      rw [e2']
      refine Ev.icmp_ne (tgt := 53) d_Mo_indexOf_46 rfl (by first | omega | (simp [mu]; done) | (simp [mu]; omega)) (by first | omega | (simp [mu]; done) | (simp [mu]; omega)) (fun hb46 => ?_) (fun hb46 => ?_)
      · refine Ev.iconst d_Mo_indexOf_53 ?_
        refine Ev.istore_4 d_Mo_indexOf_54 rfl ?_
        refine Ev.iinc_5 d_Mo_indexOf_56 rfl ?_
        refine Ev.goto (tgt := 16) d_Mo_indexOf_59 rfl ?_
        rw [if_neg (fun h => by omega)] at c
        exact lpk_Mo_indexOf hM ha hi hl hC hcl hcC q (k + 1) 0 (by omega) (by omega) (by omega) c
      · refine Ev.iconst d_Mo_indexOf_49 ?_
        refine Ev.goto (tgt := 54) d_Mo_indexOf_50 rfl ?_
        refine Ev.istore_4 d_Mo_indexOf_54 rfl ?_
        refine Ev.iinc_5 d_Mo_indexOf_56 rfl ?_
        refine Ev.goto (tgt := 16) d_Mo_indexOf_59 rfl ?_
        rw [if_pos ⟨by omega, by omega⟩] at c
        exact lpk_Mo_indexOf hM ha hi hl hC hcl hcC q (k + 1) 1 (by omega) (by omega) (by omega) c
theorem TL_len : TL.length = 73 := by decide +kernel
theorem TL_six : TL.all (fun l => decide (l.length ≤ 5)) = true := by decide +kernel
theorem TL_mem {i : Nat} (h : i < 73) : TL.getD i [] ∈ TL := by
  have h' : i < TL.length := by rw [TL_len]; exact h
  rw [List.getD_eq_getElem?_getD, List.getElem?_eq_getElem h']
  exact List.getElem_mem h'
theorem TL_l5 {i : Nat} (h : i < 73) : (TL.getD i []).length ≤ 5 := by
  have := List.all_eq_true.mp TL_six _ (TL_mem h)
  simpa using this
theorem TL_drop {n : Nat} {l : List Int} {t : List (List Int)} (h : TL.drop n = l :: t) : n < 73 ∧ TL.getD n [] = l ∧ TL.drop (n + 1) = t := by
  refine ⟨?_, ?_, ?_⟩
  · have := congrArg List.length h
    rw [List.length_drop, TL_len] at this
    simp only [List.length_cons] at this
    omega
  · have h1 : TL[n]? = some l := by
      have h2 : (TL.drop n)[0]? = some l := by rw [h]; rfl
      rw [List.getElem?_drop] at h2
      exact h2
    rw [List.getD_eq_getElem?_getD, h1]; rfl
  · have : (TL.drop n).drop 1 = t := by rw [h]; rfl
    rwa [List.drop_drop] at this
theorem TL_end {n : Nat} (h : TL.drop n = []) : 73 ≤ n := by
  have := congrArg List.length h
  rw [List.length_drop, TL_len] at this
  simp only [List.length_nil] at this
  omega
theorem lp_Mo_indexOf (hM : MoS σ) {a : Int} {C : List Int} (ha : Is σ a 100 12) (h27 : m 57 27 = 73) (hL : Laid m 73) (hC : R12 a m C) (hcC : C.length ≤ 12) : ∀ (t : List (List Int)) (n : Nat) (x4 x5 : Option AV), TL.drop n = t → n ≤ 73 → Ev 1 m_Mo_indexOf 2 [some (vr 57), some (vr a), some (vi 0), some (vi n), x4, x5] [] σ m (some (vi (ixL C t n))) σ m
  | [], n, x4, x5, hT, hn => by
    have hn' := TL_end hT
    simp only [ixL]
    refine Ev.iload_n d_Mo_indexOf_2 rfl ?_
    refine Ev.aload_n d_Mo_indexOf_3 rfl ?_
    refine Ev.gf 27 d_Mo_indexOf_4 lf_Mo_256 rfl rfl (is_57 hM) (by decide) ?_
    refine Ev.icmp_ge (tgt := 75) d_Mo_indexOf_7 rfl (by first | omega | (simp [mu]; done) | (simp [mu]; omega)) (by first | omega | (simp [mu]; done) | (simp [mu]; omega)) (fun hb7 => ?_) (fun hb7 => by exfalso; first | omega | simp at hb7 | contradiction)
    refine Ev.bipush d_Mo_indexOf_75 rfl ?_
    exact Ev.to (Ev.ireturn d_Mo_indexOf_77 rfl) rfl rfl
  | l :: t, n, x4, x5, hT, hn => by
    obtain ⟨h1, h2, h3⟩ := TL_drop hT
    have hl := hL n h1
    have h5 := TL_l5 h1
    rw [h2] at hl h5
    have hb := eqK_b l C 12 0 1 (Or.inr rfl)
    by_cases he : eqK l C 12 0 1 = 1
    · have ei : ixL C (l :: t) n = n := if_pos he
      rw [ei]
      refine Ev.iload_n d_Mo_indexOf_2 rfl ?_
      refine Ev.aload_n d_Mo_indexOf_3 rfl ?_
      refine Ev.gf 27 d_Mo_indexOf_4 lf_Mo_256 rfl rfl (is_57 hM) (by decide) ?_
      refine Ev.icmp_ge (tgt := 75) d_Mo_indexOf_7 rfl (by first | omega | (simp [mu]; done) | (simp [mu]; omega)) (by first | omega | (simp [mu]; done) | (simp [mu]; omega)) (fun hb7 => by exfalso; first | omega | simp at hb7 | contradiction) (fun hb7 => ?_)
      refine Ev.iconst d_Mo_indexOf_10 ?_
      refine Ev.istore_4 d_Mo_indexOf_11 rfl ?_
      refine Ev.iconst d_Mo_indexOf_13 ?_
      refine Ev.istore_5 d_Mo_indexOf_14 rfl ?_
      refine lpk_Mo_indexOf hM ha (by omega) hl hC (by omega) hcC 12 0 1 rfl (by decide) (Or.inr rfl) ?_
      rw [he]
      refine Ev.iload d_Mo_indexOf_62 rfl ?_
      refine Ev.if_eq (tgt := 69) d_Mo_indexOf_64 rfl (by first | omega | (simp [mu]; done) | (simp [mu]; omega)) (fun hb64 => by exfalso; first | omega | simp at hb64 | contradiction) (fun hb64 => ?_)
      refine Ev.iload_n d_Mo_indexOf_67 rfl ?_
      exact Ev.to (Ev.ireturn d_Mo_indexOf_68 rfl) rfl rfl
    · have ei : ixL C (l :: t) n = ixL C t ((n : Int) + 1) := if_neg he
      have he0 : eqK l C 12 0 1 = 0 := by omega
      rw [ei]
      refine Ev.iload_n d_Mo_indexOf_2 rfl ?_
      refine Ev.aload_n d_Mo_indexOf_3 rfl ?_
      refine Ev.gf 27 d_Mo_indexOf_4 lf_Mo_256 rfl rfl (is_57 hM) (by decide) ?_
      refine Ev.icmp_ge (tgt := 75) d_Mo_indexOf_7 rfl (by first | omega | (simp [mu]; done) | (simp [mu]; omega)) (by first | omega | (simp [mu]; done) | (simp [mu]; omega)) (fun hb7 => by exfalso; first | omega | simp at hb7 | contradiction) (fun hb7 => ?_)
      refine Ev.iconst d_Mo_indexOf_10 ?_
      refine Ev.istore_4 d_Mo_indexOf_11 rfl ?_
      refine Ev.iconst d_Mo_indexOf_13 ?_
      refine Ev.istore_5 d_Mo_indexOf_14 rfl ?_
      refine lpk_Mo_indexOf hM ha (by omega) hl hC (by omega) hcC 12 0 1 rfl (by decide) (Or.inr rfl) ?_
      rw [he0]
      refine Ev.iload d_Mo_indexOf_62 rfl ?_
      refine Ev.if_eq (tgt := 69) d_Mo_indexOf_64 rfl (by first | omega | (simp [mu]; done) | (simp [mu]; omega)) (fun hb64 => ?_) (fun hb64 => by exfalso; first | omega | simp at hb64 | contradiction)
      refine Ev.iinc_3 d_Mo_indexOf_69 rfl ?_
      refine Ev.goto (tgt := 2) d_Mo_indexOf_72 rfl ?_
      exact lp_Mo_indexOf hM ha h27 hL hC hcC t (n + 1) _ _ h3 (by omega)
theorem c_Mo_indexOf (hM : MoS σ) {a : Int} {C : List Int} (ha : Is σ a 100 12) (h27 : m 57 27 = 73) (hL : Laid m 73) (hC : R12 a m C) (hcC : C.length ≤ 12) : Call 1 m_Mo_indexOf [vr 57, vr a, vi 0] σ m (some (vi (ixL C TL 0))) σ m := by
  show Ev 1 m_Mo_indexOf 0 [some (vr 57), some (vr a), some (vi 0), none, none, none] [] σ m _ σ m
  refine Ev.iconst d_Mo_indexOf_0 ?_
  refine Ev.istore_3 d_Mo_indexOf_1 rfl ?_
  exact lp_Mo_indexOf hM ha h27 hL hC hcC TL 0 none none rfl (by decide)
/-! how a row goes on to one of a degree less -/
def wl : List (List Int) := [[5, 195, 2735, 17180, 49650, 63010, 27385, 0, 0, 0, 0], [4, 80, 408, 552, 0, 0, 0, 0, 0, 0, 0], [3, 21, 0, 0, 0, 0, 0, 0, 0, 0, 0], [2, 0, 0, 0, 0, 0, 0, 0, 0, 0, 0], [12, 468, 6594, 42084, 126888, 177684, 98340, 8820, 0, 0, 0], [4, 80, 424, 704, 140, 0, 0, 0, 0, 0, 0], [1, 0, 0, 0, 0, 0, 0, 0, 0, 0, 0], [8, 336, 5184, 36840, 125184, 196416, 125512, 24840, 0, 0, 0], [6, 135, 840, 1560, 588, 0, 0, 0, 0, 0, 0], [4, 36, 30, 0, 0, 0, 0, 0, 0, 0, 0], [12, 496, 7560, 53688, 187124, 316944, 239496, 62480, 6300, 0, 0], [1, 3, 0, 0, 0, 0, 0, 0, 0, 0, 0], [9, 393, 6390, 48834, 184128, 336213, 273996, 92532, 13230, 0, 0], [6, 144, 1010, 2364, 1548, 420, 0, 0, 0, 0, 0], [1, 12, 21, 15, 0, 0, 0, 0, 0, 0, 0], [8, 360, 6106, 49580, 204246, 424480, 421150, 190476, 49500, 6300, 0], [1, 27, 225, 675, 666, 378, 105, 0, 0, 0, 0], [1, 48, 882, 7915, 36975, 90027, 109781, 65949, 26136, 6930, 945], [1, 39, 547, 3436, 9930, 12602, 5477, 0, 0, 0, 0], [1, 20, 102, 138, 0, 0, 0, 0, 0, 0, 0], [1, 44, 714, 5352, 19220, 31862, 21830, 4968, 0, 0, 0], [1, 7, 0, 0, 0, 0, 0, 0, 0, 0, 0], [2, 78, 1102, 7092, 21768, 31364, 18052, 1764, 0, 0, 0], [1, 24, 162, 327, 147, 0, 0, 0, 0, 0, 0], [1, 45, 759, 6069, 24204, 47271, 41720, 15849, 2646, 0, 0], [1, 0, 0, 0, 0, 0, 0, 0, 0, 0, 0], [3, 117, 1644, 10404, 30792, 41796, 22092, 1764, 0, 0, 0], [2, 40, 212, 352, 70, 0, 0, 0, 0, 0, 0], [1, 10, 10, 0, 0, 0, 0, 0, 0, 0, 0], [4, 168, 2606, 18844, 66824, 114968, 88756, 24360, 2520, 0, 0], [1, 25, 185, 464, 336, 105, 0, 0, 0, 0, 0], [1, 46, 800, 6685, 28476, 61592, 64262, 31130, 8820, 1260, 0], [1, 39, 548, 3466, 10219, 13652, 6844, 392, 0, 0, 0], [1, 20, 104, 158, 20, 0, 0, 0, 0, 0, 0], [1, 44, 716, 5416, 19900, 34742, 26624, 7368, 560, 0, 0], [1, 0, 0, 0, 0, 0, 0, 0, 0, 0, 0], [4, 160, 2328, 15432, 48304, 68968, 38192, 4968, 0, 0, 0], [3, 63, 354, 579, 147, 0, 0, 0, 0, 0, 0], [2, 16, 10, 0, 0, 0, 0, 0, 0, 0, 0], [4, 160, 2348, 16000, 53476, 87008, 61984, 13760, 1260, 0, 0], [1, 3, 0, 0, 0, 0, 0, 0, 0, 0, 0], [6, 258, 4113, 30627, 111516, 194400, 148836, 44985, 5292, 0, 0], [4, 94, 640, 1436, 876, 210, 0, 0, 0, 0, 0], [1, 12, 21, 15, 0, 0, 0, 0, 0, 0, 0], [6, 268, 4506, 36210, 147294, 301296, 292626, 128216, 31860, 3780, 0], [1, 27, 225, 675, 666, 378, 105, 0, 0, 0, 0], [1, 48, 882, 7915, 36975, 90027, 109781, 65949, 26136, 6930, 945], [1, 40, 582, 3858, 12075, 17222, 9446, 1104, 0, 0, 0], [1, 21, 118, 192, 42, 0, 0, 0, 0, 0, 0], [1, 45, 753, 5895, 22566, 41201, 32996, 10485, 1176, 0, 0], [1, 8, 4, 0, 0, 0, 0, 0, 0, 0, 0], [2, 80, 1174, 8000, 26736, 43464, 30780, 6528, 560, 0, 0], [1, 25, 182, 428, 273, 60, 0, 0, 0, 0, 0], [1, 46, 800, 6681, 28368, 60692, 61562, 28466, 7308, 840, 0], [1, 40, 584, 3918, 12655, 19362, 12384, 2160, 140, 0, 0], [1, 2, 0, 0, 0, 0, 0, 0, 0, 0, 0], [3, 123, 1854, 12942, 43812, 70662, 49008, 11970, 1176, 0, 0], [2, 44, 276, 576, 294, 60, 0, 0, 0, 0, 0], [1, 12, 20, 12, 0, 0, 0, 0, 0, 0, 0], [4, 176, 2906, 22848, 90552, 179768, 168492, 68920, 15696, 1680, 0], [1, 27, 225, 674, 654, 357, 90, 0, 0, 0, 0], [1, 48, 882, 7915, 36974, 90000, 109556, 65274, 25470, 6552, 840], [1, 41, 618, 4312, 14557, 23232, 15580, 3408, 294, 0, 0], [1, 22, 136, 268, 116, 20, 0, 0, 0, 0, 0], [1, 46, 794, 6504, 26648, 53922, 50628, 20640, 4368, 420, 0], [1, 10, 12, 6, 0, 0, 0, 0, 0, 0, 0], [2, 84, 1318, 9828, 36960, 69716, 61228, 21672, 4368, 420, 0], [1, 27, 222, 636, 567, 270, 60, 0, 0, 0, 0], [1, 48, 882, 7911, 36864, 89046, 106406, 61260, 22626, 5376, 630], [1, 42, 656, 4828, 17671, 31802, 25864, 8168, 1428, 120, 0], [1, 24, 172, 426, 300, 120, 24, 0, 0, 0, 0], [1, 48, 876, 7728, 34980, 80870, 90932, 47880, 15792, 3360, 360], [1, 44, 732, 5866, 24055, 50202, 50092, 22080, 6300, 1200, 120]]
def wt (i n : Nat) : Int := (wl.getD i []).getD n 0
def wtI (i n : Int) : Int := wt i.toNat n.toNat
def goK (lr lq : List Int) : Nat → Int → Int → Int → Option (Int × Int)
  | 0, _, v, mm => some (v, mm)
  | q + 1, k, v, mm => if cn k lr < cn k lq ∨ cn (6 + k) lq < cn (6 + k) lr then none else goK lr lq q (k + 1) (v * (pwr k (cn (6 + k) lq - cn (6 + k) lr).toNat * chs (cn k lr) (cn k lq) * chs (cn (6 + k) lq) (cn (6 + k) lr))) (mm + (cn (6 + k) lq - cn (6 + k) lr))
def gsV (lr lq : List Int) (qi n d : Int) : Int := match goK lr lq 5 1 1 0 with
  | none => 0
  | some (v, mm) => if 0 ≤ n - (d - 1) + mm ∧ n - (d - 1) + mm ≤ 10 then v * wtI qi (n - (d - 1) + mm) else 0
theorem lp_Mo_goes (hM : MoS σ) {ri qi n d R : Int} {lr lq : List Int} (hri : 0 ≤ ri ∧ ri < 73) (hqi : 0 ≤ qi ∧ qi < 73) (hr : LT m ri lr) (hq : LT m qi lq) (hlr : lr.length ≤ 5) (hlq : lq.length ≤ 5) (hn : 0 ≤ n ∧ n ≤ 10) (hd : 1 ≤ d ∧ d ≤ 5) (hw : ∀ j : Int, 0 ≤ j → j ≤ 10 → m 82 (11 * qi + j) = wtI qi j) : ∀ (q : Nat) (k v mm : Int) (x9 x10 x11 x12 : Option AV), k + q = 6 → 1 ≤ k → 0 ≤ mm → mm ≤ 5 * (k - 1) → R = (match goK lr lq q k v mm with
  | none => 0
  | some (v, mm) => if 0 ≤ n - (d - 1) + mm ∧ n - (d - 1) + mm ≤ 10 then v * wtI qi (n - (d - 1) + mm) else 0) → Ev 2 m_Mo_goes 9 [some (vr 57), some (vi ri), some (vi qi), some (vi n), some (vi d), some (vl v), none, some (vi mm), some (vi k), x9, x10, x11, x12] [] σ m (some (vl R)) σ m
  | 0, k, v, mm, x9, x10, x11, x12, hk, h1, hm0, hm, hR => by
    have e : k = 6 := by omega
    subst e
    simp only [goK] at hR
    subst hR
    refine Ev.iload d_Mo_goes_9 rfl ?_
    refine Ev.bipush d_Mo_goes_11 rfl ?_
    refine Ev.icmp_ge (tgt := 141) d_Mo_goes_13 rfl (by first | omega | (simp [mu]; done) | (simp [mu]; omega)) (by first | omega | (simp [mu]; done) | (simp [mu]; omega)) (fun hb13 => ?_) (fun hb13 => by exfalso; first | omega | simp at hb13 | contradiction)
    refine Ev.iload_n d_Mo_goes_141 rfl ?_
    refine Ev.iload d_Mo_goes_142 rfl ?_
    refine Ev.iconst d_Mo_goes_144 ?_
    refine Ev.isub d_Mo_goes_145 ?_
    refine Ev.isub d_Mo_goes_146 ?_
    refine Ev.iload d_Mo_goes_147 rfl ?_
    refine Ev.iadd d_Mo_goes_149 ?_
    refine Ev.istore_8 d_Mo_goes_150 rfl ?_
    refine Ev.iload d_Mo_goes_152 rfl ?_
    refine Ev.i2l d_Mo_goes_154 (by first | omega | (simp [mu]; done) | (simp [mu]; omega)) ?_
    refine Ev.lconst (x := 0) d_Mo_goes_155 rfl ?_
    refine Ev.ldc2 (x := 10) d_Mo_goes_156 kl_Mo_277 ?_
    refine Ev.callS d_Mo_goes_159 mt_Mo_in lk_Mo_107 st_Mo_in rfl (Nat.le_of_ble_eq_true rfl) rfl (Nat.le_of_ble_eq_true rfl) (by decide) rfl (c_Mo_in (by omega) (by omega) (by omega)) ?_
    refine Ev.if_eq (tgt := 183) d_Mo_goes_162 rfl b01_b (fun hb162 => ?_) (fun hb162 => ?_)
    · rw [b01_eq] at hb162
      refine Ev.lconst (x := 0) d_Mo_goes_183 rfl ?_
      exact Ev.to (Ev.lreturn d_Mo_goes_184 rfl) (rl (by rw [if_neg (by omega)])) rfl
    · rw [b01_ne] at hb162
      refine Ev.lload d_Mo_goes_165 rfl ?_
      refine Ev.aload_n d_Mo_goes_167 rfl ?_
      refine Ev.gr 31 d_Mo_goes_168 lf_Mo_85 rfl rfl (is_57 hM) (by decide) (rf_57_31 hM) ?_
      refine Ev.bipush d_Mo_goes_171 rfl ?_
      refine Ev.iload_n d_Mo_goes_173 rfl ?_
      refine Ev.imul d_Mo_goes_174 ?_
      refine Ev.iload d_Mo_goes_175 rfl ?_
      refine Ev.iadd d_Mo_goes_177 ?_
      refine Ev.laload d_Mo_goes_178 (is_82 hM) (by first | omega | (simp [mu]; done) | (simp [mu]; omega)) ?_
      rw [hw _ (by omega) (by omega)]
      refine Ev.lmul d_Mo_goes_179 ?_
      refine Ev.goto (tgt := 184) d_Mo_goes_180 rfl ?_
      exact Ev.to (Ev.lreturn d_Mo_goes_184 rfl) (rl (by rw [if_pos (by omega)])) rfl
  | q + 1, k, v, mm, x9, x10, x11, x12, hk, h1, hm0, hm, hR => by
    have a1 := hr.2.2 k (by omega) (by omega)
    have a2 := hq.2.2 k (by omega) (by omega)
    have a3 := hr.2.2 (6 + k) (by omega) (by omega)
    have a4 := hq.2.2 (6 + k) (by omega) (by omega)
    rw [← Int.add_assoc] at a3 a4
    have b1 := cn_b k lr
    have b2 := cn_b k lq
    have b3 := cn_b (6 + k) lr
    have b4 := cn_b (6 + k) lq
    by_cases hc : cn k lr < cn k lq ∨ cn (6 + k) lq < cn (6 + k) lr
    · have e : goK lr lq (q + 1) k v mm = none := if_pos hc
      rw [e] at hR
      subst hR
      refine Ev.iload d_Mo_goes_9 rfl ?_
      refine Ev.bipush d_Mo_goes_11 rfl ?_
      refine Ev.icmp_ge (tgt := 141) d_Mo_goes_13 rfl (by first | omega | (simp [mu]; done) | (simp [mu]; omega)) (by first | omega | (simp [mu]; done) | (simp [mu]; omega)) (fun hb13 => by exfalso; first | omega | simp at hb13 | contradiction) (fun hb13 => ?_)
      refine Ev.aload_n d_Mo_goes_16 rfl ?_
      refine Ev.gr 30 d_Mo_goes_17 lf_Mo_82 rfl rfl (is_57 hM) (by decide) (rf_57_30 hM) ?_
      refine Ev.bipush d_Mo_goes_20 rfl ?_
      refine Ev.iload_n d_Mo_goes_22 rfl ?_
      refine Ev.imul d_Mo_goes_23 ?_
      refine Ev.iload d_Mo_goes_24 rfl ?_
      refine Ev.iadd d_Mo_goes_26 ?_
      refine Ev.iaload d_Mo_goes_27 (is_81 hM) (by first | omega | (simp [mu]; done) | (simp [mu]; omega)) ?_
      rw [a1]
      refine Ev.istore_9 d_Mo_goes_28 rfl ?_
      refine Ev.aload_n d_Mo_goes_30 rfl ?_
      refine Ev.gr 30 d_Mo_goes_31 lf_Mo_82 rfl rfl (is_57 hM) (by decide) (rf_57_30 hM) ?_
      refine Ev.bipush d_Mo_goes_34 rfl ?_
      refine Ev.iload_n d_Mo_goes_36 rfl ?_
      refine Ev.imul d_Mo_goes_37 ?_
      refine Ev.iload d_Mo_goes_38 rfl ?_
      refine Ev.iadd d_Mo_goes_40 ?_
      refine Ev.iaload d_Mo_goes_41 (is_81 hM) (by first | omega | (simp [mu]; done) | (simp [mu]; omega)) ?_
      rw [a2]
      refine Ev.istore_10 d_Mo_goes_42 rfl ?_
      refine Ev.aload_n d_Mo_goes_44 rfl ?_
      refine Ev.gr 30 d_Mo_goes_45 lf_Mo_82 rfl rfl (is_57 hM) (by decide) (rf_57_30 hM) ?_
      refine Ev.bipush d_Mo_goes_48 rfl ?_
      refine Ev.iload_n d_Mo_goes_50 rfl ?_
      refine Ev.imul d_Mo_goes_51 ?_
      refine Ev.bipush d_Mo_goes_52 rfl ?_
      refine Ev.iadd d_Mo_goes_54 ?_
      refine Ev.iload d_Mo_goes_55 rfl ?_
      refine Ev.iadd d_Mo_goes_57 ?_
      refine Ev.iaload d_Mo_goes_58 (is_81 hM) (by first | omega | (simp [mu]; done) | (simp [mu]; omega)) ?_
      rw [a3]
      refine Ev.istore_11 d_Mo_goes_59 rfl ?_
      refine Ev.aload_n d_Mo_goes_61 rfl ?_
      refine Ev.gr 30 d_Mo_goes_62 lf_Mo_82 rfl rfl (is_57 hM) (by decide) (rf_57_30 hM) ?_
      refine Ev.bipush d_Mo_goes_65 rfl ?_
      refine Ev.iload_n d_Mo_goes_67 rfl ?_
      refine Ev.imul d_Mo_goes_68 ?_
      refine Ev.bipush d_Mo_goes_69 rfl ?_
      refine Ev.iadd d_Mo_goes_71 ?_
      refine Ev.iload d_Mo_goes_72 rfl ?_
      refine Ev.iadd d_Mo_goes_74 ?_
      refine Ev.iaload d_Mo_goes_75 (is_81 hM) (by first | omega | (simp [mu]; done) | (simp [mu]; omega)) ?_
      rw [a4]
      refine Ev.istore_12 d_Mo_goes_76 rfl ?_
      refine Ev.iload d_Mo_goes_78 rfl ?_
      refine Ev.iload d_Mo_goes_80 rfl ?_
      refine Ev.icmp_gt (tgt := 92) d_Mo_goes_82 rfl (by first | omega | (simp [mu]; done) | (simp [mu]; omega)) (by first | omega | (simp [mu]; done) | (simp [mu]; omega)) (fun hb82 => ?_) (fun hb82 => ?_)
      · refine Ev.lconst (x := 0) d_Mo_goes_92 rfl ?_
        exact Ev.to (Ev.lreturn d_Mo_goes_93 rfl) rfl rfl
      · refine Ev.iload d_Mo_goes_85 rfl ?_
        refine Ev.iload d_Mo_goes_87 rfl ?_
        refine Ev.icmp_ge (tgt := 94) d_Mo_goes_89 rfl (by first | omega | (simp [mu]; done) | (simp [mu]; omega)) (by first | omega | (simp [mu]; done) | (simp [mu]; omega)) (fun hb89 => by exfalso; first | omega | simp at hb89 | contradiction) (fun hb89 => ?_)
        refine Ev.lconst (x := 0) d_Mo_goes_92 rfl ?_
        exact Ev.to (Ev.lreturn d_Mo_goes_93 rfl) rfl rfl
    · have e : goK lr lq (q + 1) k v mm = goK lr lq q (k + 1) (v * (pwr k (cn (6 + k) lq - cn (6 + k) lr).toNat * chs (cn k lr) (cn k lq) * chs (cn (6 + k) lq) (cn (6 + k) lr))) (mm + (cn (6 + k) lq - cn (6 + k) lr)) := if_neg hc
      rw [e] at hR
      refine Ev.iload d_Mo_goes_9 rfl ?_
      refine Ev.bipush d_Mo_goes_11 rfl ?_
      refine Ev.icmp_ge (tgt := 141) d_Mo_goes_13 rfl (by first | omega | (simp [mu]; done) | (simp [mu]; omega)) (by first | omega | (simp [mu]; done) | (simp [mu]; omega)) (fun hb13 => by exfalso; first | omega | simp at hb13 | contradiction) (fun hb13 => ?_)
      refine Ev.aload_n d_Mo_goes_16 rfl ?_
      refine Ev.gr 30 d_Mo_goes_17 lf_Mo_82 rfl rfl (is_57 hM) (by decide) (rf_57_30 hM) ?_
      refine Ev.bipush d_Mo_goes_20 rfl ?_
      refine Ev.iload_n d_Mo_goes_22 rfl ?_
      refine Ev.imul d_Mo_goes_23 ?_
      refine Ev.iload d_Mo_goes_24 rfl ?_
      refine Ev.iadd d_Mo_goes_26 ?_
      refine Ev.iaload d_Mo_goes_27 (is_81 hM) (by first | omega | (simp [mu]; done) | (simp [mu]; omega)) ?_
      rw [a1]
      refine Ev.istore_9 d_Mo_goes_28 rfl ?_
      refine Ev.aload_n d_Mo_goes_30 rfl ?_
      refine Ev.gr 30 d_Mo_goes_31 lf_Mo_82 rfl rfl (is_57 hM) (by decide) (rf_57_30 hM) ?_
      refine Ev.bipush d_Mo_goes_34 rfl ?_
      refine Ev.iload_n d_Mo_goes_36 rfl ?_
      refine Ev.imul d_Mo_goes_37 ?_
      refine Ev.iload d_Mo_goes_38 rfl ?_
      refine Ev.iadd d_Mo_goes_40 ?_
      refine Ev.iaload d_Mo_goes_41 (is_81 hM) (by first | omega | (simp [mu]; done) | (simp [mu]; omega)) ?_
      rw [a2]
      refine Ev.istore_10 d_Mo_goes_42 rfl ?_
      refine Ev.aload_n d_Mo_goes_44 rfl ?_
      refine Ev.gr 30 d_Mo_goes_45 lf_Mo_82 rfl rfl (is_57 hM) (by decide) (rf_57_30 hM) ?_
      refine Ev.bipush d_Mo_goes_48 rfl ?_
      refine Ev.iload_n d_Mo_goes_50 rfl ?_
      refine Ev.imul d_Mo_goes_51 ?_
      refine Ev.bipush d_Mo_goes_52 rfl ?_
      refine Ev.iadd d_Mo_goes_54 ?_
      refine Ev.iload d_Mo_goes_55 rfl ?_
      refine Ev.iadd d_Mo_goes_57 ?_
      refine Ev.iaload d_Mo_goes_58 (is_81 hM) (by first | omega | (simp [mu]; done) | (simp [mu]; omega)) ?_
      rw [a3]
      refine Ev.istore_11 d_Mo_goes_59 rfl ?_
      refine Ev.aload_n d_Mo_goes_61 rfl ?_
      refine Ev.gr 30 d_Mo_goes_62 lf_Mo_82 rfl rfl (is_57 hM) (by decide) (rf_57_30 hM) ?_
      refine Ev.bipush d_Mo_goes_65 rfl ?_
      refine Ev.iload_n d_Mo_goes_67 rfl ?_
      refine Ev.imul d_Mo_goes_68 ?_
      refine Ev.bipush d_Mo_goes_69 rfl ?_
      refine Ev.iadd d_Mo_goes_71 ?_
      refine Ev.iload d_Mo_goes_72 rfl ?_
      refine Ev.iadd d_Mo_goes_74 ?_
      refine Ev.iaload d_Mo_goes_75 (is_81 hM) (by first | omega | (simp [mu]; done) | (simp [mu]; omega)) ?_
      rw [a4]
      refine Ev.istore_12 d_Mo_goes_76 rfl ?_
      refine Ev.iload d_Mo_goes_78 rfl ?_
      refine Ev.iload d_Mo_goes_80 rfl ?_
      refine Ev.icmp_gt (tgt := 92) d_Mo_goes_82 rfl (by first | omega | (simp [mu]; done) | (simp [mu]; omega)) (by first | omega | (simp [mu]; done) | (simp [mu]; omega)) (fun hb82 => by exfalso; first | omega | simp at hb82 | contradiction) (fun hb82 => ?_)
      refine Ev.iload d_Mo_goes_85 rfl ?_
      refine Ev.iload d_Mo_goes_87 rfl ?_
      refine Ev.icmp_ge (tgt := 94) d_Mo_goes_89 rfl (by first | omega | (simp [mu]; done) | (simp [mu]; omega)) (by first | omega | (simp [mu]; done) | (simp [mu]; omega)) (fun hb89 => ?_) (fun hb89 => by exfalso; first | omega | simp at hb89 | contradiction)
      refine Ev.iload d_Mo_goes_94 rfl ?_
      refine Ev.iload d_Mo_goes_96 rfl ?_
      refine Ev.iload d_Mo_goes_98 rfl ?_
      refine Ev.isub d_Mo_goes_100 ?_
      refine Ev.iadd d_Mo_goes_101 ?_
      refine Ev.istore_7 d_Mo_goes_102 rfl ?_
      refine Ev.lload d_Mo_goes_104 rfl ?_
      refine Ev.iload d_Mo_goes_106 rfl ?_
      refine Ev.iload d_Mo_goes_108 rfl ?_
      refine Ev.iload d_Mo_goes_110 rfl ?_
      refine Ev.isub d_Mo_goes_112 ?_
      refine Ev.callS d_Mo_goes_113 mt_Mo_power lk_Mo_270 st_Mo_power rfl (Nat.le_of_ble_eq_true rfl) rfl (Nat.le_of_ble_eq_true rfl) (by decide) rfl (c_Mo_power (by omega) (by omega)) ?_
      refine Ev.iload d_Mo_goes_116 rfl ?_
      refine Ev.iload d_Mo_goes_118 rfl ?_
      refine Ev.callS d_Mo_goes_120 mt_Mo_choose lk_Mo_274 st_Mo_choose rfl (Nat.le_of_ble_eq_true rfl) rfl (Nat.le_of_ble_eq_true rfl) (by decide) rfl (c_Mo_choose (by omega) (by omega)) ?_
      refine Ev.lmul d_Mo_goes_123 ?_
      refine Ev.iload d_Mo_goes_124 rfl ?_
      refine Ev.iload d_Mo_goes_126 rfl ?_
      refine Ev.callS d_Mo_goes_128 mt_Mo_choose lk_Mo_274 st_Mo_choose rfl (Nat.le_of_ble_eq_true rfl) rfl (Nat.le_of_ble_eq_true rfl) (by decide) rfl (c_Mo_choose (by omega) (by omega)) ?_
      refine Ev.lmul d_Mo_goes_131 ?_
      refine Ev.lmul d_Mo_goes_132 ?_
      refine Ev.lstore_5 d_Mo_goes_133 rfl ?_
      refine Ev.iinc_8 d_Mo_goes_135 rfl ?_
      refine Ev.goto (tgt := 9) d_Mo_goes_138 rfl ?_
      exact lp_Mo_goes hM hri hqi hr hq hlr hlq hn hd hw q (k + 1) _ _ _ _ _ _ (by omega) (by omega) (by omega) (by omega) hR
theorem c_Mo_goes (hM : MoS σ) {ri qi n d : Int} {lr lq : List Int} (hri : 0 ≤ ri ∧ ri < 73) (hqi : 0 ≤ qi ∧ qi < 73) (hr : LT m ri lr) (hq : LT m qi lq) (hlr : lr.length ≤ 5) (hlq : lq.length ≤ 5) (hn : 0 ≤ n ∧ n ≤ 10) (hd : 1 ≤ d ∧ d ≤ 5) (hw : ∀ j : Int, 0 ≤ j → j ≤ 10 → m 82 (11 * qi + j) = wtI qi j) : Call 2 m_Mo_goes [vr 57, vi ri, vi qi, vi n, vi d] σ m (some (vl (gsV lr lq qi n d))) σ m := by
  show Ev 2 m_Mo_goes 0 [some (vr 57), some (vi ri), some (vi qi), some (vi n), some (vi d), none, none, none, none, none, none, none, none] [] σ m _ σ m
  refine Ev.lconst (x := 1) d_Mo_goes_0 rfl ?_
  refine Ev.lstore_5 d_Mo_goes_1 rfl ?_
  refine Ev.iconst d_Mo_goes_3 ?_
  refine Ev.istore_7 d_Mo_goes_4 rfl ?_
  refine Ev.iconst d_Mo_goes_6 ?_
  refine Ev.istore_8 d_Mo_goes_7 rfl ?_
  exact lp_Mo_goes hM hri hqi hr hq hlr hlq hn hd hw 5 1 1 0 _ _ _ _ rfl (by decide) (by decide) (by decide) rfl
end
