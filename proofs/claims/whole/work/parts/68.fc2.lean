/-! the class's own methods: spread, markings, between, unlike -/
theorem fS_mono0 : ∀ x : Nat, x < 24 → ∀ y : Nat, y < 24 → x ≤ y → fS x ≤ fS y := by decide +kernel
theorem fS_mono {x y : Int} (hx : 0 ≤ x ∧ x < 24) (hy : 0 ≤ y ∧ y < 24) (h : x ≤ y) : fS x ≤ fS y := by
  have := fS_mono0 x.toNat (by omega) y.toNat (by omega) (by omega)
  rwa [Int.toNat_of_nonneg hx.1, Int.toNat_of_nonneg hy.1] at this
/-- two sorted lists differ at a floor -/
theorem un_iff {f : Int} : ∀ (A B : List Int), A.Pairwise (· ≤ ·) → B.Pairwise (· ≤ ·) → (∀ y ∈ A, f ≤ fS y) → (∀ y ∈ B, f ≤ fS y) → (∀ y ∈ A, 0 ≤ y ∧ y < 24) → (∀ y ∈ B, 0 ≤ y ∧ y < 24) → (un f A B = true ↔ ∃ s, fS s = f ∧ cn s A ≠ cn s B)
  | [], [], _, _, _, _, _, _ => by
    simp [un]
  | a :: A, [], hA, _, fA, _, rA, _ => by
    simp only [un, decide_eq_true_eq]
    constructor
    · intro h
      refine ⟨a, h, ?_⟩
      have := cn_b a A
      simp only [cn, if_true]; omega
    · rintro ⟨s, hs, hn⟩
      have hm : s ∈ a :: A := cn_mem.mpr (by
        have := cn_b s (a :: A)
        have e : cn s ([] : List Int) = 0 := rfl
        omega)
      have h1 := fA a List.mem_cons_self
      have h2 : fS a ≤ fS s := fS_mono (rA a List.mem_cons_self) (rA s hm) (by
        rcases List.mem_cons.mp hm with h | h
        · omega
        · exact (List.pairwise_cons.mp hA).1 s h)
      omega
  | [], b :: B, _, hB, _, fB, _, rB => by
    simp only [un, decide_eq_true_eq]
    constructor
    · intro h
      refine ⟨b, h, ?_⟩
      have := cn_b b B
      simp only [cn, if_true]; omega
    · rintro ⟨s, hs, hn⟩
      have hm : s ∈ b :: B := cn_mem.mpr (by
        have := cn_b s (b :: B)
        have e : cn s ([] : List Int) = 0 := rfl
        omega)
      have h1 := fB b List.mem_cons_self
      have h2 : fS b ≤ fS s := fS_mono (rB b List.mem_cons_self) (rB s hm) (by
        rcases List.mem_cons.mp hm with h | h
        · omega
        · exact (List.pairwise_cons.mp hB).1 s h)
      omega
  | a :: A, b :: B, hA, hB, fA, fB, rA, rB => by
    have a1 := fA a List.mem_cons_self
    have b1 := fB b List.mem_cons_self
    have ra := rA a List.mem_cons_self
    have rb := rB b List.mem_cons_self
    simp only [un]
    by_cases hc : fS a = f ∧ fS b = f ∧ a = b
    · rw [if_pos hc, un_iff A B (List.pairwise_cons.mp hA).2 (List.pairwise_cons.mp hB).2 (fun y hy => fA y (List.mem_cons_of_mem _ hy)) (fun y hy => fB y (List.mem_cons_of_mem _ hy)) (fun y hy => rA y (List.mem_cons_of_mem _ hy)) (fun y hy => rB y (List.mem_cons_of_mem _ hy))]
      have e := hc.2.2
      subst e
      constructor
      · rintro ⟨s, h1, h2⟩
        exact ⟨s, h1, by simp only [cn]; omega⟩
      · rintro ⟨s, h1, h2⟩
        exact ⟨s, h1, by simp only [cn] at h2; omega⟩
    · rw [if_neg hc]
      simp only [decide_eq_true_eq]
      have low : ∀ (x : Int) (L : List Int), L.Pairwise (· ≤ ·) → (∀ y ∈ L, 0 ≤ y ∧ y < 24) → ∀ y t, L = y :: t → x < y → cn x L = 0 := fun x L hL _ y t e hxy => by
        subst e
        exact cn_zero x _ (fun z hz => by
          rcases List.mem_cons.mp hz with h | h
          · omega
          · have := (List.pairwise_cons.mp hL).1 z h; omega)
      have hia : ∀ x t, 0 < cn x (x :: t) := fun x t => by have := cn_b x t; simp only [cn, if_true]; omega
      constructor
      · rintro (h | h)
        · by_cases h2 : fS b = f
          · have hne : a ≠ b := fun e => hc ⟨h, h2, e⟩
            rcases Int.lt_or_gt_of_ne hne with hl | hl
            · refine ⟨a, h, ?_⟩
              have z := low a (b :: B) hB rB b B rfl hl
              have := hia a A
              omega
            · refine ⟨b, h2, ?_⟩
              have z := low b (a :: A) hA rA a A rfl hl
              have := hia b B
              omega
          · refine ⟨a, h, ?_⟩
            have hab : a < b := by
              by_cases hle : b ≤ a
              · have := fS_mono rb ra hle; omega
              · omega
            have z := low a (b :: B) hB rB b B rfl hab
            have := hia a A
            omega
        · by_cases h2 : fS a = f
          · have hne : a ≠ b := fun e => hc ⟨h2, h, e⟩
            rcases Int.lt_or_gt_of_ne hne with hl | hl
            · refine ⟨a, h2, ?_⟩
              have z := low a (b :: B) hB rB b B rfl hl
              have := hia a A
              omega
            · refine ⟨b, h, ?_⟩
              have z := low b (a :: A) hA rA a A rfl hl
              have := hia b B
              omega
          · refine ⟨b, h, ?_⟩
            have hab : b < a := by
              by_cases hle : a ≤ b
              · have := fS_mono ra rb hle; omega
              · omega
            have z := low b (a :: A) hA rA a A rfl hab
            have := hia b B
            omega
      · rintro ⟨s, hs, hn⟩
        by_cases hm : s ∈ a :: A
        · left
          have h2 : fS a ≤ fS s := fS_mono ra (rA s hm) (by
            rcases List.mem_cons.mp hm with h | h
            · omega
            · exact (List.pairwise_cons.mp hA).1 s h)
          omega
        · right
          have hm2 : s ∈ b :: B := cn_mem.mpr (by
            have x1 := cn_b s (b :: B)
            have x2 : ¬ 0 < cn s (a :: A) := fun h => hm (cn_mem.mpr h)
            have x3 := cn_b s (a :: A)
            omega)
          have h2 : fS b ≤ fS s := fS_mono rb (rB s hm2) (by
            rcases List.mem_cons.mp hm2 with h | h
            · omega
            · exact (List.pairwise_cons.mp hB).1 s h)
          omega
theorem dw_props {f : Int} : ∀ l : List Int, l.Pairwise (· ≤ ·) → (∀ y ∈ l, 0 ≤ y ∧ y < 24) → (dw f l).Pairwise (· ≤ ·) ∧ (∀ y ∈ dw f l, f ≤ fS y) ∧ ∀ s, fS s = f → cn s (dw f l) = cn s l
  | [], _, _ => ⟨List.Pairwise.nil, fun y h => (by cases h), fun _ _ => rfl⟩
  | a :: t, hs, hr => by
    by_cases h : fS a < f
    · have e : dw f (a :: t) = dw f t := if_pos h
      obtain ⟨h1, h2, h3⟩ := dw_props (f := f) t (List.pairwise_cons.mp hs).2 (fun y hy => hr y (List.mem_cons_of_mem _ hy))
      rw [e]
      refine ⟨h1, h2, fun s hf => ?_⟩
      rw [h3 s hf]
      simp only [cn]
      rw [if_neg (fun z => by rw [z] at h; omega)]; omega
    · have e : dw f (a :: t) = a :: t := if_neg h
      rw [e]
      refine ⟨hs, fun y hy => ?_, fun _ _ => rfl⟩
      have : fS a ≤ fS y := fS_mono (hr a List.mem_cons_self) (hr y hy) (by
        rcases List.mem_cons.mp hy with h | h
        · omega
        · exact (List.pairwise_cons.mp hs).1 y h)
      omega
theorem un_dw {d d2 f : Int} {l l2 : List Int} (hK : PK d l) (hK2 : PK d2 l2) : un f (dw f l) (dw f l2) = true ↔ ∃ s, fS s = f ∧ cn s l ≠ cn s l2 := by
  have r1 : ∀ y ∈ l, 0 ≤ y ∧ y < 24 := fun y hy => by have := hK.2.2.2 y hy; omega
  have r2 : ∀ y ∈ l2, 0 ≤ y ∧ y < 24 := fun y hy => by have := hK2.2.2.2 y hy; omega
  obtain ⟨a1, a2, a3⟩ := dw_props (f := f) l hK.2.2.1 r1
  obtain ⟨b1, b2, b3⟩ := dw_props (f := f) l2 hK2.2.2.1 r2
  rw [un_iff _ _ a1 b1 a2 b2 (fun y hy => r1 y (dw_mem hy)) (fun y hy => r2 y (dw_mem hy))]
  constructor
  · rintro ⟨s, h1, h2⟩; exact ⟨s, h1, by rw [← a3 s h1, ← b3 s h1]; exact h2⟩
  · rintro ⟨s, h1, h2⟩; exact ⟨s, h1, by rw [a3 s h1, b3 s h1]; exact h2⟩
def unS (l l2 : List Int) : Nat → Int → Int
  | 0, _ => -4
  | q + 1, x => if cn x l = cn x l2 then unS l l2 q (x + 1) else fS x
theorem unS_or {l l2 : List Int} : ∀ (q : Nat) (x : Int), (unS l l2 q x = -4 ∧ ∀ s, x ≤ s → s < x + q → cn s l = cn s l2) ∨ ∃ s0, x ≤ s0 ∧ s0 < x + q ∧ unS l l2 q x = fS s0 ∧ cn s0 l ≠ cn s0 l2 ∧ ∀ s, x ≤ s → s < s0 → cn s l = cn s l2
  | 0, x => Or.inl ⟨rfl, fun s a b => by omega⟩
  | q + 1, x => by
    by_cases h : cn x l = cn x l2
    · have e : unS l l2 (q + 1) x = unS l l2 q (x + 1) := if_pos h
      rw [e]
      rcases unS_or q (x + 1) with ⟨h1, h2⟩ | ⟨s0, a, b, c, d, g⟩
      · refine Or.inl ⟨h1, fun s a b => ?_⟩
        by_cases es : s = x
        · rw [es]; exact h
        · exact h2 s (by omega) (by omega)
      · refine Or.inr ⟨s0, by omega, by omega, c, d, fun s a b => ?_⟩
        by_cases es : s = x
        · rw [es]; exact h
        · exact g s (by omega) b
    · have e : unS l l2 (q + 1) x = fS x := if_neg h
      exact Or.inr ⟨x, by omega, by omega, e, h, fun s a b => by omega⟩
theorem unf_none {d d2 : Int} {l l2 : List Int} (hK : PK d l) (hK2 : PK d2 l2) (h : ∀ s, cn s l = cn s l2) : ∀ (n : Nat) (f : Int), unf l l2 n f = -4
  | 0, _ => rfl
  | n + 1, f => by
    simp only [unf]
    rw [if_neg (fun hu => by
      obtain ⟨s, _, h2⟩ := (un_dw hK hK2).mp hu
      exact h2 (h s))]
    exact unf_none hK hK2 h n (f + 1)
theorem unf_at {d d2 : Int} {l l2 : List Int} (hK : PK d l) (hK2 : PK d2 l2) {g : Int} (hg : ∃ s, fS s = g ∧ cn s l ≠ cn s l2) (hlo : ∀ f, f < g → ¬ ∃ s, fS s = f ∧ cn s l ≠ cn s l2) : ∀ (n : Nat) (f : Int), f ≤ g → g < f + n → unf l l2 n f = g
  | 0, f, h1, h2 => by omega
  | n + 1, f, h1, h2 => by
    simp only [unf]
    by_cases e : f = g
    · rw [if_pos ((un_dw hK hK2).mpr (by rw [e]; exact hg))]; exact e
    · rw [if_neg (fun hu => hlo f (by omega) ((un_dw hK hK2).mp hu))]
      exact unf_at hK hK2 hg hlo n (f + 1) (by omega) (by omega)
theorem unS_unf {d : Int} {l l2 : List Int} (hK : PK d l) (hK2 : PK d l2) : unS l l2 24 0 = unf l l2 d.toNat 0 := by
  have hd := hK.1
  have out : ∀ s, ¬ (0 ≤ s ∧ s < 24) → cn s l = cn s l2 := fun s hs => by
    rw [cn_zero s l (fun y hy => by have := hK.2.2.2 y hy; omega), cn_zero s l2 (fun y hy => by have := hK2.2.2.2 y hy; omega)]
  rcases unS_or (l := l) (l2 := l2) 24 0 with ⟨h1, h2⟩ | ⟨s0, a, b, c, e, g⟩
  · rw [h1, unf_none hK hK2 (fun s => by
      by_cases hs : 0 ≤ s ∧ s < 24
      · exact h2 s hs.1 (by omega)
      · exact out s hs)]
  · rw [c]
    have hlt : fS s0 < d := by
      have hft := ft_lt (x := s0) (by omega)
      by_cases hm : s0 ∈ l
      · have := hK.2.2.2 s0 hm; omega
      · have hm2 : s0 ∈ l2 := cn_mem.mpr (by
          have x1 := cn_b s0 l2
          have x2 : ¬ 0 < cn s0 l := fun h => hm (cn_mem.mpr h)
          have x3 := cn_b s0 l
          omega)
        have := hK2.2.2.2 s0 hm2; omega
    have hfb := fS_b s0
    exact (unf_at hK hK2 ⟨s0, rfl, e⟩ (fun f hf => by
      rintro ⟨s, h1, h2⟩
      by_cases hs : 0 ≤ s ∧ s < 24
      · have : s < s0 := by
          by_cases hle : s0 ≤ s
          · have := fS_mono (x := s0) (y := s) (by omega) hs hle; omega
          · omega
        exact h2 (g s hs.1 this)
      · exact h2 (out s hs)) d.toNat 0 (by omega) (by omega)).symm
section
variable {σ : Sg} {m : Mm}
theorem c_FC_spread (hF : FcS σ) {S : PS} (hS : CS m S) {p k : Int} (h1 : -2147483648 ≤ p ∧ p ≤ 2147483647) (h2 : -2147483648 ≤ k ∧ k ≤ 2147483647) : ∃ m', Call 5 m_FC_spread [vr 3, vi p, vi k] σ m (some (vl (sp_spread S p k))) σ m' ∧ FrA 13 m m' := by
  have hS2 := hS.2.1
  unfold sp_spread
  by_cases hp : 0 ≤ p ∧ p < S.1
  · rw [if_pos hp]
    obtain ⟨hPM, hK⟩ := hS.2.2 p hp.1 hp.2
    have hpa := (pic_at hF (p := p) (by omega)).1
    have hd := hK.1
    have h6 := hK.2.1
    obtain ⟨m1, q1, ⟨r, q2⟩, q3⟩ := c_Pow_expand (pow_13 hF) hpa (by omega) hPM hK
    have ca := c_Pow_at (pow_13 hF) q2 h2
    refine ⟨m1, ?_, q3⟩
    show Ev 5 m_FC_spread 0 [some (vr 3), some (vi p), some (vi k), none] [] σ m _ σ m1
    refine Ev.aload_n d_FC_spread_0 rfl ?_
    refine Ev.iload_n d_FC_spread_1 rfl ?_
    refine Ev.callV d_FC_spread_2 mt_FC_pictureAt lk_FC_77 in_FC_pictureAt se_FC_pictureAt rfl (Nat.le_of_ble_eq_true rfl) rfl (Nat.le_of_ble_eq_true rfl) (by decide) (fi_3 hF) (by decide) rfl rfl (c_pAt hF hS hp) ?_
    refine Ev.astore_3 d_FC_spread_5 rfl ?_
    refine Ev.aload_n d_FC_spread_6 rfl ?_
    refine Ev.ifnonnull (tgt := 14) d_FC_spread_7 rfl (fun hb7 => ?_) (fun hb7 => by exfalso; first | omega | simp at hb7 | contradiction)
    refine Ev.aload_n d_FC_spread_14 rfl ?_
    refine Ev.gr 3 d_FC_spread_15 lf_FC_30 rfl rfl (fi_3 hF) (by decide) (fr_3_3 hF) ?_
    refine Ev.aload_n d_FC_spread_18 rfl ?_
    refine Ev.callVv d_FC_spread_19 mt_Pow_expand lk_FC_141 in_Pow_expand se_Pow_expand rfl (Nat.le_of_ble_eq_true rfl) rfl (Nat.le_of_ble_eq_true rfl) (by decide) (fi_13 hF) (by decide) rfl rfl q1 ?_
    refine Ev.aload_n d_FC_spread_22 rfl ?_
    refine Ev.gr 3 d_FC_spread_23 lf_FC_30 rfl rfl (fi_3 hF) (by decide) (fr_3_3 hF) ?_
    refine Ev.iload_n d_FC_spread_26 rfl ?_
    refine Ev.callV d_FC_spread_27 mt_Pow_at lk_FC_145 in_Pow_at se_Pow_at rfl (Nat.le_of_ble_eq_true rfl) rfl (Nat.le_of_ble_eq_true rfl) (by decide) (fi_13 hF) (by decide) rfl rfl ca ?_
    exact Ev.to (Ev.lreturn d_FC_spread_30 rfl) rfl rfl
  · rw [if_neg hp]
    refine ⟨m, ?_, FrA.rf⟩
    show Ev 5 m_FC_spread 0 [some (vr 3), some (vi p), some (vi k), none] [] σ m _ σ m
    refine Ev.aload_n d_FC_spread_0 rfl ?_
    refine Ev.iload_n d_FC_spread_1 rfl ?_
    refine Ev.callV d_FC_spread_2 mt_FC_pictureAt lk_FC_77 in_FC_pictureAt se_FC_pictureAt rfl (Nat.le_of_ble_eq_true rfl) rfl (Nat.le_of_ble_eq_true rfl) (by decide) (fi_3 hF) (by decide) rfl rfl (c_pNo hF hS h1 hp) ?_
    refine Ev.astore_3 d_FC_spread_5 rfl ?_
    refine Ev.aload_n d_FC_spread_6 rfl ?_
    refine Ev.ifnonnull (tgt := 14) d_FC_spread_7 rfl (fun hb7 => by exfalso; first | omega | simp at hb7 | contradiction) (fun hb7 => ?_)
    refine Ev.ldc2 (x := (-1)) d_FC_spread_10 kl_FC_139 ?_
    exact Ev.to (Ev.lreturn d_FC_spread_13 rfl) rfl rfl
theorem c_FC_markings (hF : FcS σ) {S : PS} (hS : CS m S) (hR : SR σ m) {J : Int → Int} {p : Int} (h1 : -2147483648 ≤ p ∧ p ≤ 2147483647) : ∃ m', Call 63 m_FC_markings [vr 3, vi p] σ m (some (vl (sp_markings J S p))) σ m' ∧ FrK5 8 m m' := by
  have hS2 := hS.2.1
  unfold sp_markings
  by_cases hp : 0 ≤ p ∧ p < S.1
  · rw [if_pos hp]
    obtain ⟨hPM, hK⟩ := hS.2.2 p hp.1 hp.2
    have hpa := (pic_at hF (p := p) (by omega)).1
    have hd := hK.1
    have h6 := hK.2.1
    have ci := c_Pic_isRight hpa hPM hK
    by_cases hr : right (S.2.1 p) (S.2.2 p) = true
    · rw [if_pos hr]
      have hr' : rgt (S.2.2 p) (S.2.1 p).toNat 0 = true := hr
      have hl := RL_all hK hr
      have hw := RL_ways hd hl
      obtain ⟨m1, q1, q2⟩ := c_Mk_ways hR (mk_8 hF) hpa (by omega) hK hPM (w := -1) (wn := 0) (by decide) (by decide) hw.1 hw.2.1 hw.2.2
      rw [ways_any (J := J) hd hl] at q1
      refine ⟨m1, ?_, q2⟩
      show Ev 63 m_FC_markings 0 [some (vr 3), some (vi p), none] [] σ m _ σ m1
      refine Ev.aload_n d_FC_markings_0 rfl ?_
      refine Ev.iload_n d_FC_markings_1 rfl ?_
      refine Ev.callV d_FC_markings_2 mt_FC_pictureAt lk_FC_77 in_FC_pictureAt se_FC_pictureAt rfl (Nat.le_of_ble_eq_true rfl) rfl (Nat.le_of_ble_eq_true rfl) (by decide) (fi_3 hF) (by decide) rfl rfl (c_pAt hF hS hp) ?_
      refine Ev.astore_2 d_FC_markings_5 rfl ?_
      refine Ev.aload_n d_FC_markings_6 rfl ?_
      refine Ev.ifnonnull (tgt := 14) d_FC_markings_7 rfl (fun hb7 => ?_) (fun hb7 => by exfalso; first | omega | simp at hb7 | contradiction)
      refine Ev.aload_n d_FC_markings_14 rfl ?_
      refine Ev.callV d_FC_markings_15 mt_Pic_isRight lk_FC_105 in_Pic_isRight se_Pic_isRight rfl (Nat.le_of_ble_eq_true rfl) rfl (Nat.le_of_ble_eq_true rfl) (by decide) hpa.2.1 (by decide) rfl rfl ci ?_
      refine Ev.if_ne (tgt := 25) d_FC_markings_18 rfl b01_b (fun hb18 => ?_) (fun hb18 => by exfalso; (first | rw [b01_ne] at hb18 | rw [b01_eq] at hb18); exact absurd hr' hb18)
      rw [b01_ne] at hb18
      refine Ev.aload_n d_FC_markings_25 rfl ?_
      refine Ev.gr 2 d_FC_markings_26 lf_FC_23 rfl rfl (fi_3 hF) (by decide) (fr_3_2 hF) ?_
      refine Ev.aload_n d_FC_markings_29 rfl ?_
      refine Ev.iconst d_FC_markings_30 ?_
      refine Ev.iconst d_FC_markings_31 ?_
      refine Ev.callV d_FC_markings_32 mt_Mk_ways lk_FC_151 in_Mk_ways se_Mk_ways rfl (Nat.le_of_ble_eq_true rfl) rfl (Nat.le_of_ble_eq_true rfl) (by decide) (fi_8 hF) (by decide) rfl rfl q1 ?_
      exact Ev.to (Ev.lreturn d_FC_markings_35 rfl) rfl rfl
    · rw [if_neg hr]
      have hr' : ¬ rgt (S.2.2 p) (S.2.1 p).toNat 0 = true := hr
      refine ⟨m, ?_, fun _ _ _ => rfl⟩
      show Ev 63 m_FC_markings 0 [some (vr 3), some (vi p), none] [] σ m _ σ m
      refine Ev.aload_n d_FC_markings_0 rfl ?_
      refine Ev.iload_n d_FC_markings_1 rfl ?_
      refine Ev.callV d_FC_markings_2 mt_FC_pictureAt lk_FC_77 in_FC_pictureAt se_FC_pictureAt rfl (Nat.le_of_ble_eq_true rfl) rfl (Nat.le_of_ble_eq_true rfl) (by decide) (fi_3 hF) (by decide) rfl rfl (c_pAt hF hS hp) ?_
      refine Ev.astore_2 d_FC_markings_5 rfl ?_
      refine Ev.aload_n d_FC_markings_6 rfl ?_
      refine Ev.ifnonnull (tgt := 14) d_FC_markings_7 rfl (fun hb7 => ?_) (fun hb7 => by exfalso; first | omega | simp at hb7 | contradiction)
      refine Ev.aload_n d_FC_markings_14 rfl ?_
      refine Ev.callV d_FC_markings_15 mt_Pic_isRight lk_FC_105 in_Pic_isRight se_Pic_isRight rfl (Nat.le_of_ble_eq_true rfl) rfl (Nat.le_of_ble_eq_true rfl) (by decide) hpa.2.1 (by decide) rfl rfl ci ?_
      refine Ev.if_ne (tgt := 25) d_FC_markings_18 rfl b01_b (fun hb18 => by exfalso; (first | rw [b01_ne] at hb18 | rw [b01_eq] at hb18); exact absurd hb18 hr') (fun hb18 => ?_)
      rw [b01_eq] at hb18
      refine Ev.ldc2 (x := (-2)) d_FC_markings_21 kl_FC_149 ?_
      exact Ev.to (Ev.lreturn d_FC_markings_24 rfl) rfl rfl
  · rw [if_neg hp]
    refine ⟨m, ?_, fun _ _ _ => rfl⟩
    show Ev 63 m_FC_markings 0 [some (vr 3), some (vi p), none] [] σ m _ σ m
    refine Ev.aload_n d_FC_markings_0 rfl ?_
    refine Ev.iload_n d_FC_markings_1 rfl ?_
    refine Ev.callV d_FC_markings_2 mt_FC_pictureAt lk_FC_77 in_FC_pictureAt se_FC_pictureAt rfl (Nat.le_of_ble_eq_true rfl) rfl (Nat.le_of_ble_eq_true rfl) (by decide) (fi_3 hF) (by decide) rfl rfl (c_pNo hF hS h1 hp) ?_
    refine Ev.astore_2 d_FC_markings_5 rfl ?_
    refine Ev.aload_n d_FC_markings_6 rfl ?_
    refine Ev.ifnonnull (tgt := 14) d_FC_markings_7 rfl (fun hb7 => by exfalso; first | omega | simp at hb7 | contradiction) (fun hb7 => ?_)
    refine Ev.ldc2 (x := (-1)) d_FC_markings_10 kl_FC_139 ?_
    exact Ev.to (Ev.lreturn d_FC_markings_13 rfl) rfl rfl
theorem c_FC_between (hF : FcS σ) {S : PS} (hS : CS m S) (hR : SR σ m) {J : Int → Int} {p f n : Int} (h1 : -2147483648 ≤ p ∧ p ≤ 2147483647) (h2 : -2147483648 ≤ f ∧ f ≤ 2147483647) (h3 : -2147483648 ≤ n ∧ n ≤ 2147483647) : ∃ m', Call 63 m_FC_between [vr 3, vi p, vi f, vi n] σ m (some (vl (sp_between J S p f n))) σ m' ∧ FrK5 8 m m' := by
  have hS2 := hS.2.1
  unfold sp_between
  by_cases hp : 0 ≤ p ∧ p < S.1
  · skip
    obtain ⟨hPM, hK⟩ := hS.2.2 p hp.1 hp.2
    have hpa := (pic_at hF (p := p) (by omega)).1
    have hd := hK.1
    have h6 := hK.2.1
    have ci := c_Pic_isRight hpa hPM hK
    by_cases hf : (0 ≤ f ∧ f < S.2.1 p) ∧ 0 ≤ n
    · rw [if_pos ⟨hp, hf⟩]
      by_cases hr : right (S.2.1 p) (S.2.2 p) = true
      · rw [if_pos hr]
        have hr' : rgt (S.2.2 p) (S.2.1 p).toNat 0 = true := hr
        have hl := RL_all hK hr
        have hw := RL_ways hd hl
        obtain ⟨m1, q1, q2⟩ := c_Mk_ways hR (mk_8 hF) hpa (by omega) hK hPM (w := f) (wn := n) h2 h3 hw.1 hw.2.1 hw.2.2
        rw [ways_gap (J := J) hd hf.1 hf.2 hl] at q1
        refine ⟨m1, ?_, q2⟩
        show Ev 63 m_FC_between 0 [some (vr 3), some (vi p), some (vi f), some (vi n), none] [] σ m _ σ m1
        refine Ev.aload_n d_FC_between_0 rfl ?_
        refine Ev.iload_n d_FC_between_1 rfl ?_
        refine Ev.callV d_FC_between_2 mt_FC_pictureAt lk_FC_77 in_FC_pictureAt se_FC_pictureAt rfl (Nat.le_of_ble_eq_true rfl) rfl (Nat.le_of_ble_eq_true rfl) (by decide) (fi_3 hF) (by decide) rfl rfl (c_pAt hF hS hp) ?_
        refine Ev.astore_4 d_FC_between_5 rfl ?_
        refine Ev.aload d_FC_between_7 rfl ?_
        refine Ev.ifnull (tgt := 25) d_FC_between_9 rfl (fun hb9 => by exfalso; first | omega | simp at hb9 | contradiction) (fun hb9 => ?_)
        refine Ev.aload d_FC_between_12 rfl ?_
        refine Ev.iload_n d_FC_between_14 rfl ?_
        refine Ev.callV d_FC_between_15 mt_Pic_hasFloor lk_FC_133 in_Pic_hasFloor se_Pic_hasFloor rfl (Nat.le_of_ble_eq_true rfl) rfl (Nat.le_of_ble_eq_true rfl) (by decide) hpa.2.1 (by decide) rfl rfl (c_Pic_hasFloor hpa hPM hd h2) ?_
        refine Ev.if_eq (tgt := 25) d_FC_between_18 rfl b01_b (fun hb18 => by exfalso; (first | rw [b01_ne] at hb18 | rw [b01_eq] at hb18); omega) (fun hb18 => ?_)
        rw [b01_ne] at hb18
        refine Ev.iload_n d_FC_between_21 rfl ?_
        refine Ev.if_ge (tgt := 29) d_FC_between_22 rfl (by first | omega | (simp [mu]; done) | (simp [mu]; omega)) (fun hb22 => ?_) (fun hb22 => by exfalso; first | omega | simp at hb22 | contradiction)
        refine Ev.aload d_FC_between_29 rfl ?_
        refine Ev.callV d_FC_between_31 mt_Pic_isRight lk_FC_105 in_Pic_isRight se_Pic_isRight rfl (Nat.le_of_ble_eq_true rfl) rfl (Nat.le_of_ble_eq_true rfl) (by decide) hpa.2.1 (by decide) rfl rfl ci ?_
        refine Ev.if_ne (tgt := 41) d_FC_between_34 rfl b01_b (fun hb34 => ?_) (fun hb34 => by exfalso; (first | rw [b01_ne] at hb34 | rw [b01_eq] at hb34); exact absurd hr' hb34)
        rw [b01_ne] at hb34
        refine Ev.aload_n d_FC_between_41 rfl ?_
        refine Ev.gr 2 d_FC_between_42 lf_FC_23 rfl rfl (fi_3 hF) (by decide) (fr_3_2 hF) ?_
        refine Ev.aload d_FC_between_45 rfl ?_
        refine Ev.iload_n d_FC_between_47 rfl ?_
        refine Ev.iload_n d_FC_between_48 rfl ?_
        refine Ev.callV d_FC_between_49 mt_Mk_ways lk_FC_151 in_Mk_ways se_Mk_ways rfl (Nat.le_of_ble_eq_true rfl) rfl (Nat.le_of_ble_eq_true rfl) (by decide) (fi_8 hF) (by decide) rfl rfl q1 ?_
        exact Ev.to (Ev.lreturn d_FC_between_52 rfl) rfl rfl
      · rw [if_neg hr]
        have hr' : ¬ rgt (S.2.2 p) (S.2.1 p).toNat 0 = true := hr
        refine ⟨m, ?_, fun _ _ _ => rfl⟩
        show Ev 63 m_FC_between 0 [some (vr 3), some (vi p), some (vi f), some (vi n), none] [] σ m _ σ m
        refine Ev.aload_n d_FC_between_0 rfl ?_
        refine Ev.iload_n d_FC_between_1 rfl ?_
        refine Ev.callV d_FC_between_2 mt_FC_pictureAt lk_FC_77 in_FC_pictureAt se_FC_pictureAt rfl (Nat.le_of_ble_eq_true rfl) rfl (Nat.le_of_ble_eq_true rfl) (by decide) (fi_3 hF) (by decide) rfl rfl (c_pAt hF hS hp) ?_
        refine Ev.astore_4 d_FC_between_5 rfl ?_
        refine Ev.aload d_FC_between_7 rfl ?_
        refine Ev.ifnull (tgt := 25) d_FC_between_9 rfl (fun hb9 => by exfalso; first | omega | simp at hb9 | contradiction) (fun hb9 => ?_)
        refine Ev.aload d_FC_between_12 rfl ?_
        refine Ev.iload_n d_FC_between_14 rfl ?_
        refine Ev.callV d_FC_between_15 mt_Pic_hasFloor lk_FC_133 in_Pic_hasFloor se_Pic_hasFloor rfl (Nat.le_of_ble_eq_true rfl) rfl (Nat.le_of_ble_eq_true rfl) (by decide) hpa.2.1 (by decide) rfl rfl (c_Pic_hasFloor hpa hPM hd h2) ?_
        refine Ev.if_eq (tgt := 25) d_FC_between_18 rfl b01_b (fun hb18 => by exfalso; (first | rw [b01_ne] at hb18 | rw [b01_eq] at hb18); omega) (fun hb18 => ?_)
        rw [b01_ne] at hb18
        refine Ev.iload_n d_FC_between_21 rfl ?_
        refine Ev.if_ge (tgt := 29) d_FC_between_22 rfl (by first | omega | (simp [mu]; done) | (simp [mu]; omega)) (fun hb22 => ?_) (fun hb22 => by exfalso; first | omega | simp at hb22 | contradiction)
        refine Ev.aload d_FC_between_29 rfl ?_
        refine Ev.callV d_FC_between_31 mt_Pic_isRight lk_FC_105 in_Pic_isRight se_Pic_isRight rfl (Nat.le_of_ble_eq_true rfl) rfl (Nat.le_of_ble_eq_true rfl) (by decide) hpa.2.1 (by decide) rfl rfl ci ?_
        refine Ev.if_ne (tgt := 41) d_FC_between_34 rfl b01_b (fun hb34 => by exfalso; (first | rw [b01_ne] at hb34 | rw [b01_eq] at hb34); exact absurd hb34 hr') (fun hb34 => ?_)
        rw [b01_eq] at hb34
        refine Ev.ldc2 (x := (-2)) d_FC_between_37 kl_FC_149 ?_
        exact Ev.to (Ev.lreturn d_FC_between_40 rfl) rfl rfl
    · rw [if_neg (fun h => hf h.2)]
      refine ⟨m, ?_, fun _ _ _ => rfl⟩
      show Ev 63 m_FC_between 0 [some (vr 3), some (vi p), some (vi f), some (vi n), none] [] σ m _ σ m
      refine Ev.aload_n d_FC_between_0 rfl ?_
      refine Ev.iload_n d_FC_between_1 rfl ?_
      refine Ev.callV d_FC_between_2 mt_FC_pictureAt lk_FC_77 in_FC_pictureAt se_FC_pictureAt rfl (Nat.le_of_ble_eq_true rfl) rfl (Nat.le_of_ble_eq_true rfl) (by decide) (fi_3 hF) (by decide) rfl rfl (c_pAt hF hS hp) ?_
      refine Ev.astore_4 d_FC_between_5 rfl ?_
      refine Ev.aload d_FC_between_7 rfl ?_
      refine Ev.ifnull (tgt := 25) d_FC_between_9 rfl (fun hb9 => by exfalso; first | omega | simp at hb9 | contradiction) (fun hb9 => ?_)
      refine Ev.aload d_FC_between_12 rfl ?_
      refine Ev.iload_n d_FC_between_14 rfl ?_
      refine Ev.callV d_FC_between_15 mt_Pic_hasFloor lk_FC_133 in_Pic_hasFloor se_Pic_hasFloor rfl (Nat.le_of_ble_eq_true rfl) rfl (Nat.le_of_ble_eq_true rfl) (by decide) hpa.2.1 (by decide) rfl rfl (c_Pic_hasFloor hpa hPM hd h2) ?_
      refine Ev.if_eq (tgt := 25) d_FC_between_18 rfl b01_b (fun hb18 => ?_) (fun hb18 => ?_)
      · rw [b01_eq] at hb18
        refine Ev.ldc2 (x := (-1)) d_FC_between_25 kl_FC_139 ?_
        exact Ev.to (Ev.lreturn d_FC_between_28 rfl) rfl rfl
      · rw [b01_ne] at hb18
        refine Ev.iload_n d_FC_between_21 rfl ?_
        refine Ev.if_ge (tgt := 29) d_FC_between_22 rfl (by first | omega | (simp [mu]; done) | (simp [mu]; omega)) (fun hb22 => by exfalso; first | omega | simp at hb22 | contradiction) (fun hb22 => ?_)
        refine Ev.ldc2 (x := (-1)) d_FC_between_25 kl_FC_139 ?_
        exact Ev.to (Ev.lreturn d_FC_between_28 rfl) rfl rfl
  · rw [if_neg (fun h => hp h.1)]
    refine ⟨m, ?_, fun _ _ _ => rfl⟩
    show Ev 63 m_FC_between 0 [some (vr 3), some (vi p), some (vi f), some (vi n), none] [] σ m _ σ m
    refine Ev.aload_n d_FC_between_0 rfl ?_
    refine Ev.iload_n d_FC_between_1 rfl ?_
    refine Ev.callV d_FC_between_2 mt_FC_pictureAt lk_FC_77 in_FC_pictureAt se_FC_pictureAt rfl (Nat.le_of_ble_eq_true rfl) rfl (Nat.le_of_ble_eq_true rfl) (by decide) (fi_3 hF) (by decide) rfl rfl (c_pNo hF hS h1 hp) ?_
    refine Ev.astore_4 d_FC_between_5 rfl ?_
    refine Ev.aload d_FC_between_7 rfl ?_
    refine Ev.ifnull (tgt := 25) d_FC_between_9 rfl (fun hb9 => ?_) (fun hb9 => by exfalso; first | omega | simp at hb9 | contradiction)
    refine Ev.ldc2 (x := (-1)) d_FC_between_25 kl_FC_139 ?_
    exact Ev.to (Ev.lreturn d_FC_between_28 rfl) rfl rfl
theorem lp_FC_unlike (hF : FcS σ) (hR : SR σ m) {p q d d2 : Int} {l l2 : List Int} (hpa : PicS σ (25 + 3 * p)) (hqa : PicS σ (25 + 3 * q)) (hP : PicM m (25 + 3 * p) d l) (hQ : PicM m (25 + 3 * q) d2 l2) (h6 : l.length ≤ 6) (h62 : l2.length ≤ 6) : ∀ (n : Nat) (x : Int), x + n = 24 → 0 ≤ x → Ev 3 m_FC_unlike 52 [some (vr 3), some (vi p), some (vi q), some (vr (25 + 3 * p)), some (vr (25 + 3 * q)), some (vi x)] [] σ m (some (vi (unS l l2 n x))) σ m
  | 0, x, hx, h0 => by
    simp only [unS]
    refine Ev.iload d_FC_unlike_52 rfl ?_
    refine Ev.bipush d_FC_unlike_54 rfl ?_
    refine Ev.icmp_ge (tgt := 87) d_FC_unlike_56 rfl (by first | omega | (simp [mu]; done) | (simp [mu]; omega)) (by first | omega | (simp [mu]; done) | (simp [mu]; omega)) (fun hb56 => ?_) (fun hb56 => by exfalso; first | omega | simp at hb56 | contradiction)
    refine Ev.bipush d_FC_unlike_87 rfl ?_
    exact Ev.to (Ev.ireturn d_FC_unlike_89 rfl) rfl rfl
  | n + 1, x, hx, h0 => by
    have b1 := cn_b x l
    have b2 := cn_b x l2
    have hs : 0 ≤ x ∧ x < 24 := by omega
    by_cases h : cn x l = cn x l2
    · have e : unS l l2 (n + 1) x = unS l l2 n (x + 1) := if_pos h
      rw [e]
      refine Ev.iload d_FC_unlike_52 rfl ?_
      refine Ev.bipush d_FC_unlike_54 rfl ?_
      refine Ev.icmp_ge (tgt := 87) d_FC_unlike_56 rfl (by first | omega | (simp [mu]; done) | (simp [mu]; omega)) (by first | omega | (simp [mu]; done) | (simp [mu]; omega)) (fun hb56 => by exfalso; first | omega | simp at hb56 | contradiction) (fun hb56 => ?_)
      refine Ev.aload_n d_FC_unlike_59 rfl ?_
      refine Ev.iload d_FC_unlike_60 rfl ?_
      refine Ev.callV d_FC_unlike_62 mt_Pic_amountAt lk_FC_91 in_Pic_amountAt se_Pic_amountAt rfl (Nat.le_of_ble_eq_true rfl) rfl (Nat.le_of_ble_eq_true rfl) (by decide) hpa.2.1 (by decide) rfl rfl (c_Pic_amountAt hpa hP hs) ?_
      refine Ev.aload d_FC_unlike_65 rfl ?_
      refine Ev.iload d_FC_unlike_67 rfl ?_
      refine Ev.callV d_FC_unlike_69 mt_Pic_amountAt lk_FC_91 in_Pic_amountAt se_Pic_amountAt rfl (Nat.le_of_ble_eq_true rfl) rfl (Nat.le_of_ble_eq_true rfl) (by decide) hqa.2.1 (by decide) rfl rfl (c_Pic_amountAt hqa hQ hs) ?_
      refine Ev.icmp_eq (tgt := 81) d_FC_unlike_72 rfl (by first | omega | (simp [mu]; done) | (simp [mu]; omega)) (by first | omega | (simp [mu]; done) | (simp [mu]; omega)) (fun hb72 => ?_) (fun hb72 => by exfalso; first | omega | simp at hb72 | contradiction)
      refine Ev.iinc_5 d_FC_unlike_81 rfl ?_
      refine Ev.goto (tgt := 52) d_FC_unlike_84 rfl ?_
      exact lp_FC_unlike hF hR hpa hqa hP hQ h6 h62 n (x + 1) (by omega) (by omega)
    · have e : unS l l2 (n + 1) x = fS x := if_neg h
      rw [e]
      refine Ev.iload d_FC_unlike_52 rfl ?_
      refine Ev.bipush d_FC_unlike_54 rfl ?_
      refine Ev.icmp_ge (tgt := 87) d_FC_unlike_56 rfl (by first | omega | (simp [mu]; done) | (simp [mu]; omega)) (by first | omega | (simp [mu]; done) | (simp [mu]; omega)) (fun hb56 => by exfalso; first | omega | simp at hb56 | contradiction) (fun hb56 => ?_)
      refine Ev.aload_n d_FC_unlike_59 rfl ?_
      refine Ev.iload d_FC_unlike_60 rfl ?_
      refine Ev.callV d_FC_unlike_62 mt_Pic_amountAt lk_FC_91 in_Pic_amountAt se_Pic_amountAt rfl (Nat.le_of_ble_eq_true rfl) rfl (Nat.le_of_ble_eq_true rfl) (by decide) hpa.2.1 (by decide) rfl rfl (c_Pic_amountAt hpa hP hs) ?_
      refine Ev.aload d_FC_unlike_65 rfl ?_
      refine Ev.iload d_FC_unlike_67 rfl ?_
      refine Ev.callV d_FC_unlike_69 mt_Pic_amountAt lk_FC_91 in_Pic_amountAt se_Pic_amountAt rfl (Nat.le_of_ble_eq_true rfl) rfl (Nat.le_of_ble_eq_true rfl) (by decide) hqa.2.1 (by decide) rfl rfl (c_Pic_amountAt hqa hQ hs) ?_
      refine Ev.icmp_eq (tgt := 81) d_FC_unlike_72 rfl (by first | omega | (simp [mu]; done) | (simp [mu]; omega)) (by first | omega | (simp [mu]; done) | (simp [mu]; omega)) (fun hb72 => by exfalso; first | omega | simp at hb72 | contradiction) (fun hb72 => ?_)
      refine Ev.iload d_FC_unlike_75 rfl ?_
      refine Ev.callS d_FC_unlike_77 mt_FC_fromOf lk_FC_124 st_FC_fromOf rfl (Nat.le_of_ble_eq_true rfl) rfl (Nat.le_of_ble_eq_true rfl) (by decide) rfl (c_FC_fromOf hR hs) ?_
      exact Ev.to (Ev.ireturn d_FC_unlike_80 rfl) rfl rfl
theorem c_FC_unlike (hF : FcS σ) {S : PS} (hS : CS m S) (hR : SR σ m) {p q : Int} (h1 : -2147483648 ≤ p ∧ p ≤ 2147483647) (h2 : -2147483648 ≤ q ∧ q ≤ 2147483647) : Call 3 m_FC_unlike [vr 3, vi p, vi q] σ m (some (vi (sp_unlike S p q))) σ m := by
  have hS2 := hS.2.1
  unfold sp_unlike
  show Ev 3 m_FC_unlike 0 [some (vr 3), some (vi p), some (vi q), none, none, none] [] σ m _ σ m
  by_cases hp : 0 ≤ p ∧ p < S.1
  · by_cases hq : 0 ≤ q ∧ q < S.1
    · obtain ⟨hPM, hK⟩ := hS.2.2 p hp.1 hp.2
      obtain ⟨hQM, hK2⟩ := hS.2.2 q hq.1 hq.2
      have hpa := (pic_at hF (p := p) (by omega)).1
      have hqa := (pic_at hF (p := q) (by omega)).1
      have hd := hK.1
      have hd2 := hK2.1
      rw [if_pos ⟨hp, hq⟩]
      by_cases he : S.2.1 p = S.2.1 q
      · rw [if_pos he, ← unS_unf hK (by rw [he]; exact hK2)]
        refine Ev.aload_n d_FC_unlike_0 rfl ?_
        refine Ev.iload_n d_FC_unlike_1 rfl ?_
        refine Ev.callV d_FC_unlike_2 mt_FC_pictureAt lk_FC_77 in_FC_pictureAt se_FC_pictureAt rfl (Nat.le_of_ble_eq_true rfl) rfl (Nat.le_of_ble_eq_true rfl) (by decide) (fi_3 hF) (by decide) rfl rfl (c_pAt hF hS hp) ?_
        refine Ev.astore_3 d_FC_unlike_5 rfl ?_
        refine Ev.aload_n d_FC_unlike_6 rfl ?_
        refine Ev.iload_n d_FC_unlike_7 rfl ?_
        refine Ev.callV d_FC_unlike_8 mt_FC_pictureAt lk_FC_77 in_FC_pictureAt se_FC_pictureAt rfl (Nat.le_of_ble_eq_true rfl) rfl (Nat.le_of_ble_eq_true rfl) (by decide) (fi_3 hF) (by decide) rfl rfl (c_pAt hF hS hq) ?_
        refine Ev.astore_4 d_FC_unlike_11 rfl ?_
        refine Ev.aload_n d_FC_unlike_13 rfl ?_
        refine Ev.ifnull (tgt := 22) d_FC_unlike_14 rfl (fun hb14 => by exfalso; first | omega | simp at hb14 | contradiction) (fun hb14 => ?_)
        refine Ev.aload d_FC_unlike_17 rfl ?_
        refine Ev.ifnonnull (tgt := 24) d_FC_unlike_19 rfl (fun hb19 => ?_) (fun hb19 => by exfalso; first | omega | simp at hb19 | contradiction)
        refine Ev.aload_n d_FC_unlike_24 rfl ?_
        refine Ev.callV d_FC_unlike_25 mt_Pic_degree lk_FC_102 in_Pic_degree se_Pic_degree rfl (Nat.le_of_ble_eq_true rfl) rfl (Nat.le_of_ble_eq_true rfl) (by decide) hpa.2.1 (by decide) rfl rfl (c_Pic_degree hpa hPM) ?_
        refine Ev.aload d_FC_unlike_28 rfl ?_
        refine Ev.callV d_FC_unlike_30 mt_Pic_degree lk_FC_102 in_Pic_degree se_Pic_degree rfl (Nat.le_of_ble_eq_true rfl) rfl (Nat.le_of_ble_eq_true rfl) (by decide) hqa.2.1 (by decide) rfl rfl (c_Pic_degree hqa hQM) ?_
        refine Ev.icmp_eq (tgt := 49) d_FC_unlike_33 rfl (by first | omega | (simp [mu]; done) | (simp [mu]; omega)) (by first | omega | (simp [mu]; done) | (simp [mu]; omega)) (fun hb33 => ?_) (fun hb33 => by exfalso; first | omega | simp at hb33 | contradiction)
        refine Ev.iconst d_FC_unlike_49 ?_
        refine Ev.istore_5 d_FC_unlike_50 rfl ?_
        exact lp_FC_unlike hF hR hpa hqa hPM hQM hK.2.1 hK2.2.1 24 0 rfl (by decide)
      · rw [if_neg he]
        refine Ev.aload_n d_FC_unlike_0 rfl ?_
        refine Ev.iload_n d_FC_unlike_1 rfl ?_
        refine Ev.callV d_FC_unlike_2 mt_FC_pictureAt lk_FC_77 in_FC_pictureAt se_FC_pictureAt rfl (Nat.le_of_ble_eq_true rfl) rfl (Nat.le_of_ble_eq_true rfl) (by decide) (fi_3 hF) (by decide) rfl rfl (c_pAt hF hS hp) ?_
        refine Ev.astore_3 d_FC_unlike_5 rfl ?_
        refine Ev.aload_n d_FC_unlike_6 rfl ?_
        refine Ev.iload_n d_FC_unlike_7 rfl ?_
        refine Ev.callV d_FC_unlike_8 mt_FC_pictureAt lk_FC_77 in_FC_pictureAt se_FC_pictureAt rfl (Nat.le_of_ble_eq_true rfl) rfl (Nat.le_of_ble_eq_true rfl) (by decide) (fi_3 hF) (by decide) rfl rfl (c_pAt hF hS hq) ?_
        refine Ev.astore_4 d_FC_unlike_11 rfl ?_
        refine Ev.aload_n d_FC_unlike_13 rfl ?_
        refine Ev.ifnull (tgt := 22) d_FC_unlike_14 rfl (fun hb14 => by exfalso; first | omega | simp at hb14 | contradiction) (fun hb14 => ?_)
        refine Ev.aload d_FC_unlike_17 rfl ?_
        refine Ev.ifnonnull (tgt := 24) d_FC_unlike_19 rfl (fun hb19 => ?_) (fun hb19 => by exfalso; first | omega | simp at hb19 | contradiction)
        refine Ev.aload_n d_FC_unlike_24 rfl ?_
        refine Ev.callV d_FC_unlike_25 mt_Pic_degree lk_FC_102 in_Pic_degree se_Pic_degree rfl (Nat.le_of_ble_eq_true rfl) rfl (Nat.le_of_ble_eq_true rfl) (by decide) hpa.2.1 (by decide) rfl rfl (c_Pic_degree hpa hPM) ?_
        refine Ev.aload d_FC_unlike_28 rfl ?_
        refine Ev.callV d_FC_unlike_30 mt_Pic_degree lk_FC_102 in_Pic_degree se_Pic_degree rfl (Nat.le_of_ble_eq_true rfl) rfl (Nat.le_of_ble_eq_true rfl) (by decide) hqa.2.1 (by decide) rfl rfl (c_Pic_degree hqa hQM) ?_
        refine Ev.icmp_eq (tgt := 49) d_FC_unlike_33 rfl (by first | omega | (simp [mu]; done) | (simp [mu]; omega)) (by first | omega | (simp [mu]; done) | (simp [mu]; omega)) (fun hb33 => by exfalso; first | omega | simp at hb33 | contradiction) (fun hb33 => ?_)
        refine Ev.aload_n d_FC_unlike_36 rfl ?_
        refine Ev.callV d_FC_unlike_37 mt_Pic_degree lk_FC_102 in_Pic_degree se_Pic_degree rfl (Nat.le_of_ble_eq_true rfl) rfl (Nat.le_of_ble_eq_true rfl) (by decide) hpa.2.1 (by decide) rfl rfl (c_Pic_degree hpa hPM) ?_
        refine Ev.aload d_FC_unlike_40 rfl ?_
        refine Ev.callV d_FC_unlike_42 mt_Pic_degree lk_FC_102 in_Pic_degree se_Pic_degree rfl (Nat.le_of_ble_eq_true rfl) rfl (Nat.le_of_ble_eq_true rfl) (by decide) hqa.2.1 (by decide) rfl rfl (c_Pic_degree hqa hQM) ?_
        refine Ev.mmin d_FC_unlike_45 lk_FC_155 (by first | omega | (simp [mu]; done) | (simp [mu]; omega)) (by first | omega | (simp [mu]; done) | (simp [mu]; omega)) rfl (Nat.le_of_ble_eq_true rfl) (by decide) ?_
        exact Ev.to (Ev.ireturn d_FC_unlike_48 rfl) (ri (by by_cases h : S.2.1 q < S.2.1 p <;> by_cases h2 : S.2.1 p < S.2.1 q <;> simp [h, h2] <;> omega)) rfl
    · rw [if_neg (fun h => hq h.2)]
      refine Ev.aload_n d_FC_unlike_0 rfl ?_
      refine Ev.iload_n d_FC_unlike_1 rfl ?_
      refine Ev.callV d_FC_unlike_2 mt_FC_pictureAt lk_FC_77 in_FC_pictureAt se_FC_pictureAt rfl (Nat.le_of_ble_eq_true rfl) rfl (Nat.le_of_ble_eq_true rfl) (by decide) (fi_3 hF) (by decide) rfl rfl (c_pAt hF hS hp) ?_
      refine Ev.astore_3 d_FC_unlike_5 rfl ?_
      refine Ev.aload_n d_FC_unlike_6 rfl ?_
      refine Ev.iload_n d_FC_unlike_7 rfl ?_
      refine Ev.callV d_FC_unlike_8 mt_FC_pictureAt lk_FC_77 in_FC_pictureAt se_FC_pictureAt rfl (Nat.le_of_ble_eq_true rfl) rfl (Nat.le_of_ble_eq_true rfl) (by decide) (fi_3 hF) (by decide) rfl rfl (c_pNo hF hS h2 hq) ?_
      refine Ev.astore_4 d_FC_unlike_11 rfl ?_
      refine Ev.aload_n d_FC_unlike_13 rfl ?_
      refine Ev.ifnull (tgt := 22) d_FC_unlike_14 rfl (fun hb14 => by exfalso; first | omega | simp at hb14 | contradiction) (fun hb14 => ?_)
      refine Ev.aload d_FC_unlike_17 rfl ?_
      refine Ev.ifnonnull (tgt := 24) d_FC_unlike_19 rfl (fun hb19 => by exfalso; first | omega | simp at hb19 | contradiction) (fun hb19 => ?_)
      refine Ev.iconst d_FC_unlike_22 ?_
      exact Ev.to (Ev.ireturn d_FC_unlike_23 rfl) rfl rfl
  · rw [if_neg (fun h => hp h.1)]
    by_cases hq : 0 ≤ q ∧ q < S.1
    · refine Ev.aload_n d_FC_unlike_0 rfl ?_
      refine Ev.iload_n d_FC_unlike_1 rfl ?_
      refine Ev.callV d_FC_unlike_2 mt_FC_pictureAt lk_FC_77 in_FC_pictureAt se_FC_pictureAt rfl (Nat.le_of_ble_eq_true rfl) rfl (Nat.le_of_ble_eq_true rfl) (by decide) (fi_3 hF) (by decide) rfl rfl (c_pNo hF hS h1 hp) ?_
      refine Ev.astore_3 d_FC_unlike_5 rfl ?_
      refine Ev.aload_n d_FC_unlike_6 rfl ?_
      refine Ev.iload_n d_FC_unlike_7 rfl ?_
      refine Ev.callV d_FC_unlike_8 mt_FC_pictureAt lk_FC_77 in_FC_pictureAt se_FC_pictureAt rfl (Nat.le_of_ble_eq_true rfl) rfl (Nat.le_of_ble_eq_true rfl) (by decide) (fi_3 hF) (by decide) rfl rfl (c_pAt hF hS hq) ?_
      refine Ev.astore_4 d_FC_unlike_11 rfl ?_
      refine Ev.aload_n d_FC_unlike_13 rfl ?_
      refine Ev.ifnull (tgt := 22) d_FC_unlike_14 rfl (fun hb14 => ?_) (fun hb14 => by exfalso; first | omega | simp at hb14 | contradiction)
      refine Ev.iconst d_FC_unlike_22 ?_
      exact Ev.to (Ev.ireturn d_FC_unlike_23 rfl) rfl rfl
    · refine Ev.aload_n d_FC_unlike_0 rfl ?_
      refine Ev.iload_n d_FC_unlike_1 rfl ?_
      refine Ev.callV d_FC_unlike_2 mt_FC_pictureAt lk_FC_77 in_FC_pictureAt se_FC_pictureAt rfl (Nat.le_of_ble_eq_true rfl) rfl (Nat.le_of_ble_eq_true rfl) (by decide) (fi_3 hF) (by decide) rfl rfl (c_pNo hF hS h1 hp) ?_
      refine Ev.astore_3 d_FC_unlike_5 rfl ?_
      refine Ev.aload_n d_FC_unlike_6 rfl ?_
      refine Ev.iload_n d_FC_unlike_7 rfl ?_
      refine Ev.callV d_FC_unlike_8 mt_FC_pictureAt lk_FC_77 in_FC_pictureAt se_FC_pictureAt rfl (Nat.le_of_ble_eq_true rfl) rfl (Nat.le_of_ble_eq_true rfl) (by decide) (fi_3 hF) (by decide) rfl rfl (c_pNo hF hS h2 hq) ?_
      refine Ev.astore_4 d_FC_unlike_11 rfl ?_
      refine Ev.aload_n d_FC_unlike_13 rfl ?_
      refine Ev.ifnull (tgt := 22) d_FC_unlike_14 rfl (fun hb14 => ?_) (fun hb14 => by exfalso; first | omega | simp at hb14 | contradiction)
      refine Ev.iconst d_FC_unlike_22 ?_
      exact Ev.to (Ev.ireturn d_FC_unlike_23 rfl) rfl rfl
end
