section
variable {σ : Sg} {m : Mm}
theorem rb {p q : Prop} [Decidable p] [Decidable q] (h : p ↔ q) : (some (vi (b01 p)) : Option AV) = some (vi (b01 q)) := by
  by_cases hp : p
  · rw [b01_t hp, b01_t (h.mp hp)]
  · rw [b01_f hp, b01_f (fun z => hp (h.mpr z))]
theorem spot_le : ∀ x : Nat, x < 24 → ∀ s : Nat, s < 24 → ((fS x < fS s ∨ fS x = fS s ∧ (tS x < tS s ∨ tS x = tS s ∧ wS x ≤ wS s)) ↔ x ≤ s) := by decide +kernel
theorem spot_leI {x s : Int} (hx : 0 ≤ x ∧ x < 24) (hs : 0 ≤ s ∧ s < 24) : (fS x < fS s ∨ fS x = fS s ∧ (tS x < tS s ∨ tS x = tS s ∧ wS x ≤ wS s)) ↔ x ≤ s := by
  have := spot_le x.toNat (by omega) s.toNat (by omega)
  rw [show ((x.toNat : Nat) : Int) = x by omega, show ((s.toNat : Nat) : Int) = s by omega] at this
  rw [this]; omega
theorem spot_inj {x s : Int} (hx : 0 ≤ x ∧ x < 24) (hs : 0 ≤ s ∧ s < 24) (h1 : fS x = fS s) (h2 : tS x = tS s) (h3 : wS x = wS s) : x = s := by
  have a := spot_leI hx hs
  have b := spot_leI hs hx
  have : x ≤ s := a.mp (by omega)
  have : s ≤ x := b.mp (by omega)
  omega
/-- a picture as the reference has it -/
def PM (m : Mm) (p d : Int) (l : List Int) : Prop := m 58 p = d ∧ m 59 p = l.length ∧ At m (6 * p) l
def PK (d : Int) (l : List Int) : Prop := (1 ≤ d ∧ d ≤ 4) ∧ l.length ≤ 6 ∧ l.Pairwise (· ≤ ·) ∧ ∀ s ∈ l, 0 ≤ s ∧ s < 24 ∧ tS s < d
def MP (m : Mm) (np : Int) (D : Int → Int) (Ls : Int → List Int) : Prop := (0 ≤ np ∧ np ≤ 8) ∧ m 57 0 = np ∧ ∀ p, 0 ≤ p → p < np → PM m p (D p) (Ls p) ∧ PK (D p) (Ls p)
def up {α : Type} (f : Int → α) (k : Int) (x : α) : Int → α := fun j => if j = k then x else f j
def rgt (l : List Int) : Nat → Int → Bool
  | 0, _ => true
  | n + 1, f => decide (outL f l ≤ 1) && rgt l n (f + 1)
def right (d : Int) (l : List Int) : Bool := rgt l d.toNat 0
def mulL : List Int → Int
  | [] => 1
  | s :: t => wS s * wS s * mulL t
def sgL : Int → List Int → Int
  | a, [] => a
  | a, s :: t => sgL (if wS s % 2 = 0 then 0 else a) t
theorem lp_Mo_isRight (hM : MoS σ) {p d : Int} {l : List Int} (hp : 0 ≤ p ∧ p ≤ 8) (hd : m 58 p = d) (hd4 : 0 ≤ d ∧ d ≤ 4) (hn : m 59 p = l.length) (h6 : l.length ≤ 6) (hA : At m (6 * p) l) : ∀ (n : Nat) (f acc : Int), f + n = d → 0 ≤ f → (acc = 0 ∨ acc = 1) → Ev 2 m_Mo_isRight 4 [some (vr 57), some (vi p), some (vi acc), some (vi f)] [] σ m (some (vi (b01 (acc = 1 ∧ rgt l n f = true)))) σ m
  | 0, f, acc, hf, h0, ha => by
    refine Ev.iload_n d_Mo_isRight_4 rfl ?_
    refine Ev.aload_n d_Mo_isRight_5 rfl ?_
    refine Ev.gr 1 d_Mo_isRight_6 lf_Mo_7 rfl rfl (is_57 hM) (by decide) (rf_57_1 hM) ?_
    refine Ev.iload_n d_Mo_isRight_9 rfl ?_
    refine Ev.iaload d_Mo_isRight_10 (is_58 hM) (by omega) ?_
    refine Ev.icmp_ge (tgt := 40) d_Mo_isRight_11 rfl (by omega) (by omega) (fun hb11 => ?_) (fun hb11 => by exfalso; first | omega | simp at hb11 | contradiction)
    refine Ev.iload_n d_Mo_isRight_40 rfl ?_
    exact Ev.to (Ev.zreturn d_Mo_isRight_41 rfl (by first | omega | exact b01_01)) (by rcases ha with rfl | rfl <;> simp [b01, rgt]) rfl
  | n + 1, f, acc, hf, h0, ha => by
    have ho := outL_b f l
    have key : ∀ a2 : Int, (a2 = b01 (acc = 1 ∧ outL f l ≤ 1)) → (some (vi (b01 (a2 = 1 ∧ rgt l n (f + 1) = true))) : Option AV) = some (vi (b01 (acc = 1 ∧ rgt l (n + 1) f = true))) := by
      intro a2 h2
      subst h2
      simp only [rgt, Bool.and_eq_true, decide_eq_true_eq]
      by_cases h : acc = 1 ∧ outL f l ≤ 1
      · rw [b01_t h]; simp [h.1, h.2]
      · rw [b01_f h]
        congr 2
        rw [b01_f (by simp), b01_f (fun q => h ⟨q.1, q.2.1⟩)]
    refine Ev.iload_n d_Mo_isRight_4 rfl ?_
    refine Ev.aload_n d_Mo_isRight_5 rfl ?_
    refine Ev.gr 1 d_Mo_isRight_6 lf_Mo_7 rfl rfl (is_57 hM) (by decide) (rf_57_1 hM) ?_
    refine Ev.iload_n d_Mo_isRight_9 rfl ?_
    refine Ev.iaload d_Mo_isRight_10 (is_58 hM) (by omega) ?_
    refine Ev.icmp_ge (tgt := 40) d_Mo_isRight_11 rfl (by omega) (by omega) (fun hb11 => by exfalso; first | omega | simp at hb11 | contradiction) (fun hb11 => ?_)
    refine Ev.iload_n d_Mo_isRight_14 rfl ?_
    refine Ev.if_eq (tgt := 32) d_Mo_isRight_15 rfl (by omega) (fun hb15 => ?_) (fun hb15 => ?_)
    · refine Ev.iconst d_Mo_isRight_32 ?_
      refine Ev.istore_2 d_Mo_isRight_33 rfl ?_
      refine Ev.iinc_3 d_Mo_isRight_34 rfl ?_
      refine Ev.goto (tgt := 4) d_Mo_isRight_37 rfl ?_
      exact Ev.to (lp_Mo_isRight hM hp hd hd4 hn h6 hA n (f + 1) 0 (by omega) (by omega) (by omega)) (key _ (by rw [b01_f (by omega)])) rfl
    · refine Ev.aload_n d_Mo_isRight_18 rfl ?_
      refine Ev.iload_n d_Mo_isRight_19 rfl ?_
      refine Ev.iload_n d_Mo_isRight_20 rfl ?_
      refine Ev.callV d_Mo_isRight_21 mt_Mo_outOf lk_Mo_128 in_Mo_outOf se_Mo_outOf rfl (Nat.le_of_ble_eq_true rfl) rfl (Nat.le_of_ble_eq_true rfl) (by decide) (is_57 hM) (by decide) rfl rfl (c_Mo_outOf hM hp (by omega) hn h6 hA) ?_
      refine Ev.iconst d_Mo_isRight_24 ?_
      refine Ev.icmp_gt (tgt := 32) d_Mo_isRight_25 rfl (by omega) (by omega) (fun hb25 => ?_) (fun hb25 => ?_)
      · refine Ev.iconst d_Mo_isRight_32 ?_
        refine Ev.istore_2 d_Mo_isRight_33 rfl ?_
        refine Ev.iinc_3 d_Mo_isRight_34 rfl ?_
        refine Ev.goto (tgt := 4) d_Mo_isRight_37 rfl ?_
        exact Ev.to (lp_Mo_isRight hM hp hd hd4 hn h6 hA n (f + 1) 0 (by omega) (by omega) (by omega)) (key _ (by rw [b01_f (by omega)])) rfl
      · refine Ev.iconst d_Mo_isRight_28 ?_
        refine Ev.goto (tgt := 33) d_Mo_isRight_29 rfl ?_
        refine Ev.istore_2 d_Mo_isRight_33 rfl ?_
        refine Ev.iinc_3 d_Mo_isRight_34 rfl ?_
        refine Ev.goto (tgt := 4) d_Mo_isRight_37 rfl ?_
        exact Ev.to (lp_Mo_isRight hM hp hd hd4 hn h6 hA n (f + 1) 1 (by omega) (by omega) (by omega)) (key _ (by rw [b01_t (by omega)])) rfl
theorem c_Mo_isRight (hM : MoS σ) {p d : Int} {l : List Int} (hp : 0 ≤ p ∧ p ≤ 8) (hP : PM m p d l) (hK : PK d l) : Call 2 m_Mo_isRight [vr 57, vi p] σ m (some (vi (b01 (right d l = true)))) σ m := by
  show Ev 2 m_Mo_isRight 0 [some (vr 57), some (vi p), none, none] [] σ m _ σ m
  refine Ev.iconst d_Mo_isRight_0 ?_
  refine Ev.istore_2 d_Mo_isRight_1 rfl ?_
  refine Ev.iconst d_Mo_isRight_2 ?_
  refine Ev.istore_3 d_Mo_isRight_3 rfl ?_
  exact Ev.to (lp_Mo_isRight hM hp hP.1 ⟨by have := hK.1.1; omega, hK.1.2⟩ hP.2.1 hK.2.1 hP.2.2 d.toNat 0 1 (by have := hK.1.1; omega) (by omega) (by omega)) (rb (by simp [right])) rfl
theorem c_Mo_knots (hM : MoS σ) {p d : Int} {l : List Int} (hp : 0 ≤ p ∧ p ≤ 8) (hP : PM m p d l) (hK : PK d l) : Call 1 m_Mo_knots [vr 57, vi p] σ m (some (vi (d * (d - 1) / 2 - l.length))) σ m := by
  show Ev 1 m_Mo_knots 0 [some (vr 57), some (vi p)] [] σ m _ σ m
  obtain ⟨hd, hn, hA⟩ := hP
  obtain ⟨⟨k1, k2⟩, -⟩ := hK
  have hb : 0 ≤ m 58 p * (m 58 p - 1) ∧ m 58 p * (m 58 p - 1) ≤ 2147483647 := by
    rw [hd]
    rcases (show d = 1 ∨ d = 2 ∨ d = 3 ∨ d = 4 by omega) with rfl | rfl | rfl | rfl <;> decide
  refine Ev.aload_n d_Mo_knots_0 rfl ?_
  refine Ev.gr 1 d_Mo_knots_1 lf_Mo_7 rfl rfl (is_57 hM) (by decide) (rf_57_1 hM) ?_
  refine Ev.iload_n d_Mo_knots_4 rfl ?_
  refine Ev.iaload d_Mo_knots_5 (is_58 hM) (by omega) ?_
  refine Ev.aload_n d_Mo_knots_6 rfl ?_
  refine Ev.gr 1 d_Mo_knots_7 lf_Mo_7 rfl rfl (is_57 hM) (by decide) (rf_57_1 hM) ?_
  refine Ev.iload_n d_Mo_knots_10 rfl ?_
  refine Ev.iaload d_Mo_knots_11 (is_58 hM) (by omega) ?_
  refine Ev.iconst d_Mo_knots_12 ?_
  refine Ev.isub d_Mo_knots_13 ?_
  refine Ev.imul d_Mo_knots_14 ?_
  refine Ev.iconst d_Mo_knots_15 ?_
  refine Ev.idiv d_Mo_knots_16 hb (by omega) ?_
  refine Ev.aload_n d_Mo_knots_17 rfl ?_
  refine Ev.gr 2 d_Mo_knots_18 lf_Mo_13 rfl rfl (is_57 hM) (by decide) (rf_57_2 hM) ?_
  refine Ev.iload_n d_Mo_knots_21 rfl ?_
  refine Ev.iaload d_Mo_knots_22 (is_59 hM) (by omega) ?_
  refine Ev.isub d_Mo_knots_23 ?_
  exact Ev.to (Ev.ireturn d_Mo_knots_24 rfl) (ri (by rw [hd, hn])) rfl
theorem lp_Mo_multOf (hM : MoS σ) {p n : Int} (hp : 0 ≤ p ∧ p ≤ 8) (hn : m 59 p = n) (h6 : 0 ≤ n ∧ n ≤ 6) : ∀ (l : List Int) (k acc res : Int), At m k l → k + l.length = 6 * p + n → 6 * p ≤ k → res = acc * mulL l → Ev 1 m_Mo_multOf 7 [some (vr 57), some (vi p), some (vi acc), some (vi k)] [] σ m (some (vi res)) σ m
  | [], k, acc, res, hA, he, hk, hres => by
    simp only [List.length_nil] at he
    refine Ev.iload_n d_Mo_multOf_7 rfl ?_
    refine Ev.bipush d_Mo_multOf_8 rfl ?_
    refine Ev.iload_n d_Mo_multOf_10 rfl ?_
    refine Ev.imul d_Mo_multOf_11 ?_
    refine Ev.aload_n d_Mo_multOf_12 rfl ?_
    refine Ev.gr 2 d_Mo_multOf_13 lf_Mo_13 rfl rfl (is_57 hM) (by decide) (rf_57_2 hM) ?_
    refine Ev.iload_n d_Mo_multOf_16 rfl ?_
    refine Ev.iaload d_Mo_multOf_17 (is_59 hM) (by omega) ?_
    refine Ev.iadd d_Mo_multOf_18 ?_
    refine Ev.icmp_ge (tgt := 44) d_Mo_multOf_19 rfl (by omega) (by omega) (fun hb19 => ?_) (fun hb19 => by exfalso; first | omega | simp at hb19 | contradiction)
    refine Ev.iload_n d_Mo_multOf_44 rfl ?_
    exact Ev.to (Ev.ireturn d_Mo_multOf_45 rfl) (ri (by rw [hres]; simp [mulL])) rfl
  | s :: t, k, acc, res, hA, he, hk, hres => by
    obtain ⟨⟨e1, e2, e3⟩, hA2⟩ := hA
    have b3 := wS_b s
    simp only [List.length_cons] at he
    refine Ev.iload_n d_Mo_multOf_7 rfl ?_
    refine Ev.bipush d_Mo_multOf_8 rfl ?_
    refine Ev.iload_n d_Mo_multOf_10 rfl ?_
    refine Ev.imul d_Mo_multOf_11 ?_
    refine Ev.aload_n d_Mo_multOf_12 rfl ?_
    refine Ev.gr 2 d_Mo_multOf_13 lf_Mo_13 rfl rfl (is_57 hM) (by decide) (rf_57_2 hM) ?_
    refine Ev.iload_n d_Mo_multOf_16 rfl ?_
    refine Ev.iaload d_Mo_multOf_17 (is_59 hM) (by omega) ?_
    refine Ev.iadd d_Mo_multOf_18 ?_
    refine Ev.icmp_ge (tgt := 44) d_Mo_multOf_19 rfl (by omega) (by omega) (fun hb19 => by exfalso; first | omega | simp at hb19 | contradiction) (fun hb19 => ?_)
    refine Ev.iload_n d_Mo_multOf_22 rfl ?_
    refine Ev.aload_n d_Mo_multOf_23 rfl ?_
    refine Ev.gr 5 d_Mo_multOf_24 lf_Mo_22 rfl rfl (is_57 hM) (by decide) (rf_57_5 hM) ?_
    refine Ev.iload_n d_Mo_multOf_27 rfl ?_
    refine Ev.iaload d_Mo_multOf_28 (is_62 hM) (by omega) ?_
    refine Ev.aload_n d_Mo_multOf_29 rfl ?_
    refine Ev.gr 5 d_Mo_multOf_30 lf_Mo_22 rfl rfl (is_57 hM) (by decide) (rf_57_5 hM) ?_
    refine Ev.iload_n d_Mo_multOf_33 rfl ?_
    refine Ev.iaload d_Mo_multOf_34 (is_62 hM) (by omega) ?_
    refine Ev.imul d_Mo_multOf_35 ?_
    refine Ev.imul d_Mo_multOf_36 ?_
    refine Ev.istore_2 d_Mo_multOf_37 rfl ?_
    refine Ev.iinc_3 d_Mo_multOf_38 rfl ?_
    refine Ev.goto (tgt := 7) d_Mo_multOf_41 rfl ?_
    exact lp_Mo_multOf hM hp hn h6 t (k + 1) _ res hA2 (by omega) (by omega) (by rw [hres, e3, mulL]; simp only [Int.mul_assoc])
theorem c_Mo_multOf (hM : MoS σ) {p d : Int} {l : List Int} (hp : 0 ≤ p ∧ p ≤ 8) (hP : PM m p d l) (hK : PK d l) : Call 1 m_Mo_multOf [vr 57, vi p] σ m (some (vi (mulL l))) σ m := by
  show Ev 1 m_Mo_multOf 0 [some (vr 57), some (vi p), none, none] [] σ m _ σ m
  have h6 := hK.2.1
  refine Ev.iconst d_Mo_multOf_0 ?_
  refine Ev.istore_2 d_Mo_multOf_1 rfl ?_
  refine Ev.bipush d_Mo_multOf_2 rfl ?_
  refine Ev.iload_n d_Mo_multOf_4 rfl ?_
  refine Ev.imul d_Mo_multOf_5 ?_
  refine Ev.istore_3 d_Mo_multOf_6 rfl ?_
  exact lp_Mo_multOf hM hp hP.2.1 (by omega) l _ _ _ hP.2.2 (by omega) (by omega) (by simp)
theorem lp_Mo_signOf (hM : MoS σ) {p n : Int} (hp : 0 ≤ p ∧ p ≤ 8) (hn : m 59 p = n) (h6 : 0 ≤ n ∧ n ≤ 6) : ∀ (l : List Int) (k acc res : Int), At m k l → k + l.length = 6 * p + n → 6 * p ≤ k → res = sgL acc l → Ev 1 m_Mo_signOf 7 [some (vr 57), some (vi p), some (vi acc), some (vi k)] [] σ m (some (vi res)) σ m
  | [], k, acc, res, hA, he, hk, hres => by
    simp only [List.length_nil] at he
    refine Ev.iload_n d_Mo_signOf_7 rfl ?_
    refine Ev.bipush d_Mo_signOf_8 rfl ?_
    refine Ev.iload_n d_Mo_signOf_10 rfl ?_
    refine Ev.imul d_Mo_signOf_11 ?_
    refine Ev.aload_n d_Mo_signOf_12 rfl ?_
    refine Ev.gr 2 d_Mo_signOf_13 lf_Mo_13 rfl rfl (is_57 hM) (by decide) (rf_57_2 hM) ?_
    refine Ev.iload_n d_Mo_signOf_16 rfl ?_
    refine Ev.iaload d_Mo_signOf_17 (is_59 hM) (by omega) ?_
    refine Ev.iadd d_Mo_signOf_18 ?_
    refine Ev.icmp_ge (tgt := 45) d_Mo_signOf_19 rfl (by omega) (by omega) (fun hb19 => ?_) (fun hb19 => by exfalso; first | omega | simp at hb19 | contradiction)
    refine Ev.iload_n d_Mo_signOf_45 rfl ?_
    exact Ev.to (Ev.ireturn d_Mo_signOf_46 rfl) (ri (by rw [hres]; simp [sgL])) rfl
  | s :: t, k, acc, res, hA, he, hk, hres => by
    obtain ⟨⟨e1, e2, e3⟩, hA2⟩ := hA
    have b3 := wS_b s
    simp only [List.length_cons] at he
    refine Ev.iload_n d_Mo_signOf_7 rfl ?_
    refine Ev.bipush d_Mo_signOf_8 rfl ?_
    refine Ev.iload_n d_Mo_signOf_10 rfl ?_
    refine Ev.imul d_Mo_signOf_11 ?_
    refine Ev.aload_n d_Mo_signOf_12 rfl ?_
    refine Ev.gr 2 d_Mo_signOf_13 lf_Mo_13 rfl rfl (is_57 hM) (by decide) (rf_57_2 hM) ?_
    refine Ev.iload_n d_Mo_signOf_16 rfl ?_
    refine Ev.iaload d_Mo_signOf_17 (is_59 hM) (by omega) ?_
    refine Ev.iadd d_Mo_signOf_18 ?_
    refine Ev.icmp_ge (tgt := 45) d_Mo_signOf_19 rfl (by omega) (by omega) (fun hb19 => by exfalso; first | omega | simp at hb19 | contradiction) (fun hb19 => ?_)
    refine Ev.aload_n d_Mo_signOf_22 rfl ?_
    refine Ev.gr 5 d_Mo_signOf_23 lf_Mo_22 rfl rfl (is_57 hM) (by decide) (rf_57_5 hM) ?_
    refine Ev.iload_n d_Mo_signOf_26 rfl ?_
    refine Ev.iaload d_Mo_signOf_27 (is_62 hM) (by omega) ?_
    refine Ev.iconst d_Mo_signOf_28 ?_
    refine Ev.irem d_Mo_signOf_29 (by omega) (by omega) ?_
    refine Ev.if_ne (tgt := 37) d_Mo_signOf_30 rfl (by omega) (fun hb30 => ?_) (fun hb30 => ?_)
    · rw [sgL, if_neg (by omega)] at hres
      refine Ev.iload_n d_Mo_signOf_37 rfl ?_
      refine Ev.istore_2 d_Mo_signOf_38 rfl ?_
      refine Ev.iinc_3 d_Mo_signOf_39 rfl ?_
      refine Ev.goto (tgt := 7) d_Mo_signOf_42 rfl ?_
      exact lp_Mo_signOf hM hp hn h6 t (k + 1) _ res hA2 (by omega) (by omega) hres
    · rw [sgL, if_pos (by omega)] at hres
      refine Ev.iconst d_Mo_signOf_33 ?_
      refine Ev.goto (tgt := 38) d_Mo_signOf_34 rfl ?_
      refine Ev.istore_2 d_Mo_signOf_38 rfl ?_
      refine Ev.iinc_3 d_Mo_signOf_39 rfl ?_
      refine Ev.goto (tgt := 7) d_Mo_signOf_42 rfl ?_
      exact lp_Mo_signOf hM hp hn h6 t (k + 1) _ res hA2 (by omega) (by omega) hres
theorem c_Mo_signOf (hM : MoS σ) {p d : Int} {l : List Int} (hp : 0 ≤ p ∧ p ≤ 8) (hP : PM m p d l) (hK : PK d l) : Call 1 m_Mo_signOf [vr 57, vi p] σ m (some (vi (sgL 1 l))) σ m := by
  show Ev 1 m_Mo_signOf 0 [some (vr 57), some (vi p), none, none] [] σ m _ σ m
  have h6 := hK.2.1
  refine Ev.iconst d_Mo_signOf_0 ?_
  refine Ev.istore_2 d_Mo_signOf_1 rfl ?_
  refine Ev.bipush d_Mo_signOf_2 rfl ?_
  refine Ev.iload_n d_Mo_signOf_4 rfl ?_
  refine Ev.imul d_Mo_signOf_5 ?_
  refine Ev.istore_3 d_Mo_signOf_6 rfl ?_
  exact lp_Mo_signOf hM hp hP.2.1 (by omega) l _ _ _ hP.2.2 (by omega) (by omega) (by rfl)
end
