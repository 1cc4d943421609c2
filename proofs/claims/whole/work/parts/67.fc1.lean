/-! the class's own methods: pictures -/
def CS (m : Mm) (S : PS) : Prop := m 3 9 = S.1 ∧ (0 ≤ S.1 ∧ S.1 ≤ 8) ∧ ∀ p, 0 ≤ p → p < S.1 → PicM m (25 + 3 * p) (S.2.1 p) (S.2.2 p) ∧ PK (S.2.1 p) (S.2.2 p)
def FrPi (m m' : Mm) : Prop := ∀ b j : Int, ¬ (b = 3 ∧ j = 9) → ¬ (5 ≤ b ∧ b ≤ 7) → ¬ (25 ≤ b ∧ b ≤ 48) → m' b j = m b j
theorem FrPi.rf {m : Mm} : FrPi m m := fun _ _ _ _ _ => rfl
theorem FrPi.tr {m m1 m2 : Mm} (h : FrPi m m1) (g : FrPi m1 m2) : FrPi m m2 := fun b j x y z => (g b j x y z).trans (h b j x y z)
theorem CS_fr {m m' : Mm} {S : PS} (h : CS m S) (f : ∀ b j : Int, (b = 3 ∧ j = 9) ∨ (25 ≤ b ∧ b ≤ 48) → m' b j = m b j) : CS m' S := ⟨(f _ _ (by omega)).trans h.1, h.2.1, fun p a b => ⟨PicM_fr (h.2.2 p a b).1 (fun c j x y => f c j (by have := h.2.1; omega)), (h.2.2 p a b).2⟩⟩
section
variable {σ : Sg} {m : Mm}
theorem c_pAt (hF : FcS σ) {S : PS} (hS : CS m S) {p : Int} (hp : 0 ≤ p ∧ p < S.1) : Call 1 m_FC_pictureAt [vr 3, vi p] σ m (some (vr (25 + 3 * p))) σ m := by
  have hS1 := hS.1
  have hS2 := hS.2.1
  have hpa := pic_at hF (p := p) (by omega)
  show Ev 1 m_FC_pictureAt 0 [some (vr 3), some (vi p)] [] σ m _ σ m
  refine Ev.iload_n d_FC_pictureAt_0 rfl ?_
  refine Ev.if_lt (tgt := 27) d_FC_pictureAt_1 rfl (by first | omega | (simp [mu]; done) | (simp [mu]; omega)) (fun hb1 => by exfalso; first | omega | simp at hb1 | contradiction) (fun hb1 => ?_)
  refine Ev.iload_n d_FC_pictureAt_4 rfl ?_
  refine Ev.aload_n d_FC_pictureAt_5 rfl ?_
  refine Ev.gf 9 d_FC_pictureAt_6 lf_FC_98 rfl rfl (fi_3 hF) (by decide) ?_
  rw [hS1]
  refine Ev.icmp_ge (tgt := 27) d_FC_pictureAt_9 rfl (by first | omega | (simp [mu]; done) | (simp [mu]; omega)) (by first | omega | (simp [mu]; done) | (simp [mu]; omega)) (fun hb9 => by exfalso; first | omega | simp at hb9 | contradiction) (fun hb9 => ?_)
  refine Ev.iload_n d_FC_pictureAt_12 rfl ?_
  refine Ev.bipush d_FC_pictureAt_13 rfl ?_
  refine Ev.icmp_ge (tgt := 27) d_FC_pictureAt_15 rfl (by first | omega | (simp [mu]; done) | (simp [mu]; omega)) (by first | omega | (simp [mu]; done) | (simp [mu]; omega)) (fun hb15 => by exfalso; first | omega | simp at hb15 | contradiction) (fun hb15 => ?_)
  refine Ev.aload_n d_FC_pictureAt_18 rfl ?_
  refine Ev.gr 0 d_FC_pictureAt_19 lf_FC_11 rfl rfl (fi_3 hF) (by decide) (fr_3_0 hF) ?_
  refine Ev.iload_n d_FC_pictureAt_22 rfl ?_
  refine Ev.aaload d_FC_pictureAt_23 (show Is σ 4 (200 + 2) 8 from fi_4 hF) (by first | omega | (simp [mu]; done) | (simp [mu]; omega)) hpa.2 ?_
  refine Ev.goto (tgt := 28) d_FC_pictureAt_24 rfl ?_
  exact Ev.to (Ev.areturn d_FC_pictureAt_28 rfl) rfl rfl
theorem c_pNo (hF : FcS σ) {S : PS} (hS : CS m S) {p : Int} (h1 : -2147483648 ≤ p ∧ p ≤ 2147483647) (hp : ¬ (0 ≤ p ∧ p < S.1)) : Call 1 m_FC_pictureAt [vr 3, vi p] σ m (some (vr (-1))) σ m := by
  have hS1 := hS.1
  have hS2 := hS.2.1
  show Ev 1 m_FC_pictureAt 0 [some (vr 3), some (vi p)] [] σ m _ σ m
  refine Ev.iload_n d_FC_pictureAt_0 rfl ?_
  refine Ev.if_lt (tgt := 27) d_FC_pictureAt_1 rfl (by first | omega | (simp [mu]; done) | (simp [mu]; omega)) (fun hb1 => ?_) (fun hb1 => ?_)
  · refine Ev.null d_FC_pictureAt_27 ?_
    exact Ev.to (Ev.areturn d_FC_pictureAt_28 rfl) rfl rfl
  · refine Ev.iload_n d_FC_pictureAt_4 rfl ?_
    refine Ev.aload_n d_FC_pictureAt_5 rfl ?_
    refine Ev.gf 9 d_FC_pictureAt_6 lf_FC_98 rfl rfl (fi_3 hF) (by decide) ?_
    rw [hS1]
    refine Ev.icmp_ge (tgt := 27) d_FC_pictureAt_9 rfl (by first | omega | (simp [mu]; done) | (simp [mu]; omega)) (by first | omega | (simp [mu]; done) | (simp [mu]; omega)) (fun hb9 => ?_) (fun hb9 => by exfalso; first | omega | simp at hb9 | contradiction)
    refine Ev.null d_FC_pictureAt_27 ?_
    exact Ev.to (Ev.areturn d_FC_pictureAt_28 rfl) rfl rfl
theorem st_new_CS {m' : Mm} {S : PS} {d : Int} {l : List Int} (hS : CS m S) (h8 : S.1 < 8) (hK : PK d l) (h9 : m' 3 9 = S.1 + 1) (hP : PicM m' (25 + 3 * S.1) d l) (f : ∀ b j : Int, 25 ≤ b → b < 25 + 3 * S.1 → m' b j = m b j) : CS m' (st_new S d l) := by
  have h0 := hS.2.1
  refine ⟨h9, by show 0 ≤ S.1 + 1 ∧ S.1 + 1 ≤ 8; omega, fun p a b => ?_⟩
  have b : p < S.1 + 1 := b
  show PicM m' (25 + 3 * p) (up S.2.1 S.1 d p) (up S.2.2 S.1 l p) ∧ PK (up S.2.1 S.1 d p) (up S.2.2 S.1 l p)
  unfold up
  by_cases e : p = S.1
  · rw [if_pos e, if_pos e, e]; exact ⟨hP, hK⟩
  · rw [if_neg e, if_neg e]
    have := hS.2.2 p a (by omega)
    exact ⟨PicM_fr this.1 (fun c j x y => f c j (by omega) (by omega)), this.2⟩
theorem c_FC_keepDraft (hF : FcS σ) {S : PS} (hS : CS m S) {d : Int} {l : List Int} (hD : PicM m 5 d l) (hK : PK d l) : ∃ m', Call 3 m_FC_keepDraft [vr 3] σ m (some (vi (if S.1 = 8 then -3 else S.1))) σ m' ∧ CS m' (if S.1 = 8 then S else st_new S d l) ∧ FrPi m m' := by
  have hS1 := hS.1
  have hS2 := hS.2.1
  by_cases h8 : S.1 = 8
  · rw [if_pos h8, if_pos h8]
    refine ⟨m, ?_, hS, FrPi.rf⟩
    show Ev 3 m_FC_keepDraft 0 [some (vr 3), none] [] σ m _ σ m
    refine Ev.aload_n d_FC_keepDraft_0 rfl ?_
    refine Ev.gf 9 d_FC_keepDraft_1 lf_FC_98 rfl rfl (fi_3 hF) (by decide) ?_
    rw [hS1]
    refine Ev.if_lt (tgt := 28) d_FC_keepDraft_4 rfl (by first | omega | (simp [mu]; done) | (simp [mu]; omega)) (fun hb4 => by exfalso; first | omega | simp at hb4 | contradiction) (fun hb4 => ?_)
    refine Ev.aload_n d_FC_keepDraft_7 rfl ?_
    refine Ev.gf 9 d_FC_keepDraft_8 lf_FC_98 rfl rfl (fi_3 hF) (by decide) ?_
    rw [hS1]
    refine Ev.bipush d_FC_keepDraft_11 rfl ?_
    refine Ev.icmp_ge (tgt := 28) d_FC_keepDraft_13 rfl (by first | omega | (simp [mu]; done) | (simp [mu]; omega)) (by first | omega | (simp [mu]; done) | (simp [mu]; omega)) (fun hb13 => ?_) (fun hb13 => by exfalso; first | omega | simp at hb13 | contradiction)
    refine Ev.null d_FC_keepDraft_28 ?_
    refine Ev.astore_1 d_FC_keepDraft_29 rfl ?_
    refine Ev.aload_n d_FC_keepDraft_30 rfl ?_
    refine Ev.ifnonnull (tgt := 37) d_FC_keepDraft_31 rfl (fun hb31 => by exfalso; first | omega | simp at hb31 | contradiction) (fun hb31 => ?_)
    refine Ev.bipush d_FC_keepDraft_34 rfl ?_
    exact Ev.to (Ev.ireturn d_FC_keepDraft_36 rfl) rfl rfl
  · rw [if_neg h8, if_neg h8]
    have hpa := pic_at hF (p := S.1) (by omega)
    obtain ⟨m1, q1, q2, q3⟩ := c_Pic_copyOf hpa.1 (pic_5 hF) (by omega) hD
    have k9 : m1 3 9 = S.1 := (q3 3 9 (by omega) (by omega) (by omega)).trans hS1
    refine ⟨mu m1 3 9 (S.1 + 1), ?_, st_new_CS hS (by omega) hK mu_s (PicM_fr q2 (fun b j x y => mu_a (by omega))) (fun b j x y => by rw [mu_a (by omega)]; exact q3 b j (by omega) (by omega) (by omega)), fun b j x y z => by rw [mu_n (by omega)]; exact q3 b j (by omega) (by omega) (by omega)⟩
    have k9' : mu m1 3 9 (S.1 + 1) 3 9 = S.1 + 1 := mu_s
    show Ev 3 m_FC_keepDraft 0 [some (vr 3), none] [] σ m _ σ _
    refine Ev.aload_n d_FC_keepDraft_0 rfl ?_
    refine Ev.gf 9 d_FC_keepDraft_1 lf_FC_98 rfl rfl (fi_3 hF) (by decide) ?_
    rw [hS1]
    refine Ev.if_lt (tgt := 28) d_FC_keepDraft_4 rfl (by first | omega | (simp [mu]; done) | (simp [mu]; omega)) (fun hb4 => by exfalso; first | omega | simp at hb4 | contradiction) (fun hb4 => ?_)
    refine Ev.aload_n d_FC_keepDraft_7 rfl ?_
    refine Ev.gf 9 d_FC_keepDraft_8 lf_FC_98 rfl rfl (fi_3 hF) (by decide) ?_
    rw [hS1]
    refine Ev.bipush d_FC_keepDraft_11 rfl ?_
    refine Ev.icmp_ge (tgt := 28) d_FC_keepDraft_13 rfl (by first | omega | (simp [mu]; done) | (simp [mu]; omega)) (by first | omega | (simp [mu]; done) | (simp [mu]; omega)) (fun hb13 => by exfalso; first | omega | simp at hb13 | contradiction) (fun hb13 => ?_)
    refine Ev.aload_n d_FC_keepDraft_16 rfl ?_
    refine Ev.gr 0 d_FC_keepDraft_17 lf_FC_11 rfl rfl (fi_3 hF) (by decide) (fr_3_0 hF) ?_
    refine Ev.aload_n d_FC_keepDraft_20 rfl ?_
    refine Ev.gf 9 d_FC_keepDraft_21 lf_FC_98 rfl rfl (fi_3 hF) (by decide) ?_
    rw [hS1]
    refine Ev.aaload d_FC_keepDraft_24 (show Is σ 4 (200 + 2) 8 from fi_4 hF) (by first | omega | (simp [mu]; done) | (simp [mu]; omega)) hpa.2 ?_
    refine Ev.goto (tgt := 29) d_FC_keepDraft_25 rfl ?_
    refine Ev.astore_1 d_FC_keepDraft_29 rfl ?_
    refine Ev.aload_n d_FC_keepDraft_30 rfl ?_
    refine Ev.ifnonnull (tgt := 37) d_FC_keepDraft_31 rfl (fun hb31 => ?_) (fun hb31 => by exfalso; first | omega | simp at hb31 | contradiction)
    refine Ev.aload_n d_FC_keepDraft_37 rfl ?_
    refine Ev.aload_n d_FC_keepDraft_38 rfl ?_
    refine Ev.gr 1 d_FC_keepDraft_39 lf_FC_16 rfl rfl (fi_3 hF) (by decide) (fr_3_1 hF) ?_
    refine Ev.callVv d_FC_keepDraft_42 mt_Pic_copyOf lk_FC_263 in_Pic_copyOf se_Pic_copyOf rfl (Nat.le_of_ble_eq_true rfl) rfl (Nat.le_of_ble_eq_true rfl) (by decide) hpa.1.2.1 (by decide) rfl rfl q1 ?_
    refine Ev.aload_n d_FC_keepDraft_45 rfl ?_
    refine Ev.dup d_FC_keepDraft_46 rfl ?_
    refine Ev.gf 9 d_FC_keepDraft_47 lf_FC_98 rfl rfl (fi_3 hF) (by decide) ?_
    rw [k9]
    refine Ev.iconst d_FC_keepDraft_50 ?_
    refine Ev.iadd d_FC_keepDraft_51 ?_
    refine Ev.pf 9 d_FC_keepDraft_52 lf_FC_98 rfl rfl rfl rfl (fi_3 hF) (by decide) ?_
    refine Ev.aload_n d_FC_keepDraft_55 rfl ?_
    refine Ev.gf 9 d_FC_keepDraft_56 lf_FC_98 rfl rfl (fi_3 hF) (by decide) ?_
    rw [k9']
    refine Ev.iconst d_FC_keepDraft_59 ?_
    refine Ev.isub d_FC_keepDraft_60 ?_
    exact Ev.to (Ev.ireturn d_FC_keepDraft_61 rfl) (ri (by omega)) rfl
theorem c_FC_picture (hF : FcS σ) {S : PS} (hS : CS m S) (hR : SR σ m) {d : Int} (h1 : -2147483648 ≤ d ∧ d ≤ 2147483647) : ∃ m', Call 4 m_FC_picture [vr 3, vi d] σ m (some (vi (sp_picture S d))) σ m' ∧ CS m' (st_picture S d) ∧ FrPi m m' := by
  unfold sp_picture st_picture
  by_cases hd : 1 ≤ d ∧ d ≤ 4
  · rw [if_pos hd]
    obtain ⟨m1, q1, q2, q3⟩ := c_Pic_clear (m := m) (pic_5 hF) hd
    have hS' : CS m1 S := CS_fr hS (fun b j h => q3 b j (by omega) (by omega) (by omega))
    obtain ⟨m2, k1, k2, k3⟩ := c_FC_keepDraft hF hS' q2 ⟨hd, by simp, List.Pairwise.nil, fun s h => by cases h⟩
    refine ⟨m2, ?_, ?_, fun b j x y z => (k3 b j x y z).trans (q3 b j (by omega) (by omega) (by omega))⟩
    rotate_left
    · by_cases h8 : S.1 = 8
      · rw [if_neg (fun h => h.2 h8)]; rw [if_pos h8] at k2; exact k2
      · rw [if_pos ⟨hd, h8⟩]; rw [if_neg h8] at k2; exact k2
    show Ev 4 m_FC_picture 0 [some (vr 3), some (vi d)] [] σ m _ σ _
    refine Ev.iload_n d_FC_picture_0 rfl ?_
    refine Ev.callS d_FC_picture_1 mt_FC_isDegree lk_FC_65 st_FC_isDegree rfl (Nat.le_of_ble_eq_true rfl) rfl (Nat.le_of_ble_eq_true rfl) (by decide) rfl (c_FC_isDegree (by omega)) ?_
    refine Ev.if_ne (tgt := 9) d_FC_picture_4 rfl b01_b (fun hb4 => ?_) (fun hb4 => by exfalso; (first | rw [b01_ne] at hb4 | rw [b01_eq] at hb4); omega)
    rw [b01_ne] at hb4
    refine Ev.aload_n d_FC_picture_9 rfl ?_
    refine Ev.gr 1 d_FC_picture_10 lf_FC_16 rfl rfl (fi_3 hF) (by decide) (fr_3_1 hF) ?_
    refine Ev.iload_n d_FC_picture_13 rfl ?_
    refine Ev.callVv d_FC_picture_14 mt_Pic_clear lk_FC_69 in_Pic_clear se_Pic_clear rfl (Nat.le_of_ble_eq_true rfl) rfl (Nat.le_of_ble_eq_true rfl) (by decide) (fi_5 hF) (by decide) rfl rfl q1 ?_
    refine Ev.aload_n d_FC_picture_17 rfl ?_
    refine Ev.callV d_FC_picture_18 mt_FC_keepDraft lk_FC_73 in_FC_keepDraft se_FC_keepDraft rfl (Nat.le_of_ble_eq_true rfl) rfl (Nat.le_of_ble_eq_true rfl) (by decide) (fi_3 hF) (by decide) rfl rfl k1 ?_
    exact Ev.to (Ev.ireturn d_FC_picture_21 rfl) rfl rfl
  · rw [if_neg hd, if_neg (fun h => hd h.1)]
    refine ⟨m, ?_, hS, FrPi.rf⟩
    show Ev 4 m_FC_picture 0 [some (vr 3), some (vi d)] [] σ m _ σ _
    refine Ev.iload_n d_FC_picture_0 rfl ?_
    refine Ev.callS d_FC_picture_1 mt_FC_isDegree lk_FC_65 st_FC_isDegree rfl (Nat.le_of_ble_eq_true rfl) rfl (Nat.le_of_ble_eq_true rfl) (by decide) rfl (c_FC_isDegree (by omega)) ?_
    refine Ev.if_ne (tgt := 9) d_FC_picture_4 rfl b01_b (fun hb4 => by exfalso; (first | rw [b01_ne] at hb4 | rw [b01_eq] at hb4); omega) (fun hb4 => ?_)
    rw [b01_eq] at hb4
    refine Ev.iconst d_FC_picture_7 ?_
    exact Ev.to (Ev.ireturn d_FC_picture_8 rfl) rfl rfl
theorem c_FC_drop (hF : FcS σ) {S : PS} (hS : CS m S) : ∃ m', Call 1 m_FC_drop [vr 3] σ m (some (vi (sp_drop S))) σ m' ∧ CS m' (st_drop S) ∧ FrPi m m' := by
  have hS1 := hS.1
  have hS2 := hS.2.1
  unfold sp_drop st_drop
  by_cases h0 : S.1 = 0
  · rw [if_pos h0, if_pos h0]
    refine ⟨m, ?_, hS, FrPi.rf⟩
    show Ev 1 m_FC_drop 0 [some (vr 3)] [] σ m _ σ _
    refine Ev.aload_n d_FC_drop_0 rfl ?_
    refine Ev.gf 9 d_FC_drop_1 lf_FC_98 rfl rfl (fi_3 hF) (by decide) ?_
    rw [hS1]
    refine Ev.if_gt (tgt := 10) d_FC_drop_4 rfl (by first | omega | (simp [mu]; done) | (simp [mu]; omega)) (fun hb4 => by exfalso; first | omega | simp at hb4 | contradiction) (fun hb4 => ?_)
    refine Ev.bipush d_FC_drop_7 rfl ?_
    exact Ev.to (Ev.ireturn d_FC_drop_9 rfl) rfl rfl
  · rw [if_neg h0, if_neg h0]
    refine ⟨mu m 3 9 (S.1 - 1), ?_, ⟨mu_s, by show 0 ≤ S.1 - 1 ∧ S.1 - 1 ≤ 8; omega, fun p a b => ?_⟩, fun b j x y z => mu_n (by omega)⟩
    rotate_left
    · have b : p < S.1 - 1 := b
      have := hS.2.2 p a (by omega)
      exact ⟨PicM_fr this.1 (fun c j x y => mu_a (by omega)), this.2⟩
    show Ev 1 m_FC_drop 0 [some (vr 3)] [] σ m _ σ _
    refine Ev.aload_n d_FC_drop_0 rfl ?_
    refine Ev.gf 9 d_FC_drop_1 lf_FC_98 rfl rfl (fi_3 hF) (by decide) ?_
    rw [hS1]
    refine Ev.if_gt (tgt := 10) d_FC_drop_4 rfl (by first | omega | (simp [mu]; done) | (simp [mu]; omega)) (fun hb4 => ?_) (fun hb4 => by exfalso; first | omega | simp at hb4 | contradiction)
    refine Ev.aload_n d_FC_drop_10 rfl ?_
    refine Ev.dup d_FC_drop_11 rfl ?_
    refine Ev.gf 9 d_FC_drop_12 lf_FC_98 rfl rfl (fi_3 hF) (by decide) ?_
    rw [hS1]
    refine Ev.iconst d_FC_drop_15 ?_
    refine Ev.isub d_FC_drop_16 ?_
    refine Ev.pf 9 d_FC_drop_17 lf_FC_98 rfl rfl rfl rfl (fi_3 hF) (by decide) ?_
    refine Ev.aload_n d_FC_drop_20 rfl ?_
    refine Ev.gf 9 d_FC_drop_21 lf_FC_98 rfl rfl (fi_3 hF) (by decide) ?_
    rw [show mu m 3 9 (S.1 - 1) 3 9 = S.1 - 1 from mu_s]
    exact Ev.to (Ev.ireturn d_FC_drop_24 rfl) rfl rfl
theorem st_set_CS {m' : Mm} {S : PS} {p : Int} {l : List Int} (hS : CS m S) (hp : 0 ≤ p ∧ p < S.1) (hK : PK (S.2.1 p) l) (hP : PicM m' (25 + 3 * p) (S.2.1 p) l) (f : FrA (25 + 3 * p) m m') : CS m' (S.1, up S.2.1 p (S.2.1 p), up S.2.2 p l) := by
  have h0 := hS.2.1
  refine ⟨(f _ _ (by omega) (by omega) (by omega)).trans hS.1, h0, fun q a b => ?_⟩
  have b : q < S.1 := b
  show PicM m' (25 + 3 * q) (up S.2.1 p (S.2.1 p) q) (up S.2.2 p l q) ∧ PK (up S.2.1 p (S.2.1 p) q) (up S.2.2 p l q)
  unfold up
  by_cases e : q = p
  · rw [if_pos e, if_pos e, e]; exact ⟨hP, hK⟩
  · rw [if_neg e, if_neg e]
    have := hS.2.2 q a b
    exact ⟨PicM_fr this.1 (fun c j x y => f c j (by omega) (by omega) (by omega)), this.2⟩
theorem c_FC_stair (hF : FcS σ) {S : PS} (hS : CS m S) (hR : SR σ m) {p i j w : Int} (h1 : -2147483648 ≤ p ∧ p ≤ 2147483647) (h2 : -2147483648 ≤ i ∧ i ≤ 2147483647) (h3 : -2147483648 ≤ j ∧ j ≤ 2147483647) (h4 : -2147483648 ≤ w ∧ w ≤ 2147483647) : ∃ m', Call 4 m_FC_stair [vr 3, vi p, vi i, vi j, vi w] σ m (some (vi (sp_stair S p i j w))) σ m' ∧ CS m' (st_stair S p i j w) ∧ FrPi m m' := by
  have hS2 := hS.2.1
  unfold sp_stair st_stair
  by_cases hp : 0 ≤ p ∧ p < S.1
  · obtain ⟨hPM, hK⟩ := hS.2.2 p hp.1 hp.2
    have hpa := (pic_at hF (p := p) (by omega)).1
    have hd := hK.1
    have h6 := hK.2.1
    have cs := c_Pic_spotOf hR hpa hPM hd h2 h3 h4
    by_cases hc : 0 ≤ i ∧ i < j ∧ j < S.2.1 p ∧ 1 ≤ w ∧ w ≤ 4
    · rw [if_pos hc] at cs
      have hso := spot_ok hd.2 hc
      have hs24 : 0 ≤ spot i j w ∧ spot i j w < 24 := hso.2.2.2
      rw [if_pos ⟨hp, hc⟩]
      by_cases hl : (S.2.2 p).length = 6
      · rw [if_pos hl, if_neg (fun h => h.2 hl)]
        refine ⟨m, ?_, hS, FrPi.rf⟩
        show Ev 4 m_FC_stair 0 [some (vr 3), some (vi p), some (vi i), some (vi j), some (vi w), none, none] [] σ m _ σ _
        refine Ev.aload_n d_FC_stair_0 rfl ?_
        refine Ev.iload_n d_FC_stair_1 rfl ?_
        refine Ev.callV d_FC_stair_2 mt_FC_pictureAt lk_FC_77 in_FC_pictureAt se_FC_pictureAt rfl (Nat.le_of_ble_eq_true rfl) rfl (Nat.le_of_ble_eq_true rfl) (by decide) (fi_3 hF) (by decide) rfl rfl (c_pAt hF hS hp) ?_
        refine Ev.astore_5 d_FC_stair_5 rfl ?_
        refine Ev.aload d_FC_stair_7 rfl ?_
        refine Ev.ifnonnull (tgt := 14) d_FC_stair_9 rfl (fun hb9 => ?_) (fun hb9 => by exfalso; first | omega | simp at hb9 | contradiction)
        refine Ev.aload d_FC_stair_14 rfl ?_
        refine Ev.iload_n d_FC_stair_16 rfl ?_
        refine Ev.iload_n d_FC_stair_17 rfl ?_
        refine Ev.iload d_FC_stair_18 rfl ?_
        refine Ev.callV d_FC_stair_20 mt_Pic_spotOf lk_FC_81 in_Pic_spotOf se_Pic_spotOf rfl (Nat.le_of_ble_eq_true rfl) rfl (Nat.le_of_ble_eq_true rfl) (by decide) hpa.2.1 (by decide) rfl rfl cs ?_
        refine Ev.istore_6 d_FC_stair_23 rfl ?_
        refine Ev.iload d_FC_stair_25 rfl ?_
        refine Ev.if_ge (tgt := 32) d_FC_stair_27 rfl (by first | omega | (simp [mu]; done) | (simp [mu]; omega)) (fun hb27 => ?_) (fun hb27 => by exfalso; first | omega | simp at hb27 | contradiction)
        refine Ev.aload d_FC_stair_32 rfl ?_
        refine Ev.callV d_FC_stair_34 mt_Pic_stairCount lk_FC_85 in_Pic_stairCount se_Pic_stairCount rfl (Nat.le_of_ble_eq_true rfl) rfl (Nat.le_of_ble_eq_true rfl) (by decide) hpa.2.1 (by decide) rfl rfl (c_Pic_stairCount hpa hPM) ?_
        refine Ev.bipush d_FC_stair_37 rfl ?_
        refine Ev.icmp_lt (tgt := 45) d_FC_stair_39 rfl (by first | omega | (simp [mu]; done) | (simp [mu]; omega)) (by first | omega | (simp [mu]; done) | (simp [mu]; omega)) (fun hb39 => by exfalso; first | omega | simp at hb39 | contradiction) (fun hb39 => ?_)
        refine Ev.bipush d_FC_stair_42 rfl ?_
        exact Ev.to (Ev.ireturn d_FC_stair_44 rfl) rfl rfl
      · rw [if_neg hl, if_pos ⟨⟨hp, hc⟩, hl⟩]
        obtain ⟨m1, q1, q2, q3⟩ := c_Pic_add hR hpa hPM hs24 (Adds_ins (spot i j w) (S.2.2 p))
        have el := ins_len (spot i j w) (S.2.2 p)
        refine ⟨m1, ?_, st_set_CS hS hp (ins_PK hK hc (by omega)) q2 q3, fun b j x y z => q3 b j (by omega) (by omega) (by omega)⟩
        show Ev 4 m_FC_stair 0 [some (vr 3), some (vi p), some (vi i), some (vi j), some (vi w), none, none] [] σ m _ σ _
        refine Ev.aload_n d_FC_stair_0 rfl ?_
        refine Ev.iload_n d_FC_stair_1 rfl ?_
        refine Ev.callV d_FC_stair_2 mt_FC_pictureAt lk_FC_77 in_FC_pictureAt se_FC_pictureAt rfl (Nat.le_of_ble_eq_true rfl) rfl (Nat.le_of_ble_eq_true rfl) (by decide) (fi_3 hF) (by decide) rfl rfl (c_pAt hF hS hp) ?_
        refine Ev.astore_5 d_FC_stair_5 rfl ?_
        refine Ev.aload d_FC_stair_7 rfl ?_
        refine Ev.ifnonnull (tgt := 14) d_FC_stair_9 rfl (fun hb9 => ?_) (fun hb9 => by exfalso; first | omega | simp at hb9 | contradiction)
        refine Ev.aload d_FC_stair_14 rfl ?_
        refine Ev.iload_n d_FC_stair_16 rfl ?_
        refine Ev.iload_n d_FC_stair_17 rfl ?_
        refine Ev.iload d_FC_stair_18 rfl ?_
        refine Ev.callV d_FC_stair_20 mt_Pic_spotOf lk_FC_81 in_Pic_spotOf se_Pic_spotOf rfl (Nat.le_of_ble_eq_true rfl) rfl (Nat.le_of_ble_eq_true rfl) (by decide) hpa.2.1 (by decide) rfl rfl cs ?_
        refine Ev.istore_6 d_FC_stair_23 rfl ?_
        refine Ev.iload d_FC_stair_25 rfl ?_
        refine Ev.if_ge (tgt := 32) d_FC_stair_27 rfl (by first | omega | (simp [mu]; done) | (simp [mu]; omega)) (fun hb27 => ?_) (fun hb27 => by exfalso; first | omega | simp at hb27 | contradiction)
        refine Ev.aload d_FC_stair_32 rfl ?_
        refine Ev.callV d_FC_stair_34 mt_Pic_stairCount lk_FC_85 in_Pic_stairCount se_Pic_stairCount rfl (Nat.le_of_ble_eq_true rfl) rfl (Nat.le_of_ble_eq_true rfl) (by decide) hpa.2.1 (by decide) rfl rfl (c_Pic_stairCount hpa hPM) ?_
        refine Ev.bipush d_FC_stair_37 rfl ?_
        refine Ev.icmp_lt (tgt := 45) d_FC_stair_39 rfl (by first | omega | (simp [mu]; done) | (simp [mu]; omega)) (by first | omega | (simp [mu]; done) | (simp [mu]; omega)) (fun hb39 => ?_) (fun hb39 => by exfalso; first | omega | simp at hb39 | contradiction)
        refine Ev.aload d_FC_stair_45 rfl ?_
        refine Ev.iload d_FC_stair_47 rfl ?_
        refine Ev.callVv d_FC_stair_49 mt_Pic_add lk_FC_88 in_Pic_add se_Pic_add rfl (Nat.le_of_ble_eq_true rfl) rfl (Nat.le_of_ble_eq_true rfl) (by decide) hpa.2.1 (by decide) rfl rfl q1 ?_
        refine Ev.aload d_FC_stair_52 rfl ?_
        refine Ev.callV d_FC_stair_54 mt_Pic_stairCount lk_FC_85 in_Pic_stairCount se_Pic_stairCount rfl (Nat.le_of_ble_eq_true rfl) rfl (Nat.le_of_ble_eq_true rfl) (by decide) hpa.2.1 (by decide) rfl rfl (c_Pic_stairCount hpa q2) ?_
        exact Ev.to (Ev.ireturn d_FC_stair_57 rfl) (ri (by omega)) rfl
    · rw [if_neg hc] at cs
      rw [if_neg (fun h => hc h.2), if_neg (fun h => hc h.1.2)]
      refine ⟨m, ?_, hS, FrPi.rf⟩
      show Ev 4 m_FC_stair 0 [some (vr 3), some (vi p), some (vi i), some (vi j), some (vi w), none, none] [] σ m _ σ _
      refine Ev.aload_n d_FC_stair_0 rfl ?_
      refine Ev.iload_n d_FC_stair_1 rfl ?_
      refine Ev.callV d_FC_stair_2 mt_FC_pictureAt lk_FC_77 in_FC_pictureAt se_FC_pictureAt rfl (Nat.le_of_ble_eq_true rfl) rfl (Nat.le_of_ble_eq_true rfl) (by decide) (fi_3 hF) (by decide) rfl rfl (c_pAt hF hS hp) ?_
      refine Ev.astore_5 d_FC_stair_5 rfl ?_
      refine Ev.aload d_FC_stair_7 rfl ?_
      refine Ev.ifnonnull (tgt := 14) d_FC_stair_9 rfl (fun hb9 => ?_) (fun hb9 => by exfalso; first | omega | simp at hb9 | contradiction)
      refine Ev.aload d_FC_stair_14 rfl ?_
      refine Ev.iload_n d_FC_stair_16 rfl ?_
      refine Ev.iload_n d_FC_stair_17 rfl ?_
      refine Ev.iload d_FC_stair_18 rfl ?_
      refine Ev.callV d_FC_stair_20 mt_Pic_spotOf lk_FC_81 in_Pic_spotOf se_Pic_spotOf rfl (Nat.le_of_ble_eq_true rfl) rfl (Nat.le_of_ble_eq_true rfl) (by decide) hpa.2.1 (by decide) rfl rfl cs ?_
      refine Ev.istore_6 d_FC_stair_23 rfl ?_
      refine Ev.iload d_FC_stair_25 rfl ?_
      refine Ev.if_ge (tgt := 32) d_FC_stair_27 rfl (by first | omega | (simp [mu]; done) | (simp [mu]; omega)) (fun hb27 => by exfalso; first | omega | simp at hb27 | contradiction) (fun hb27 => ?_)
      refine Ev.iconst d_FC_stair_30 ?_
      exact Ev.to (Ev.ireturn d_FC_stair_31 rfl) rfl rfl
  · rw [if_neg (fun h => hp h.1), if_neg (fun h => hp h.1.1)]
    refine ⟨m, ?_, hS, FrPi.rf⟩
    show Ev 4 m_FC_stair 0 [some (vr 3), some (vi p), some (vi i), some (vi j), some (vi w), none, none] [] σ m _ σ _
    refine Ev.aload_n d_FC_stair_0 rfl ?_
    refine Ev.iload_n d_FC_stair_1 rfl ?_
    refine Ev.callV d_FC_stair_2 mt_FC_pictureAt lk_FC_77 in_FC_pictureAt se_FC_pictureAt rfl (Nat.le_of_ble_eq_true rfl) rfl (Nat.le_of_ble_eq_true rfl) (by decide) (fi_3 hF) (by decide) rfl rfl (c_pNo hF hS h1 hp) ?_
    refine Ev.astore_5 d_FC_stair_5 rfl ?_
    refine Ev.aload d_FC_stair_7 rfl ?_
    refine Ev.ifnonnull (tgt := 14) d_FC_stair_9 rfl (fun hb9 => by exfalso; first | omega | simp at hb9 | contradiction) (fun hb9 => ?_)
    refine Ev.iconst d_FC_stair_12 ?_
    exact Ev.to (Ev.ireturn d_FC_stair_13 rfl) rfl rfl
theorem c_FC_cut (hF : FcS σ) {S : PS} (hS : CS m S) (hR : SR σ m) {p i j w : Int} (h1 : -2147483648 ≤ p ∧ p ≤ 2147483647) (h2 : -2147483648 ≤ i ∧ i ≤ 2147483647) (h3 : -2147483648 ≤ j ∧ j ≤ 2147483647) (h4 : -2147483648 ≤ w ∧ w ≤ 2147483647) : ∃ m', Call 4 m_FC_cut [vr 3, vi p, vi i, vi j, vi w] σ m (some (vi (sp_cut S p i j w))) σ m' ∧ CS m' (st_cut S p i j w) ∧ FrPi m m' := by
  have hS2 := hS.2.1
  unfold sp_cut st_cut
  by_cases hp : 0 ≤ p ∧ p < S.1
  · obtain ⟨hPM, hK⟩ := hS.2.2 p hp.1 hp.2
    have hpa := (pic_at hF (p := p) (by omega)).1
    have hd := hK.1
    have h6 := hK.2.1
    have cs := c_Pic_spotOf hR hpa hPM hd h2 h3 h4
    by_cases hc : 0 ≤ i ∧ i < j ∧ j < S.2.1 p ∧ 1 ≤ w ∧ w ≤ 4
    · rw [if_pos hc] at cs
      have hso := spot_ok hd.2 hc
      have hs24 : 0 ≤ spot i j w ∧ spot i j w < 24 := hso.2.2.2
      rw [if_pos ⟨hp, hc⟩]
      have ca := c_Pic_amountAt hpa hPM hs24
      have hcb := cn_b (spot i j w) (S.2.2 p)
      by_cases hl : spot i j w ∈ S.2.2 p
      · rw [if_pos hl, if_pos ⟨⟨hp, hc⟩, hl⟩]
        have hcp := cn_mem.mp hl
        obtain ⟨m1, q1, q2, q3⟩ := c_Pic_remove hR hpa hPM hs24 (Adds_del (spot i j w) (S.2.2 p) hl)
        have el := del_len hl
        refine ⟨m1, ?_, st_set_CS hS hp (del_PK hK hl) q2 q3, fun b j x y z => q3 b j (by omega) (by omega) (by omega)⟩
        show Ev 4 m_FC_cut 0 [some (vr 3), some (vi p), some (vi i), some (vi j), some (vi w), none, none] [] σ m _ σ _
        refine Ev.aload_n d_FC_cut_0 rfl ?_
        refine Ev.iload_n d_FC_cut_1 rfl ?_
        refine Ev.callV d_FC_cut_2 mt_FC_pictureAt lk_FC_77 in_FC_pictureAt se_FC_pictureAt rfl (Nat.le_of_ble_eq_true rfl) rfl (Nat.le_of_ble_eq_true rfl) (by decide) (fi_3 hF) (by decide) rfl rfl (c_pAt hF hS hp) ?_
        refine Ev.astore_5 d_FC_cut_5 rfl ?_
        refine Ev.aload d_FC_cut_7 rfl ?_
        refine Ev.ifnonnull (tgt := 14) d_FC_cut_9 rfl (fun hb9 => ?_) (fun hb9 => by exfalso; first | omega | simp at hb9 | contradiction)
        refine Ev.aload d_FC_cut_14 rfl ?_
        refine Ev.iload_n d_FC_cut_16 rfl ?_
        refine Ev.iload_n d_FC_cut_17 rfl ?_
        refine Ev.iload d_FC_cut_18 rfl ?_
        refine Ev.callV d_FC_cut_20 mt_Pic_spotOf lk_FC_81 in_Pic_spotOf se_Pic_spotOf rfl (Nat.le_of_ble_eq_true rfl) rfl (Nat.le_of_ble_eq_true rfl) (by decide) hpa.2.1 (by decide) rfl rfl cs ?_
        refine Ev.istore_6 d_FC_cut_23 rfl ?_
        refine Ev.iload d_FC_cut_25 rfl ?_
        refine Ev.if_ge (tgt := 32) d_FC_cut_27 rfl (by first | omega | (simp [mu]; done) | (simp [mu]; omega)) (fun hb27 => ?_) (fun hb27 => by exfalso; first | omega | simp at hb27 | contradiction)
        refine Ev.aload d_FC_cut_32 rfl ?_
        refine Ev.iload d_FC_cut_34 rfl ?_
        refine Ev.callV d_FC_cut_36 mt_Pic_amountAt lk_FC_91 in_Pic_amountAt se_Pic_amountAt rfl (Nat.le_of_ble_eq_true rfl) rfl (Nat.le_of_ble_eq_true rfl) (by decide) hpa.2.1 (by decide) rfl rfl ca ?_
        refine Ev.if_ne (tgt := 45) d_FC_cut_39 rfl (by first | omega | (simp [mu]; done) | (simp [mu]; omega)) (fun hb39 => ?_) (fun hb39 => by exfalso; first | omega | simp at hb39 | contradiction)
        refine Ev.aload d_FC_cut_45 rfl ?_
        refine Ev.iload d_FC_cut_47 rfl ?_
        refine Ev.callVv d_FC_cut_49 mt_Pic_remove lk_FC_95 in_Pic_remove se_Pic_remove rfl (Nat.le_of_ble_eq_true rfl) rfl (Nat.le_of_ble_eq_true rfl) (by decide) hpa.2.1 (by decide) rfl rfl q1 ?_
        refine Ev.aload d_FC_cut_52 rfl ?_
        refine Ev.callV d_FC_cut_54 mt_Pic_stairCount lk_FC_85 in_Pic_stairCount se_Pic_stairCount rfl (Nat.le_of_ble_eq_true rfl) rfl (Nat.le_of_ble_eq_true rfl) (by decide) hpa.2.1 (by decide) rfl rfl (c_Pic_stairCount hpa q2) ?_
        exact Ev.to (Ev.ireturn d_FC_cut_57 rfl) (ri (by omega)) rfl
      · rw [if_neg hl, if_neg (fun h => hl h.2)]
        have hcp : ¬ 0 < cn (spot i j w) (S.2.2 p) := fun h => hl (cn_mem.mpr h)
        refine ⟨m, ?_, hS, FrPi.rf⟩
        show Ev 4 m_FC_cut 0 [some (vr 3), some (vi p), some (vi i), some (vi j), some (vi w), none, none] [] σ m _ σ _
        refine Ev.aload_n d_FC_cut_0 rfl ?_
        refine Ev.iload_n d_FC_cut_1 rfl ?_
        refine Ev.callV d_FC_cut_2 mt_FC_pictureAt lk_FC_77 in_FC_pictureAt se_FC_pictureAt rfl (Nat.le_of_ble_eq_true rfl) rfl (Nat.le_of_ble_eq_true rfl) (by decide) (fi_3 hF) (by decide) rfl rfl (c_pAt hF hS hp) ?_
        refine Ev.astore_5 d_FC_cut_5 rfl ?_
        refine Ev.aload d_FC_cut_7 rfl ?_
        refine Ev.ifnonnull (tgt := 14) d_FC_cut_9 rfl (fun hb9 => ?_) (fun hb9 => by exfalso; first | omega | simp at hb9 | contradiction)
        refine Ev.aload d_FC_cut_14 rfl ?_
        refine Ev.iload_n d_FC_cut_16 rfl ?_
        refine Ev.iload_n d_FC_cut_17 rfl ?_
        refine Ev.iload d_FC_cut_18 rfl ?_
        refine Ev.callV d_FC_cut_20 mt_Pic_spotOf lk_FC_81 in_Pic_spotOf se_Pic_spotOf rfl (Nat.le_of_ble_eq_true rfl) rfl (Nat.le_of_ble_eq_true rfl) (by decide) hpa.2.1 (by decide) rfl rfl cs ?_
        refine Ev.istore_6 d_FC_cut_23 rfl ?_
        refine Ev.iload d_FC_cut_25 rfl ?_
        refine Ev.if_ge (tgt := 32) d_FC_cut_27 rfl (by first | omega | (simp [mu]; done) | (simp [mu]; omega)) (fun hb27 => ?_) (fun hb27 => by exfalso; first | omega | simp at hb27 | contradiction)
        refine Ev.aload d_FC_cut_32 rfl ?_
        refine Ev.iload d_FC_cut_34 rfl ?_
        refine Ev.callV d_FC_cut_36 mt_Pic_amountAt lk_FC_91 in_Pic_amountAt se_Pic_amountAt rfl (Nat.le_of_ble_eq_true rfl) rfl (Nat.le_of_ble_eq_true rfl) (by decide) hpa.2.1 (by decide) rfl rfl ca ?_
        refine Ev.if_ne (tgt := 45) d_FC_cut_39 rfl (by first | omega | (simp [mu]; done) | (simp [mu]; omega)) (fun hb39 => by exfalso; first | omega | simp at hb39 | contradiction) (fun hb39 => ?_)
        refine Ev.bipush d_FC_cut_42 rfl ?_
        exact Ev.to (Ev.ireturn d_FC_cut_44 rfl) rfl rfl
    · rw [if_neg hc] at cs
      rw [if_neg (fun h => hc h.2), if_neg (fun h => hc h.1.2)]
      refine ⟨m, ?_, hS, FrPi.rf⟩
      show Ev 4 m_FC_cut 0 [some (vr 3), some (vi p), some (vi i), some (vi j), some (vi w), none, none] [] σ m _ σ _
      refine Ev.aload_n d_FC_cut_0 rfl ?_
      refine Ev.iload_n d_FC_cut_1 rfl ?_
      refine Ev.callV d_FC_cut_2 mt_FC_pictureAt lk_FC_77 in_FC_pictureAt se_FC_pictureAt rfl (Nat.le_of_ble_eq_true rfl) rfl (Nat.le_of_ble_eq_true rfl) (by decide) (fi_3 hF) (by decide) rfl rfl (c_pAt hF hS hp) ?_
      refine Ev.astore_5 d_FC_cut_5 rfl ?_
      refine Ev.aload d_FC_cut_7 rfl ?_
      refine Ev.ifnonnull (tgt := 14) d_FC_cut_9 rfl (fun hb9 => ?_) (fun hb9 => by exfalso; first | omega | simp at hb9 | contradiction)
      refine Ev.aload d_FC_cut_14 rfl ?_
      refine Ev.iload_n d_FC_cut_16 rfl ?_
      refine Ev.iload_n d_FC_cut_17 rfl ?_
      refine Ev.iload d_FC_cut_18 rfl ?_
      refine Ev.callV d_FC_cut_20 mt_Pic_spotOf lk_FC_81 in_Pic_spotOf se_Pic_spotOf rfl (Nat.le_of_ble_eq_true rfl) rfl (Nat.le_of_ble_eq_true rfl) (by decide) hpa.2.1 (by decide) rfl rfl cs ?_
      refine Ev.istore_6 d_FC_cut_23 rfl ?_
      refine Ev.iload d_FC_cut_25 rfl ?_
      refine Ev.if_ge (tgt := 32) d_FC_cut_27 rfl (by first | omega | (simp [mu]; done) | (simp [mu]; omega)) (fun hb27 => by exfalso; first | omega | simp at hb27 | contradiction) (fun hb27 => ?_)
      refine Ev.iconst d_FC_cut_30 ?_
      exact Ev.to (Ev.ireturn d_FC_cut_31 rfl) rfl rfl
  · rw [if_neg (fun h => hp h.1), if_neg (fun h => hp h.1.1)]
    refine ⟨m, ?_, hS, FrPi.rf⟩
    show Ev 4 m_FC_cut 0 [some (vr 3), some (vi p), some (vi i), some (vi j), some (vi w), none, none] [] σ m _ σ _
    refine Ev.aload_n d_FC_cut_0 rfl ?_
    refine Ev.iload_n d_FC_cut_1 rfl ?_
    refine Ev.callV d_FC_cut_2 mt_FC_pictureAt lk_FC_77 in_FC_pictureAt se_FC_pictureAt rfl (Nat.le_of_ble_eq_true rfl) rfl (Nat.le_of_ble_eq_true rfl) (by decide) (fi_3 hF) (by decide) rfl rfl (c_pNo hF hS h1 hp) ?_
    refine Ev.astore_5 d_FC_cut_5 rfl ?_
    refine Ev.aload d_FC_cut_7 rfl ?_
    refine Ev.ifnonnull (tgt := 14) d_FC_cut_9 rfl (fun hb9 => by exfalso; first | omega | simp at hb9 | contradiction) (fun hb9 => ?_)
    refine Ev.iconst d_FC_cut_12 ?_
    exact Ev.to (Ev.ireturn d_FC_cut_13 rfl) rfl rfl
theorem c_FC_about (hF : FcS σ) {S : PS} (hS : CS m S) (hR : SR σ m) {p what : Int} (h1 : -2147483648 ≤ p ∧ p ≤ 2147483647) (h2 : -2147483648 ≤ what ∧ what ≤ 2147483647) : Call 4 m_FC_about [vr 3, vi p, vi what] σ m (some (vi (sp_about S p what))) σ m := by
  have hS2 := hS.2.1
  unfold sp_about
  show Ev 4 m_FC_about 0 [some (vr 3), some (vi p), some (vi what), none] [] σ m _ σ m
  by_cases hp : 0 ≤ p ∧ p < S.1
  · skip
    obtain ⟨hPM, hK⟩ := hS.2.2 p hp.1 hp.2
    have hpa := (pic_at hF (p := p) (by omega)).1
    have hd := hK.1
    have h6 := hK.2.1
    have cr := c_Pic_isRight hpa hPM hK
    refine Ev.aload_n d_FC_about_0 rfl ?_
    refine Ev.iload_n d_FC_about_1 rfl ?_
    refine Ev.callV d_FC_about_2 mt_FC_pictureAt lk_FC_77 in_FC_pictureAt se_FC_pictureAt rfl (Nat.le_of_ble_eq_true rfl) rfl (Nat.le_of_ble_eq_true rfl) (by decide) (fi_3 hF) (by decide) rfl rfl (c_pAt hF hS hp) ?_
    refine Ev.astore_3 d_FC_about_5 rfl ?_
    refine Ev.aload_n d_FC_about_6 rfl ?_
    refine Ev.ifnonnull (tgt := 12) d_FC_about_7 rfl (fun hb7 => ?_) (fun hb7 => by exfalso; first | omega | simp at hb7 | contradiction)
    refine Ev.iload_n d_FC_about_12 rfl ?_
    rcases (show (what < 0 ∨ 6 < what) ∨ what = 0 ∨ what = 1 ∨ what = 2 ∨ what = 3 ∨ what = 4 ∨ what = 5 ∨ what = 6 by omega) with hsw | rfl | rfl | rfl | rfl | rfl | rfl | rfl
    · refine Ev.tableOut (tgt := 99) d_FC_about_13 (by omega) hsw rfl ?_
      refine Ev.iconst d_FC_about_99 ?_
      exact Ev.to (Ev.ireturn d_FC_about_100 rfl) (ri (by rw [if_neg (by omega)])) rfl
    · refine Ev.tableIn (off := 43) (tgt := 56) d_FC_about_13 (by omega) (by omega) (by omega) rfl rfl ?_
      refine Ev.aload_n d_FC_about_56 rfl ?_
      refine Ev.callV d_FC_about_57 mt_Pic_degree lk_FC_102 in_Pic_degree se_Pic_degree rfl (Nat.le_of_ble_eq_true rfl) rfl (Nat.le_of_ble_eq_true rfl) (by decide) hpa.2.1 (by decide) rfl rfl (c_Pic_degree hpa hPM) ?_
      exact Ev.to (Ev.ireturn d_FC_about_60 rfl) (ri (by rw [if_pos (by omega)]; simp [abt])) rfl
    · refine Ev.tableIn (off := 48) (tgt := 61) d_FC_about_13 (by omega) (by omega) (by omega) rfl rfl ?_
      refine Ev.aload_n d_FC_about_61 rfl ?_
      refine Ev.callV d_FC_about_62 mt_Pic_stairCount lk_FC_85 in_Pic_stairCount se_Pic_stairCount rfl (Nat.le_of_ble_eq_true rfl) rfl (Nat.le_of_ble_eq_true rfl) (by decide) hpa.2.1 (by decide) rfl rfl (c_Pic_stairCount hpa hPM) ?_
      exact Ev.to (Ev.ireturn d_FC_about_65 rfl) (ri (by rw [if_pos (by omega)]; simp [abt])) rfl
    · refine Ev.tableIn (off := 53) (tgt := 66) d_FC_about_13 (by omega) (by omega) (by omega) rfl rfl ?_
      refine Ev.aload_n d_FC_about_66 rfl ?_
      refine Ev.callV d_FC_about_67 mt_Pic_isRight lk_FC_105 in_Pic_isRight se_Pic_isRight rfl (Nat.le_of_ble_eq_true rfl) rfl (Nat.le_of_ble_eq_true rfl) (by decide) hpa.2.1 (by decide) rfl rfl cr ?_
      refine Ev.if_eq (tgt := 77) d_FC_about_70 rfl b01_b (fun hb70 => ?_) (fun hb70 => ?_)
      · rw [b01_eq] at hb70
        refine Ev.iconst d_FC_about_77 ?_
        exact Ev.to (Ev.ireturn d_FC_about_78 rfl) (ri (by rw [if_pos (by omega)]; unfold abt right; simp [b01_f hb70])) rfl
      · rw [b01_ne] at hb70
        refine Ev.iconst d_FC_about_73 ?_
        refine Ev.goto (tgt := 78) d_FC_about_74 rfl ?_
        exact Ev.to (Ev.ireturn d_FC_about_78 rfl) (ri (by rw [if_pos (by omega)]; unfold abt right; simp [b01_t hb70])) rfl
    · refine Ev.tableIn (off := 66) (tgt := 79) d_FC_about_13 (by omega) (by omega) (by omega) rfl rfl ?_
      refine Ev.aload_n d_FC_about_79 rfl ?_
      refine Ev.callV d_FC_about_80 mt_Pic_knots lk_FC_109 in_Pic_knots se_Pic_knots rfl (Nat.le_of_ble_eq_true rfl) rfl (Nat.le_of_ble_eq_true rfl) (by decide) hpa.2.1 (by decide) rfl rfl (c_Pic_knots hpa hPM hK) ?_
      exact Ev.to (Ev.ireturn d_FC_about_83 rfl) (ri (by rw [if_pos (by omega)]; simp [abt])) rfl
    · refine Ev.tableIn (off := 71) (tgt := 84) d_FC_about_13 (by omega) (by omega) (by omega) rfl rfl ?_
      refine Ev.aload_n d_FC_about_84 rfl ?_
      refine Ev.callV d_FC_about_85 mt_Pic_parts lk_FC_112 in_Pic_parts se_Pic_parts rfl (Nat.le_of_ble_eq_true rfl) rfl (Nat.le_of_ble_eq_true rfl) (by decide) hpa.2.1 (by decide) rfl rfl (c_Pic_parts hR hpa hPM hK) ?_
      exact Ev.to (Ev.ireturn d_FC_about_88 rfl) (ri (by rw [if_pos (by omega)]; simp [abt])) rfl
    · refine Ev.tableIn (off := 76) (tgt := 89) d_FC_about_13 (by omega) (by omega) (by omega) rfl rfl ?_
      refine Ev.aload_n d_FC_about_89 rfl ?_
      refine Ev.callV d_FC_about_90 mt_Pic_mult lk_FC_115 in_Pic_mult se_Pic_mult rfl (Nat.le_of_ble_eq_true rfl) rfl (Nat.le_of_ble_eq_true rfl) (by decide) hpa.2.1 (by decide) rfl rfl (c_Pic_mult hpa hPM hK) ?_
      exact Ev.to (Ev.ireturn d_FC_about_93 rfl) (ri (by rw [if_pos (by omega)]; simp [abt])) rfl
    · refine Ev.tableIn (off := 81) (tgt := 94) d_FC_about_13 (by omega) (by omega) (by omega) rfl rfl ?_
      refine Ev.aload_n d_FC_about_94 rfl ?_
      refine Ev.callV d_FC_about_95 mt_Pic_sign lk_FC_118 in_Pic_sign se_Pic_sign rfl (Nat.le_of_ble_eq_true rfl) rfl (Nat.le_of_ble_eq_true rfl) (by decide) hpa.2.1 (by decide) rfl rfl (c_Pic_sign hpa hPM hK) ?_
      exact Ev.to (Ev.ireturn d_FC_about_98 rfl) (ri (by rw [if_pos (by omega)]; simp [abt])) rfl
  · rw [if_neg (fun h => hp h.1)]
    refine Ev.aload_n d_FC_about_0 rfl ?_
    refine Ev.iload_n d_FC_about_1 rfl ?_
    refine Ev.callV d_FC_about_2 mt_FC_pictureAt lk_FC_77 in_FC_pictureAt se_FC_pictureAt rfl (Nat.le_of_ble_eq_true rfl) rfl (Nat.le_of_ble_eq_true rfl) (by decide) (fi_3 hF) (by decide) rfl rfl (c_pNo hF hS h1 hp) ?_
    refine Ev.astore_3 d_FC_about_5 rfl ?_
    refine Ev.aload_n d_FC_about_6 rfl ?_
    refine Ev.ifnonnull (tgt := 12) d_FC_about_7 rfl (fun hb7 => by exfalso; first | omega | simp at hb7 | contradiction) (fun hb7 => ?_)
    refine Ev.iconst d_FC_about_10 ?_
    exact Ev.to (Ev.ireturn d_FC_about_11 rfl) rfl rfl
theorem c_FC_told (hF : FcS σ) {S : PS} (hS : CS m S) (hR : SR σ m) {p s what : Int} (h1 : -2147483648 ≤ p ∧ p ≤ 2147483647) (h2 : -2147483648 ≤ s ∧ s ≤ 2147483647) (h3 : -2147483648 ≤ what ∧ what ≤ 2147483647) : Call 4 m_FC_told [vr 3, vi p, vi s, vi what] σ m (some (vi (sp_told S p s what))) σ m := by
  have hS2 := hS.2.1
  unfold sp_told
  show Ev 4 m_FC_told 0 [some (vr 3), some (vi p), some (vi s), some (vi what), none, none] [] σ m _ σ m
  by_cases hp : 0 ≤ p ∧ p < S.1
  · skip
    obtain ⟨hPM, hK⟩ := hS.2.2 p hp.1 hp.2
    have hpa := (pic_at hF (p := p) (by omega)).1
    have hd := hK.1
    have h6 := hK.2.1
    have cs := c_Pic_spotOfStair hpa hPM hK h2
    by_cases hs : 0 ≤ s ∧ s < (S.2.2 p).length
    · rw [if_pos hs] at cs
      have hmem : (S.2.2 p).getD s.toNat 0 ∈ S.2.2 p := by
        have hlt : s.toNat < (S.2.2 p).length := by omega
        rw [List.getD_eq_getElem?_getD, List.getElem?_eq_getElem hlt]; exact List.getElem_mem hlt
      have hx := hK.2.2.2 _ hmem
      have hx2 : 0 ≤ (S.2.2 p).getD s.toNat 0 ∧ (S.2.2 p).getD s.toNat 0 < 24 := ⟨hx.1, hx.2.1⟩
      generalize (S.2.2 p).getD s.toNat 0 = x at cs hx2
      refine Ev.aload_n d_FC_told_0 rfl ?_
      refine Ev.iload_n d_FC_told_1 rfl ?_
      refine Ev.callV d_FC_told_2 mt_FC_pictureAt lk_FC_77 in_FC_pictureAt se_FC_pictureAt rfl (Nat.le_of_ble_eq_true rfl) rfl (Nat.le_of_ble_eq_true rfl) (by decide) (fi_3 hF) (by decide) rfl rfl (c_pAt hF hS hp) ?_
      refine Ev.astore_4 d_FC_told_5 rfl ?_
      refine Ev.aload d_FC_told_7 rfl ?_
      refine Ev.ifnonnull (tgt := 14) d_FC_told_9 rfl (fun hb9 => ?_) (fun hb9 => by exfalso; first | omega | simp at hb9 | contradiction)
      refine Ev.aload d_FC_told_14 rfl ?_
      refine Ev.iload_n d_FC_told_16 rfl ?_
      refine Ev.callV d_FC_told_17 mt_Pic_spotOfStair lk_FC_121 in_Pic_spotOfStair se_Pic_spotOfStair rfl (Nat.le_of_ble_eq_true rfl) rfl (Nat.le_of_ble_eq_true rfl) (by decide) hpa.2.1 (by decide) rfl rfl cs ?_
      refine Ev.istore_5 d_FC_told_20 rfl ?_
      refine Ev.iload d_FC_told_22 rfl ?_
      refine Ev.if_ge (tgt := 29) d_FC_told_24 rfl (by first | omega | (simp [mu]; done) | (simp [mu]; omega)) (fun hb24 => ?_) (fun hb24 => by exfalso; first | omega | simp at hb24 | contradiction)
      refine Ev.iload_n d_FC_told_29 rfl ?_
      rcases (show (what < 0 ∨ 2 < what) ∨ what = 0 ∨ what = 1 ∨ what = 2 by omega) with hsw | rfl | rfl | rfl
      · refine Ev.tableOut (tgt := 74) d_FC_told_30 (by omega) hsw rfl ?_
        refine Ev.iconst d_FC_told_74 ?_
        exact Ev.to (Ev.ireturn d_FC_told_75 rfl) (ri (by rw [if_neg (by omega)])) rfl
      · refine Ev.tableIn (off := 26) (tgt := 56) d_FC_told_30 (by omega) (by omega) (by omega) rfl rfl ?_
        refine Ev.iload d_FC_told_56 rfl ?_
        refine Ev.callS d_FC_told_58 mt_FC_fromOf lk_FC_124 st_FC_fromOf rfl (Nat.le_of_ble_eq_true rfl) rfl (Nat.le_of_ble_eq_true rfl) (by decide) rfl (c_FC_fromOf hR hx2) ?_
        exact Ev.to (Ev.ireturn d_FC_told_61 rfl) (ri (by rw [if_pos (by omega)]; simp)) rfl
      · refine Ev.tableIn (off := 32) (tgt := 62) d_FC_told_30 (by omega) (by omega) (by omega) rfl rfl ?_
        refine Ev.iload d_FC_told_62 rfl ?_
        refine Ev.callS d_FC_told_64 mt_FC_toOf lk_FC_127 st_FC_toOf rfl (Nat.le_of_ble_eq_true rfl) rfl (Nat.le_of_ble_eq_true rfl) (by decide) rfl (c_FC_toOf hR hx2) ?_
        exact Ev.to (Ev.ireturn d_FC_told_67 rfl) (ri (by rw [if_pos (by omega)]; simp)) rfl
      · refine Ev.tableIn (off := 38) (tgt := 68) d_FC_told_30 (by omega) (by omega) (by omega) rfl rfl ?_
        refine Ev.iload d_FC_told_68 rfl ?_
        refine Ev.callS d_FC_told_70 mt_FC_weightOf lk_FC_130 st_FC_weightOf rfl (Nat.le_of_ble_eq_true rfl) rfl (Nat.le_of_ble_eq_true rfl) (by decide) rfl (c_FC_weightOf hx2) ?_
        exact Ev.to (Ev.ireturn d_FC_told_73 rfl) (ri (by rw [if_pos (by omega)]; simp)) rfl
    · rw [if_neg hs] at cs
      rw [if_neg (fun h => hs h.2.1)]
      refine Ev.aload_n d_FC_told_0 rfl ?_
      refine Ev.iload_n d_FC_told_1 rfl ?_
      refine Ev.callV d_FC_told_2 mt_FC_pictureAt lk_FC_77 in_FC_pictureAt se_FC_pictureAt rfl (Nat.le_of_ble_eq_true rfl) rfl (Nat.le_of_ble_eq_true rfl) (by decide) (fi_3 hF) (by decide) rfl rfl (c_pAt hF hS hp) ?_
      refine Ev.astore_4 d_FC_told_5 rfl ?_
      refine Ev.aload d_FC_told_7 rfl ?_
      refine Ev.ifnonnull (tgt := 14) d_FC_told_9 rfl (fun hb9 => ?_) (fun hb9 => by exfalso; first | omega | simp at hb9 | contradiction)
      refine Ev.aload d_FC_told_14 rfl ?_
      refine Ev.iload_n d_FC_told_16 rfl ?_
      refine Ev.callV d_FC_told_17 mt_Pic_spotOfStair lk_FC_121 in_Pic_spotOfStair se_Pic_spotOfStair rfl (Nat.le_of_ble_eq_true rfl) rfl (Nat.le_of_ble_eq_true rfl) (by decide) hpa.2.1 (by decide) rfl rfl cs ?_
      refine Ev.istore_5 d_FC_told_20 rfl ?_
      refine Ev.iload d_FC_told_22 rfl ?_
      refine Ev.if_ge (tgt := 29) d_FC_told_24 rfl (by first | omega | (simp [mu]; done) | (simp [mu]; omega)) (fun hb24 => by exfalso; first | omega | simp at hb24 | contradiction) (fun hb24 => ?_)
      refine Ev.iconst d_FC_told_27 ?_
      exact Ev.to (Ev.ireturn d_FC_told_28 rfl) rfl rfl
  · rw [if_neg (fun h => hp h.1)]
    refine Ev.aload_n d_FC_told_0 rfl ?_
    refine Ev.iload_n d_FC_told_1 rfl ?_
    refine Ev.callV d_FC_told_2 mt_FC_pictureAt lk_FC_77 in_FC_pictureAt se_FC_pictureAt rfl (Nat.le_of_ble_eq_true rfl) rfl (Nat.le_of_ble_eq_true rfl) (by decide) (fi_3 hF) (by decide) rfl rfl (c_pNo hF hS h1 hp) ?_
    refine Ev.astore_4 d_FC_told_5 rfl ?_
    refine Ev.aload d_FC_told_7 rfl ?_
    refine Ev.ifnonnull (tgt := 14) d_FC_told_9 rfl (fun hb9 => by exfalso; first | omega | simp at hb9 | contradiction) (fun hb9 => ?_)
    refine Ev.iconst d_FC_told_12 ?_
    exact Ev.to (Ev.ireturn d_FC_told_13 rfl) rfl rfl
theorem c_FC_out (hF : FcS σ) {S : PS} (hS : CS m S) {p f : Int} (h1 : -2147483648 ≤ p ∧ p ≤ 2147483647) (h2 : -2147483648 ≤ f ∧ f ≤ 2147483647) : Call 4 m_FC_out [vr 3, vi p, vi f] σ m (some (vi (sp_out S p f))) σ m := by
  have hS2 := hS.2.1
  unfold sp_out
  show Ev 4 m_FC_out 0 [some (vr 3), some (vi p), some (vi f), none] [] σ m _ σ m
  by_cases hp : 0 ≤ p ∧ p < S.1
  · skip
    obtain ⟨hPM, hK⟩ := hS.2.2 p hp.1 hp.2
    have hpa := (pic_at hF (p := p) (by omega)).1
    have hd := hK.1
    have h6 := hK.2.1
    by_cases hf : 0 ≤ f ∧ f < S.2.1 p
    · rw [if_pos ⟨hp, hf⟩]
      refine Ev.aload_n d_FC_out_0 rfl ?_
      refine Ev.iload_n d_FC_out_1 rfl ?_
      refine Ev.callV d_FC_out_2 mt_FC_pictureAt lk_FC_77 in_FC_pictureAt se_FC_pictureAt rfl (Nat.le_of_ble_eq_true rfl) rfl (Nat.le_of_ble_eq_true rfl) (by decide) (fi_3 hF) (by decide) rfl rfl (c_pAt hF hS hp) ?_
      refine Ev.astore_3 d_FC_out_5 rfl ?_
      refine Ev.aload_n d_FC_out_6 rfl ?_
      refine Ev.ifnull (tgt := 18) d_FC_out_7 rfl (fun hb7 => by exfalso; first | omega | simp at hb7 | contradiction) (fun hb7 => ?_)
      refine Ev.aload_n d_FC_out_10 rfl ?_
      refine Ev.iload_n d_FC_out_11 rfl ?_
      refine Ev.callV d_FC_out_12 mt_Pic_hasFloor lk_FC_133 in_Pic_hasFloor se_Pic_hasFloor rfl (Nat.le_of_ble_eq_true rfl) rfl (Nat.le_of_ble_eq_true rfl) (by decide) hpa.2.1 (by decide) rfl rfl (c_Pic_hasFloor hpa hPM hd h2) ?_
      refine Ev.if_ne (tgt := 22) d_FC_out_15 rfl b01_b (fun hb15 => ?_) (fun hb15 => by exfalso; (first | rw [b01_ne] at hb15 | rw [b01_eq] at hb15); omega)
      rw [b01_ne] at hb15
      refine Ev.aload_n d_FC_out_22 rfl ?_
      refine Ev.iload_n d_FC_out_23 rfl ?_
      refine Ev.callV d_FC_out_24 mt_Pic_outOf lk_FC_136 in_Pic_outOf se_Pic_outOf rfl (Nat.le_of_ble_eq_true rfl) rfl (Nat.le_of_ble_eq_true rfl) (by decide) hpa.2.1 (by decide) rfl rfl (c_Pic_outOf hpa hPM hd hf) ?_
      exact Ev.to (Ev.ireturn d_FC_out_27 rfl) rfl rfl
    · rw [if_neg (fun h => hf h.2)]
      refine Ev.aload_n d_FC_out_0 rfl ?_
      refine Ev.iload_n d_FC_out_1 rfl ?_
      refine Ev.callV d_FC_out_2 mt_FC_pictureAt lk_FC_77 in_FC_pictureAt se_FC_pictureAt rfl (Nat.le_of_ble_eq_true rfl) rfl (Nat.le_of_ble_eq_true rfl) (by decide) (fi_3 hF) (by decide) rfl rfl (c_pAt hF hS hp) ?_
      refine Ev.astore_3 d_FC_out_5 rfl ?_
      refine Ev.aload_n d_FC_out_6 rfl ?_
      refine Ev.ifnull (tgt := 18) d_FC_out_7 rfl (fun hb7 => by exfalso; first | omega | simp at hb7 | contradiction) (fun hb7 => ?_)
      refine Ev.aload_n d_FC_out_10 rfl ?_
      refine Ev.iload_n d_FC_out_11 rfl ?_
      refine Ev.callV d_FC_out_12 mt_Pic_hasFloor lk_FC_133 in_Pic_hasFloor se_Pic_hasFloor rfl (Nat.le_of_ble_eq_true rfl) rfl (Nat.le_of_ble_eq_true rfl) (by decide) hpa.2.1 (by decide) rfl rfl (c_Pic_hasFloor hpa hPM hd h2) ?_
      refine Ev.if_ne (tgt := 22) d_FC_out_15 rfl b01_b (fun hb15 => by exfalso; (first | rw [b01_ne] at hb15 | rw [b01_eq] at hb15); omega) (fun hb15 => ?_)
      rw [b01_eq] at hb15
      refine Ev.sipush d_FC_out_18 rfl ?_
      exact Ev.to (Ev.ireturn d_FC_out_21 rfl) rfl rfl
  · rw [if_neg (fun h => hp h.1)]
    refine Ev.aload_n d_FC_out_0 rfl ?_
    refine Ev.iload_n d_FC_out_1 rfl ?_
    refine Ev.callV d_FC_out_2 mt_FC_pictureAt lk_FC_77 in_FC_pictureAt se_FC_pictureAt rfl (Nat.le_of_ble_eq_true rfl) rfl (Nat.le_of_ble_eq_true rfl) (by decide) (fi_3 hF) (by decide) rfl rfl (c_pNo hF hS h1 hp) ?_
    refine Ev.astore_3 d_FC_out_5 rfl ?_
    refine Ev.aload_n d_FC_out_6 rfl ?_
    refine Ev.ifnull (tgt := 18) d_FC_out_7 rfl (fun hb7 => ?_) (fun hb7 => by exfalso; first | omega | simp at hb7 | contradiction)
    refine Ev.sipush d_FC_out_18 rfl ?_
    exact Ev.to (Ev.ireturn d_FC_out_21 rfl) rfl rfl
theorem c_FC_turned (hF : FcS σ) {S : PS} (hS : CS m S) {p : Int} (h1 : -2147483648 ≤ p ∧ p ≤ 2147483647) : Call 4 m_FC_turned [vr 3, vi p] σ m (some (vi (sp_turned S p))) σ m := by
  have hS2 := hS.2.1
  unfold sp_turned
  show Ev 4 m_FC_turned 0 [some (vr 3), some (vi p), none] [] σ m _ σ m
  by_cases hp : 0 ≤ p ∧ p < S.1
  · rw [if_pos hp]
    obtain ⟨hPM, hK⟩ := hS.2.2 p hp.1 hp.2
    have hpa := (pic_at hF (p := p) (by omega)).1
    have hd := hK.1
    have h6 := hK.2.1
    have ct := c_Pic_isRightTurned hpa hPM hK
    refine Ev.aload_n d_FC_turned_0 rfl ?_
    refine Ev.iload_n d_FC_turned_1 rfl ?_
    refine Ev.callV d_FC_turned_2 mt_FC_pictureAt lk_FC_77 in_FC_pictureAt se_FC_pictureAt rfl (Nat.le_of_ble_eq_true rfl) rfl (Nat.le_of_ble_eq_true rfl) (by decide) (fi_3 hF) (by decide) rfl rfl (c_pAt hF hS hp) ?_
    refine Ev.astore_2 d_FC_turned_5 rfl ?_
    refine Ev.aload_n d_FC_turned_6 rfl ?_
    refine Ev.ifnonnull (tgt := 12) d_FC_turned_7 rfl (fun hb7 => ?_) (fun hb7 => by exfalso; first | omega | simp at hb7 | contradiction)
    refine Ev.aload_n d_FC_turned_12 rfl ?_
    refine Ev.callV d_FC_turned_13 mt_Pic_isRightTurned lk_FC_161 in_Pic_isRightTurned se_Pic_isRightTurned rfl (Nat.le_of_ble_eq_true rfl) rfl (Nat.le_of_ble_eq_true rfl) (by decide) hpa.2.1 (by decide) rfl rfl ct ?_
    refine Ev.if_eq (tgt := 23) d_FC_turned_16 rfl b01_b (fun hb16 => ?_) (fun hb16 => ?_)
    · rw [b01_eq] at hb16
      refine Ev.iconst d_FC_turned_23 ?_
      exact Ev.to (Ev.ireturn d_FC_turned_24 rfl) (r0 hb16) rfl
    · rw [b01_ne] at hb16
      refine Ev.iconst d_FC_turned_19 ?_
      refine Ev.goto (tgt := 24) d_FC_turned_20 rfl ?_
      exact Ev.to (Ev.ireturn d_FC_turned_24 rfl) (r1 hb16) rfl
  · rw [if_neg hp]
    refine Ev.aload_n d_FC_turned_0 rfl ?_
    refine Ev.iload_n d_FC_turned_1 rfl ?_
    refine Ev.callV d_FC_turned_2 mt_FC_pictureAt lk_FC_77 in_FC_pictureAt se_FC_pictureAt rfl (Nat.le_of_ble_eq_true rfl) rfl (Nat.le_of_ble_eq_true rfl) (by decide) (fi_3 hF) (by decide) rfl rfl (c_pNo hF hS h1 hp) ?_
    refine Ev.astore_2 d_FC_turned_5 rfl ?_
    refine Ev.aload_n d_FC_turned_6 rfl ?_
    refine Ev.ifnonnull (tgt := 12) d_FC_turned_7 rfl (fun hb7 => by exfalso; first | omega | simp at hb7 | contradiction) (fun hb7 => ?_)
    refine Ev.iconst d_FC_turned_10 ?_
    exact Ev.to (Ev.ireturn d_FC_turned_11 rfl) rfl rfl
end
