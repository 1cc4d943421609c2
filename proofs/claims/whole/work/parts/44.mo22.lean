section
variable {σ : Sg} {m : Mm}
def sam (L l : List Int) : Nat → Int → Int → Int
  | 0, _, s => s
  | q + 1, f, s => sam L l q (f + 1) (if s = 1 ∧ ¬ un f (dw f L) (dw f l) = true then 1 else 0)
def plL (d : Int) (L : List Int) : List (List Int) → Int → Int
  | [], _ => -4
  | l :: t, n => if l.length = L.length then (if sam L l d.toNat 0 1 = 1 then n else plL d L t (n + 1)) else plL d L t n
def sp_place (S : PS) (p : Int) : Int := if 0 ≤ p ∧ p < S.1 then (if right (S.2.1 p) (S.2.2 p) = true then plL (S.2.1 p) (S.2.2 p) (RL (S.2.1 p)) 0 else -2) else -1
theorem sam_b (L l : List Int) : ∀ (q : Nat) (f s : Int), (s = 0 ∨ s = 1) → sam L l q f s = 0 ∨ sam L l q f s = 1
  | 0, f, s, h => h
  | q + 1, f, s, h => by
    simp only [sam]
    exact sam_b L l q (f + 1) _ (by split <;> simp)
theorem lps_Mo_place (hM : MoS σ) {p n d : Int} {L l : List Int} (hp : 0 ≤ p ∧ p ≤ 7) (hP : PM m p d L) (hK : PK d L) (hP8 : PM m 8 d l) (hK8 : PK d l) {r : Option AV} {mF : Mm} : ∀ (q : Nat) (f s : Int), f + q = d → 0 ≤ f → (s = 0 ∨ s = 1) → Ev 7 m_Mo_place 105 [some (vr 57), some (vi p), some (vi n), some (vi 1), some (vi (sam L l q f s)), some (vi d)] [] σ m r σ mF → Ev 7 m_Mo_place 64 [some (vr 57), some (vi p), some (vi n), some (vi 1), some (vi s), some (vi f)] [] σ m r σ mF
  | 0, f, s, hf, h0, hs, c => by
    have e : f = d := by omega
    have h58 := hP.1
    have hd := hK.1
    simp only [sam] at c
    refine Ev.iload d_Mo_place_64 rfl ?_
    refine Ev.aload_n d_Mo_place_66 rfl ?_
    refine Ev.gr 1 d_Mo_place_67 lf_Mo_7 rfl rfl (is_57 hM) (by decide) (rf_57_1 hM) ?_
    refine Ev.iload_n d_Mo_place_70 rfl ?_
    refine Ev.iaload d_Mo_place_71 (is_58 hM) (by first | omega | (simp [mu]; done) | (simp [mu]; omega)) ?_
    refine Ev.icmp_ge (tgt := 105) d_Mo_place_72 rfl (by first | omega | (simp [mu]; done) | (simp [mu]; omega)) (by first | omega | (simp [mu]; done) | (simp [mu]; omega)) (fun hb72 => ?_) (fun hb72 => by exfalso; first | omega | simp at hb72 | contradiction)
    rw [e]
    exact c
  | q + 1, f, s, hf, h0, hs, c => by
    have h58 := hP.1
    have hd := hK.1
    simp only [sam] at c
    refine Ev.iload d_Mo_place_64 rfl ?_
    refine Ev.aload_n d_Mo_place_66 rfl ?_
    refine Ev.gr 1 d_Mo_place_67 lf_Mo_7 rfl rfl (is_57 hM) (by decide) (rf_57_1 hM) ?_
    refine Ev.iload_n d_Mo_place_70 rfl ?_
    refine Ev.iaload d_Mo_place_71 (is_58 hM) (by first | omega | (simp [mu]; done) | (simp [mu]; omega)) ?_
    refine Ev.icmp_ge (tgt := 105) d_Mo_place_72 rfl (by first | omega | (simp [mu]; done) | (simp [mu]; omega)) (by first | omega | (simp [mu]; done) | (simp [mu]; omega)) (fun hb72 => by exfalso; first | omega | simp at hb72 | contradiction) (fun hb72 => ?_)
    refine Ev.iload d_Mo_place_75 rfl ?_
    refine Ev.if_eq (tgt := 96) d_Mo_place_77 rfl (by first | omega | (simp [mu]; done) | (simp [mu]; omega)) (fun hb77 => ?_) (fun hb77 => ?_)
    · refine Ev.iconst d_Mo_place_96 ?_
      refine Ev.istore_4 d_Mo_place_97 rfl ?_
      refine Ev.iinc_5 d_Mo_place_99 rfl ?_
      refine Ev.goto (tgt := 64) d_Mo_place_102 rfl ?_
      rw [if_neg (fun h => by omega)] at c
      exact lps_Mo_place hM hp hP hK hP8 hK8 q (f + 1) 0 (by omega) (by omega) (by omega) c
    · refine Ev.aload_n d_Mo_place_80 rfl ?_
      refine Ev.iload_n d_Mo_place_81 rfl ?_
      refine Ev.bipush d_Mo_place_82 rfl ?_
      refine Ev.iload d_Mo_place_84 rfl ?_
      refine Ev.callV d_Mo_place_86 mt_Mo_unlikeAt lk_Mo_190 in_Mo_unlikeAt se_Mo_unlikeAt rfl (Nat.le_of_ble_eq_true rfl) rfl (Nat.le_of_ble_eq_true rfl) (by decide) (is_57 hM) (by decide) rfl rfl (c_Mo_unlikeAt hM (by omega) (by decide) (by omega) hP hK hP8 hK8) ?_
      refine Ev.if_ne (tgt := 96) d_Mo_place_89 rfl b01_b (fun hb89 => ?_) (fun hb89 => ?_)
      · rw [b01_ne] at hb89
        refine Ev.iconst d_Mo_place_96 ?_
        refine Ev.istore_4 d_Mo_place_97 rfl ?_
        refine Ev.iinc_5 d_Mo_place_99 rfl ?_
        refine Ev.goto (tgt := 64) d_Mo_place_102 rfl ?_
        rw [if_neg (fun h => h.2 hb89)] at c
        exact lps_Mo_place hM hp hP hK hP8 hK8 q (f + 1) 0 (by omega) (by omega) (by omega) c
      · rw [b01_eq] at hb89
        refine Ev.iconst d_Mo_place_92 ?_
        refine Ev.goto (tgt := 97) d_Mo_place_93 rfl ?_
        refine Ev.istore_4 d_Mo_place_97 rfl ?_
        refine Ev.iinc_5 d_Mo_place_99 rfl ?_
        refine Ev.goto (tgt := 64) d_Mo_place_102 rfl ?_
        rw [if_pos ⟨by omega, hb89⟩] at c
        exact lps_Mo_place hM hp hP hK hP8 hK8 q (f + 1) 1 (by omega) (by omega) (by omega) c
theorem lp_Mo_place (hM : MoS σ) {p d : Int} {L : List Int} (hp : 0 ≤ p ∧ p ≤ 7) (hK : PK d L) : ∀ (t : List (List Int)) (l : List Int) (m : Mm) (n : Int) (x4 x5 : Option AV), chk d (l :: t) = true → (∀ y ∈ l :: t, y ∈ RL d) → RW m l → PM m p d L → ∃ m', Ev 7 m_Mo_place 29 [some (vr 57), some (vi p), some (vi n), some (vi 1), x4, x5] [] σ m (some (vi (plL d L (l :: t) n))) σ m' ∧ FrF 0 m m' ∧ (∀ a i : Int, 70 < a → m' a i = m a i)
  | [], l, m, n, x4, x5, hc, hy, hR, hP => by
    have hd := hK.1
    have hl := hy l List.mem_cons_self
    have hKl := (RL_ok hd l hl).1
    have h6 := hKl.2.1
    have h6L := hK.2.1
    have h59 := hP.2.1
    have hlx : ∀ x ∈ l, 0 ≤ x ∧ x < 24 := fun x hx => ⟨(hKl.2.2.2 x hx).1, (hKl.2.2.2 x hx).2.1⟩
    simp only [chk, Bool.and_eq_true, beq_iff_eq] at hc
    by_cases hN : l.length = L.length
    · obtain ⟨m1, q1, p1, f1⟩ := c_Mo_layRow hM (p := 8) (by decide) hKl hR
      have hP1 : PM m1 p d L := ⟨((f1.2.1 p (by omega)).1).trans hP.1, ((f1.2.1 p (by omega)).2).trans hP.2.1, At_eq (fun j _ _ => ⟨f1.2.2 60 j (by omega) (by omega), f1.2.2 61 j (by omega) (by omega), f1.2.2 62 j (by omega) (by omega)⟩) hP.2.2⟩
      have F1 : FrF 0 m m1 := fun a i x1 x2 x3 x4 _ _ => by
        by_cases c3 : a = 58 ∨ a = 59
        · have := x2 c3
          rcases c3 with rfl | rfl
          · exact (f1.2.1 i this).1
          · exact (f1.2.1 i this).2
        by_cases c5 : a = 60 ∨ a = 61 ∨ a = 62
        · exact f1.2.2 a i c5 (by have := x3 c5; omega)
        · exact f1.1 a i (by omega)
      have hR1 : RW m1 l := fun j x y => (f1.1 70 j (by decide)).trans (hR j x y)
      have q1' := q1
      rw [← hP.1] at q1'
      have hsb := sam_b L l d.toNat 0 1 (Or.inr rfl)
      by_cases hs : sam L l d.toNat 0 1 = 1
      · have ep : plL d L (l :: []) n = n := by
          show (if l.length = L.length then (if sam L l d.toNat 0 1 = 1 then n else _) else _) = n
          rw [if_pos hN, if_pos hs]
        rw [ep]
        refine ⟨m1, ?_, F1, fun a i h => f1.1 a i (by omega)⟩
        refine Ev.iload_n d_Mo_place_29 rfl ?_
        refine Ev.if_eq (tgt := 129) d_Mo_place_30 rfl (by first | omega | (simp [mu]; done) | (simp [mu]; omega)) (fun hb30 => by exfalso; first | omega | simp at hb30 | contradiction) (fun hb30 => ?_)
        refine Ev.aload_n d_Mo_place_33 rfl ?_
        refine Ev.callV d_Mo_place_34 mt_Mo_rowMany lk_Mo_212 in_Mo_rowMany se_Mo_rowMany rfl (Nat.le_of_ble_eq_true rfl) rfl (Nat.le_of_ble_eq_true rfl) (by decide) (is_57 hM) (by decide) rfl rfl (c_Mo_rowMany hM hR hlx) ?_
        refine Ev.aload_n d_Mo_place_37 rfl ?_
        refine Ev.gr 2 d_Mo_place_38 lf_Mo_13 rfl rfl (is_57 hM) (by decide) (rf_57_2 hM) ?_
        refine Ev.iload_n d_Mo_place_41 rfl ?_
        refine Ev.iaload d_Mo_place_42 (is_59 hM) (by first | omega | (simp [mu]; done) | (simp [mu]; omega)) ?_
        refine Ev.icmp_ne (tgt := 115) d_Mo_place_43 rfl (by first | omega | (simp [mu]; done) | (simp [mu]; omega)) (by first | omega | (simp [mu]; done) | (simp [mu]; omega)) (fun hb43 => by exfalso; first | omega | simp at hb43 | contradiction) (fun hb43 => ?_)
        refine Ev.aload_n d_Mo_place_46 rfl ?_
        refine Ev.aload_n d_Mo_place_47 rfl ?_
        refine Ev.gr 1 d_Mo_place_48 lf_Mo_7 rfl rfl (is_57 hM) (by decide) (rf_57_1 hM) ?_
        refine Ev.iload_n d_Mo_place_51 rfl ?_
        refine Ev.iaload d_Mo_place_52 (is_58 hM) (by first | omega | (simp [mu]; done) | (simp [mu]; omega)) ?_
        refine Ev.bipush d_Mo_place_53 rfl ?_
        refine Ev.callVv d_Mo_place_55 mt_Mo_layRow lk_Mo_216 in_Mo_layRow se_Mo_layRow rfl (Nat.le_of_ble_eq_true rfl) rfl (Nat.le_of_ble_eq_true rfl) (by decide) (is_57 hM) (by decide) rfl rfl q1' ?_
        refine Ev.iconst d_Mo_place_58 ?_
        refine Ev.istore_4 d_Mo_place_59 rfl ?_
        refine Ev.iconst d_Mo_place_61 ?_
        refine Ev.istore_5 d_Mo_place_62 rfl ?_
        refine lps_Mo_place hM hp hP1 hK p1 hKl d.toNat 0 1 (by omega) (by omega) (Or.inr rfl) ?_
        rw [hs]
        refine Ev.iload d_Mo_place_105 rfl ?_
        refine Ev.if_eq (tgt := 112) d_Mo_place_107 rfl (by first | omega | (simp [mu]; done) | (simp [mu]; omega)) (fun hb107 => by exfalso; first | omega | simp at hb107 | contradiction) (fun hb107 => ?_)
        refine Ev.iload_n d_Mo_place_110 rfl ?_
        exact Ev.to (Ev.ireturn d_Mo_place_111 rfl) rfl rfl
      · have ep : plL d L (l :: []) n = plL d L [] (n + 1) := by
          show (if l.length = L.length then (if sam L l d.toNat 0 1 = 1 then n else _) else _) = _
          rw [if_pos hN, if_neg hs]
        rw [ep]
        have hs0 : sam L l d.toNat 0 1 = 0 := by omega
        obtain ⟨m2, g1, g2, g3⟩ := c_Mo_nextRow hM hd hR1 hlx h6
        rw [hc, b01_f (by simp)] at g1
        have g1' := g1
        rw [← hP1.1] at g1'
        refine ⟨m2, ?_, F1.tr (FrF.of (fun a i => by
          by_cases e : a = 70
          · exact Or.inr (Or.inr (Or.inr (Or.inl (by omega))))
          · exact Or.inr (Or.inr (Or.inr (Or.inr (g3 a i e)))))), fun a i h => (g3 a i (by omega)).trans (f1.1 a i (by omega))⟩
        refine Ev.iload_n d_Mo_place_29 rfl ?_
        refine Ev.if_eq (tgt := 129) d_Mo_place_30 rfl (by first | omega | (simp [mu]; done) | (simp [mu]; omega)) (fun hb30 => by exfalso; first | omega | simp at hb30 | contradiction) (fun hb30 => ?_)
        refine Ev.aload_n d_Mo_place_33 rfl ?_
        refine Ev.callV d_Mo_place_34 mt_Mo_rowMany lk_Mo_212 in_Mo_rowMany se_Mo_rowMany rfl (Nat.le_of_ble_eq_true rfl) rfl (Nat.le_of_ble_eq_true rfl) (by decide) (is_57 hM) (by decide) rfl rfl (c_Mo_rowMany hM hR hlx) ?_
        refine Ev.aload_n d_Mo_place_37 rfl ?_
        refine Ev.gr 2 d_Mo_place_38 lf_Mo_13 rfl rfl (is_57 hM) (by decide) (rf_57_2 hM) ?_
        refine Ev.iload_n d_Mo_place_41 rfl ?_
        refine Ev.iaload d_Mo_place_42 (is_59 hM) (by first | omega | (simp [mu]; done) | (simp [mu]; omega)) ?_
        refine Ev.icmp_ne (tgt := 115) d_Mo_place_43 rfl (by first | omega | (simp [mu]; done) | (simp [mu]; omega)) (by first | omega | (simp [mu]; done) | (simp [mu]; omega)) (fun hb43 => by exfalso; first | omega | simp at hb43 | contradiction) (fun hb43 => ?_)
        refine Ev.aload_n d_Mo_place_46 rfl ?_
        refine Ev.aload_n d_Mo_place_47 rfl ?_
        refine Ev.gr 1 d_Mo_place_48 lf_Mo_7 rfl rfl (is_57 hM) (by decide) (rf_57_1 hM) ?_
        refine Ev.iload_n d_Mo_place_51 rfl ?_
        refine Ev.iaload d_Mo_place_52 (is_58 hM) (by first | omega | (simp [mu]; done) | (simp [mu]; omega)) ?_
        refine Ev.bipush d_Mo_place_53 rfl ?_
        refine Ev.callVv d_Mo_place_55 mt_Mo_layRow lk_Mo_216 in_Mo_layRow se_Mo_layRow rfl (Nat.le_of_ble_eq_true rfl) rfl (Nat.le_of_ble_eq_true rfl) (by decide) (is_57 hM) (by decide) rfl rfl q1' ?_
        refine Ev.iconst d_Mo_place_58 ?_
        refine Ev.istore_4 d_Mo_place_59 rfl ?_
        refine Ev.iconst d_Mo_place_61 ?_
        refine Ev.istore_5 d_Mo_place_62 rfl ?_
        refine lps_Mo_place hM hp hP1 hK p1 hKl d.toNat 0 1 (by omega) (by omega) (Or.inr rfl) ?_
        rw [hs0]
        refine Ev.iload d_Mo_place_105 rfl ?_
        refine Ev.if_eq (tgt := 112) d_Mo_place_107 rfl (by first | omega | (simp [mu]; done) | (simp [mu]; omega)) (fun hb107 => ?_) (fun hb107 => by exfalso; first | omega | simp at hb107 | contradiction)
        refine Ev.iinc_2 d_Mo_place_112 rfl ?_
        refine Ev.aload_n d_Mo_place_115 rfl ?_
        refine Ev.aload_n d_Mo_place_116 rfl ?_
        refine Ev.gr 1 d_Mo_place_117 lf_Mo_7 rfl rfl (is_57 hM) (by decide) (rf_57_1 hM) ?_
        refine Ev.iload_n d_Mo_place_120 rfl ?_
        refine Ev.iaload d_Mo_place_121 (is_58 hM) (by first | omega | (simp [mu]; done) | (simp [mu]; omega)) ?_
        refine Ev.callV d_Mo_place_122 mt_Mo_nextRow lk_Mo_220 in_Mo_nextRow se_Mo_nextRow rfl (Nat.le_of_ble_eq_true rfl) rfl (Nat.le_of_ble_eq_true rfl) (by decide) (is_57 hM) (by decide) rfl rfl g1' ?_
        refine Ev.istore_3 d_Mo_place_125 rfl ?_
        refine Ev.goto (tgt := 29) d_Mo_place_126 rfl ?_
        refine Ev.iload_n d_Mo_place_29 rfl ?_
        refine Ev.if_eq (tgt := 129) d_Mo_place_30 rfl (by first | omega | (simp [mu]; done) | (simp [mu]; omega)) (fun hb30 => ?_) (fun hb30 => by exfalso; first | omega | simp at hb30 | contradiction)
        refine Ev.bipush d_Mo_place_129 rfl ?_
        exact Ev.to (Ev.ireturn d_Mo_place_131 rfl) rfl rfl
    · have ep : plL d L (l :: []) n = plL d L [] n := by
        show (if l.length = L.length then _ else _) = _
        rw [if_neg hN]
      rw [ep]
      obtain ⟨m2, g1, g2, g3⟩ := c_Mo_nextRow hM hd hR hlx h6
      rw [hc, b01_f (by simp)] at g1
      have g1' := g1
      rw [← hP.1] at g1'
      refine ⟨m2, ?_, FrF.of (fun a i => by
        by_cases e : a = 70
        · exact Or.inr (Or.inr (Or.inr (Or.inl (by omega))))
        · exact Or.inr (Or.inr (Or.inr (Or.inr (g3 a i e))))), fun a i h => g3 a i (by omega)⟩
      refine Ev.iload_n d_Mo_place_29 rfl ?_
      refine Ev.if_eq (tgt := 129) d_Mo_place_30 rfl (by first | omega | (simp [mu]; done) | (simp [mu]; omega)) (fun hb30 => by exfalso; first | omega | simp at hb30 | contradiction) (fun hb30 => ?_)
      refine Ev.aload_n d_Mo_place_33 rfl ?_
      refine Ev.callV d_Mo_place_34 mt_Mo_rowMany lk_Mo_212 in_Mo_rowMany se_Mo_rowMany rfl (Nat.le_of_ble_eq_true rfl) rfl (Nat.le_of_ble_eq_true rfl) (by decide) (is_57 hM) (by decide) rfl rfl (c_Mo_rowMany hM hR hlx) ?_
      refine Ev.aload_n d_Mo_place_37 rfl ?_
      refine Ev.gr 2 d_Mo_place_38 lf_Mo_13 rfl rfl (is_57 hM) (by decide) (rf_57_2 hM) ?_
      refine Ev.iload_n d_Mo_place_41 rfl ?_
      refine Ev.iaload d_Mo_place_42 (is_59 hM) (by first | omega | (simp [mu]; done) | (simp [mu]; omega)) ?_
      refine Ev.icmp_ne (tgt := 115) d_Mo_place_43 rfl (by first | omega | (simp [mu]; done) | (simp [mu]; omega)) (by first | omega | (simp [mu]; done) | (simp [mu]; omega)) (fun hb43 => ?_) (fun hb43 => by exfalso; first | omega | simp at hb43 | contradiction)
      refine Ev.aload_n d_Mo_place_115 rfl ?_
      refine Ev.aload_n d_Mo_place_116 rfl ?_
      refine Ev.gr 1 d_Mo_place_117 lf_Mo_7 rfl rfl (is_57 hM) (by decide) (rf_57_1 hM) ?_
      refine Ev.iload_n d_Mo_place_120 rfl ?_
      refine Ev.iaload d_Mo_place_121 (is_58 hM) (by first | omega | (simp [mu]; done) | (simp [mu]; omega)) ?_
      refine Ev.callV d_Mo_place_122 mt_Mo_nextRow lk_Mo_220 in_Mo_nextRow se_Mo_nextRow rfl (Nat.le_of_ble_eq_true rfl) rfl (Nat.le_of_ble_eq_true rfl) (by decide) (is_57 hM) (by decide) rfl rfl g1' ?_
      refine Ev.istore_3 d_Mo_place_125 rfl ?_
      refine Ev.goto (tgt := 29) d_Mo_place_126 rfl ?_
      refine Ev.iload_n d_Mo_place_29 rfl ?_
      refine Ev.if_eq (tgt := 129) d_Mo_place_30 rfl (by first | omega | (simp [mu]; done) | (simp [mu]; omega)) (fun hb30 => ?_) (fun hb30 => by exfalso; first | omega | simp at hb30 | contradiction)
      refine Ev.bipush d_Mo_place_129 rfl ?_
      exact Ev.to (Ev.ireturn d_Mo_place_131 rfl) rfl rfl
  | l2 :: t, l, m, n, x4, x5, hc, hy, hR, hP => by
    have hd := hK.1
    have hl := hy l List.mem_cons_self
    have hKl := (RL_ok hd l hl).1
    have h6 := hKl.2.1
    have h6L := hK.2.1
    have h59 := hP.2.1
    have hlx : ∀ x ∈ l, 0 ≤ x ∧ x < 24 := fun x hx => ⟨(hKl.2.2.2 x hx).1, (hKl.2.2.2 x hx).2.1⟩
    simp only [chk, Bool.and_eq_true, beq_iff_eq] at hc
    by_cases hN : l.length = L.length
    · obtain ⟨m1, q1, p1, f1⟩ := c_Mo_layRow hM (p := 8) (by decide) hKl hR
      have hP1 : PM m1 p d L := ⟨((f1.2.1 p (by omega)).1).trans hP.1, ((f1.2.1 p (by omega)).2).trans hP.2.1, At_eq (fun j _ _ => ⟨f1.2.2 60 j (by omega) (by omega), f1.2.2 61 j (by omega) (by omega), f1.2.2 62 j (by omega) (by omega)⟩) hP.2.2⟩
      have F1 : FrF 0 m m1 := fun a i x1 x2 x3 x4 _ _ => by
        by_cases c3 : a = 58 ∨ a = 59
        · have := x2 c3
          rcases c3 with rfl | rfl
          · exact (f1.2.1 i this).1
          · exact (f1.2.1 i this).2
        by_cases c5 : a = 60 ∨ a = 61 ∨ a = 62
        · exact f1.2.2 a i c5 (by have := x3 c5; omega)
        · exact f1.1 a i (by omega)
      have hR1 : RW m1 l := fun j x y => (f1.1 70 j (by decide)).trans (hR j x y)
      have q1' := q1
      rw [← hP.1] at q1'
      have hsb := sam_b L l d.toNat 0 1 (Or.inr rfl)
      by_cases hs : sam L l d.toNat 0 1 = 1
      · have ep : plL d L (l :: (l2 :: t)) n = n := by
          show (if l.length = L.length then (if sam L l d.toNat 0 1 = 1 then n else _) else _) = n
          rw [if_pos hN, if_pos hs]
        rw [ep]
        refine ⟨m1, ?_, F1, fun a i h => f1.1 a i (by omega)⟩
        refine Ev.iload_n d_Mo_place_29 rfl ?_
        refine Ev.if_eq (tgt := 129) d_Mo_place_30 rfl (by first | omega | (simp [mu]; done) | (simp [mu]; omega)) (fun hb30 => by exfalso; first | omega | simp at hb30 | contradiction) (fun hb30 => ?_)
        refine Ev.aload_n d_Mo_place_33 rfl ?_
        refine Ev.callV d_Mo_place_34 mt_Mo_rowMany lk_Mo_212 in_Mo_rowMany se_Mo_rowMany rfl (Nat.le_of_ble_eq_true rfl) rfl (Nat.le_of_ble_eq_true rfl) (by decide) (is_57 hM) (by decide) rfl rfl (c_Mo_rowMany hM hR hlx) ?_
        refine Ev.aload_n d_Mo_place_37 rfl ?_
        refine Ev.gr 2 d_Mo_place_38 lf_Mo_13 rfl rfl (is_57 hM) (by decide) (rf_57_2 hM) ?_
        refine Ev.iload_n d_Mo_place_41 rfl ?_
        refine Ev.iaload d_Mo_place_42 (is_59 hM) (by first | omega | (simp [mu]; done) | (simp [mu]; omega)) ?_
        refine Ev.icmp_ne (tgt := 115) d_Mo_place_43 rfl (by first | omega | (simp [mu]; done) | (simp [mu]; omega)) (by first | omega | (simp [mu]; done) | (simp [mu]; omega)) (fun hb43 => by exfalso; first | omega | simp at hb43 | contradiction) (fun hb43 => ?_)
        refine Ev.aload_n d_Mo_place_46 rfl ?_
        refine Ev.aload_n d_Mo_place_47 rfl ?_
        refine Ev.gr 1 d_Mo_place_48 lf_Mo_7 rfl rfl (is_57 hM) (by decide) (rf_57_1 hM) ?_
        refine Ev.iload_n d_Mo_place_51 rfl ?_
        refine Ev.iaload d_Mo_place_52 (is_58 hM) (by first | omega | (simp [mu]; done) | (simp [mu]; omega)) ?_
        refine Ev.bipush d_Mo_place_53 rfl ?_
        refine Ev.callVv d_Mo_place_55 mt_Mo_layRow lk_Mo_216 in_Mo_layRow se_Mo_layRow rfl (Nat.le_of_ble_eq_true rfl) rfl (Nat.le_of_ble_eq_true rfl) (by decide) (is_57 hM) (by decide) rfl rfl q1' ?_
        refine Ev.iconst d_Mo_place_58 ?_
        refine Ev.istore_4 d_Mo_place_59 rfl ?_
        refine Ev.iconst d_Mo_place_61 ?_
        refine Ev.istore_5 d_Mo_place_62 rfl ?_
        refine lps_Mo_place hM hp hP1 hK p1 hKl d.toNat 0 1 (by omega) (by omega) (Or.inr rfl) ?_
        rw [hs]
        refine Ev.iload d_Mo_place_105 rfl ?_
        refine Ev.if_eq (tgt := 112) d_Mo_place_107 rfl (by first | omega | (simp [mu]; done) | (simp [mu]; omega)) (fun hb107 => by exfalso; first | omega | simp at hb107 | contradiction) (fun hb107 => ?_)
        refine Ev.iload_n d_Mo_place_110 rfl ?_
        exact Ev.to (Ev.ireturn d_Mo_place_111 rfl) rfl rfl
      · have ep : plL d L (l :: (l2 :: t)) n = plL d L (l2 :: t) (n + 1) := by
          show (if l.length = L.length then (if sam L l d.toNat 0 1 = 1 then n else _) else _) = _
          rw [if_pos hN, if_neg hs]
        rw [ep]
        have hs0 : sam L l d.toNat 0 1 = 0 := by omega
        obtain ⟨m2, g1, g2, g3⟩ := c_Mo_nextRow hM hd hR1 hlx h6
        rw [hc.1, b01_t (by simp)] at g1
        have g1' := g1
        rw [← hP1.1] at g1'
        obtain ⟨m3, k1, k2, k3⟩ := lp_Mo_place hM hp hK t l2 m2 (n + 1) (some (vi 0)) (some (vi d)) hc.2 (fun y h => hy y (List.mem_cons_of_mem _ h)) (g2 _ hc.1) (PM_fr hP1 (fun a i _ _ => g3 a i (by omega)))
        refine ⟨m3, ?_, (F1.tr (FrF.of (fun a i => by
          by_cases e : a = 70
          · exact Or.inr (Or.inr (Or.inr (Or.inl (by omega))))
          · exact Or.inr (Or.inr (Or.inr (Or.inr (g3 a i e))))))).tr k2, fun a i h => (k3 a i h).trans ((g3 a i (by omega)).trans (f1.1 a i (by omega)))⟩
        refine Ev.iload_n d_Mo_place_29 rfl ?_
        refine Ev.if_eq (tgt := 129) d_Mo_place_30 rfl (by first | omega | (simp [mu]; done) | (simp [mu]; omega)) (fun hb30 => by exfalso; first | omega | simp at hb30 | contradiction) (fun hb30 => ?_)
        refine Ev.aload_n d_Mo_place_33 rfl ?_
        refine Ev.callV d_Mo_place_34 mt_Mo_rowMany lk_Mo_212 in_Mo_rowMany se_Mo_rowMany rfl (Nat.le_of_ble_eq_true rfl) rfl (Nat.le_of_ble_eq_true rfl) (by decide) (is_57 hM) (by decide) rfl rfl (c_Mo_rowMany hM hR hlx) ?_
        refine Ev.aload_n d_Mo_place_37 rfl ?_
        refine Ev.gr 2 d_Mo_place_38 lf_Mo_13 rfl rfl (is_57 hM) (by decide) (rf_57_2 hM) ?_
        refine Ev.iload_n d_Mo_place_41 rfl ?_
        refine Ev.iaload d_Mo_place_42 (is_59 hM) (by first | omega | (simp [mu]; done) | (simp [mu]; omega)) ?_
        refine Ev.icmp_ne (tgt := 115) d_Mo_place_43 rfl (by first | omega | (simp [mu]; done) | (simp [mu]; omega)) (by first | omega | (simp [mu]; done) | (simp [mu]; omega)) (fun hb43 => by exfalso; first | omega | simp at hb43 | contradiction) (fun hb43 => ?_)
        refine Ev.aload_n d_Mo_place_46 rfl ?_
        refine Ev.aload_n d_Mo_place_47 rfl ?_
        refine Ev.gr 1 d_Mo_place_48 lf_Mo_7 rfl rfl (is_57 hM) (by decide) (rf_57_1 hM) ?_
        refine Ev.iload_n d_Mo_place_51 rfl ?_
        refine Ev.iaload d_Mo_place_52 (is_58 hM) (by first | omega | (simp [mu]; done) | (simp [mu]; omega)) ?_
        refine Ev.bipush d_Mo_place_53 rfl ?_
        refine Ev.callVv d_Mo_place_55 mt_Mo_layRow lk_Mo_216 in_Mo_layRow se_Mo_layRow rfl (Nat.le_of_ble_eq_true rfl) rfl (Nat.le_of_ble_eq_true rfl) (by decide) (is_57 hM) (by decide) rfl rfl q1' ?_
        refine Ev.iconst d_Mo_place_58 ?_
        refine Ev.istore_4 d_Mo_place_59 rfl ?_
        refine Ev.iconst d_Mo_place_61 ?_
        refine Ev.istore_5 d_Mo_place_62 rfl ?_
        refine lps_Mo_place hM hp hP1 hK p1 hKl d.toNat 0 1 (by omega) (by omega) (Or.inr rfl) ?_
        rw [hs0]
        refine Ev.iload d_Mo_place_105 rfl ?_
        refine Ev.if_eq (tgt := 112) d_Mo_place_107 rfl (by first | omega | (simp [mu]; done) | (simp [mu]; omega)) (fun hb107 => ?_) (fun hb107 => by exfalso; first | omega | simp at hb107 | contradiction)
        refine Ev.iinc_2 d_Mo_place_112 rfl ?_
        refine Ev.aload_n d_Mo_place_115 rfl ?_
        refine Ev.aload_n d_Mo_place_116 rfl ?_
        refine Ev.gr 1 d_Mo_place_117 lf_Mo_7 rfl rfl (is_57 hM) (by decide) (rf_57_1 hM) ?_
        refine Ev.iload_n d_Mo_place_120 rfl ?_
        refine Ev.iaload d_Mo_place_121 (is_58 hM) (by first | omega | (simp [mu]; done) | (simp [mu]; omega)) ?_
        refine Ev.callV d_Mo_place_122 mt_Mo_nextRow lk_Mo_220 in_Mo_nextRow se_Mo_nextRow rfl (Nat.le_of_ble_eq_true rfl) rfl (Nat.le_of_ble_eq_true rfl) (by decide) (is_57 hM) (by decide) rfl rfl g1' ?_
        refine Ev.istore_3 d_Mo_place_125 rfl ?_
        refine Ev.goto (tgt := 29) d_Mo_place_126 rfl ?_
        exact k1
    · have ep : plL d L (l :: (l2 :: t)) n = plL d L (l2 :: t) n := by
        show (if l.length = L.length then _ else _) = _
        rw [if_neg hN]
      rw [ep]
      obtain ⟨m2, g1, g2, g3⟩ := c_Mo_nextRow hM hd hR hlx h6
      rw [hc.1, b01_t (by simp)] at g1
      have g1' := g1
      rw [← hP.1] at g1'
      obtain ⟨m3, k1, k2, k3⟩ := lp_Mo_place hM hp hK t l2 m2 n x4 x5 hc.2 (fun y h => hy y (List.mem_cons_of_mem _ h)) (g2 _ hc.1) (PM_fr hP (fun a i _ _ => g3 a i (by omega)))
      refine ⟨m3, ?_, (FrF.of (fun a i => by
        by_cases e : a = 70
        · exact Or.inr (Or.inr (Or.inr (Or.inl (by omega))))
        · exact Or.inr (Or.inr (Or.inr (Or.inr (g3 a i e)))))).tr k2, fun a i h => (k3 a i h).trans (g3 a i (by omega))⟩
      refine Ev.iload_n d_Mo_place_29 rfl ?_
      refine Ev.if_eq (tgt := 129) d_Mo_place_30 rfl (by first | omega | (simp [mu]; done) | (simp [mu]; omega)) (fun hb30 => by exfalso; first | omega | simp at hb30 | contradiction) (fun hb30 => ?_)
      refine Ev.aload_n d_Mo_place_33 rfl ?_
      refine Ev.callV d_Mo_place_34 mt_Mo_rowMany lk_Mo_212 in_Mo_rowMany se_Mo_rowMany rfl (Nat.le_of_ble_eq_true rfl) rfl (Nat.le_of_ble_eq_true rfl) (by decide) (is_57 hM) (by decide) rfl rfl (c_Mo_rowMany hM hR hlx) ?_
      refine Ev.aload_n d_Mo_place_37 rfl ?_
      refine Ev.gr 2 d_Mo_place_38 lf_Mo_13 rfl rfl (is_57 hM) (by decide) (rf_57_2 hM) ?_
      refine Ev.iload_n d_Mo_place_41 rfl ?_
      refine Ev.iaload d_Mo_place_42 (is_59 hM) (by first | omega | (simp [mu]; done) | (simp [mu]; omega)) ?_
      refine Ev.icmp_ne (tgt := 115) d_Mo_place_43 rfl (by first | omega | (simp [mu]; done) | (simp [mu]; omega)) (by first | omega | (simp [mu]; done) | (simp [mu]; omega)) (fun hb43 => ?_) (fun hb43 => by exfalso; first | omega | simp at hb43 | contradiction)
      refine Ev.aload_n d_Mo_place_115 rfl ?_
      refine Ev.aload_n d_Mo_place_116 rfl ?_
      refine Ev.gr 1 d_Mo_place_117 lf_Mo_7 rfl rfl (is_57 hM) (by decide) (rf_57_1 hM) ?_
      refine Ev.iload_n d_Mo_place_120 rfl ?_
      refine Ev.iaload d_Mo_place_121 (is_58 hM) (by first | omega | (simp [mu]; done) | (simp [mu]; omega)) ?_
      refine Ev.callV d_Mo_place_122 mt_Mo_nextRow lk_Mo_220 in_Mo_nextRow se_Mo_nextRow rfl (Nat.le_of_ble_eq_true rfl) rfl (Nat.le_of_ble_eq_true rfl) (by decide) (is_57 hM) (by decide) rfl rfl g1' ?_
      refine Ev.istore_3 d_Mo_place_125 rfl ?_
      refine Ev.goto (tgt := 29) d_Mo_place_126 rfl ?_
      exact k1
theorem c_Mo_place (hM : MoS σ) {S : PS} (hS : MS m S) (hF : MF m) {p : Int} (h1 : -2147483648 ≤ p ∧ p ≤ 2147483647) : ∃ m', Call 7 m_Mo_place [vr 57, vi p] σ m (some (vi (sp_place S p))) σ m' ∧ MF m' ∧ FrG m m' := by
  have hS1 := hS.1
  have hS2 := hS.2.1
  by_cases hp : 0 ≤ p ∧ p < S.1
  · obtain ⟨hPM, hK⟩ := hS.2.2 p hp.1 hp.2
    by_cases hr : right (S.2.1 p) (S.2.2 p) = true
    · rw [sp_place, if_pos hp, if_pos hr]
      obtain ⟨m1, q1, q2, q3⟩ := c_Mo_clearRow (m := m) hM
      obtain ⟨t, ht⟩ := RL_hd hK.1
      obtain ⟨m2, g1, g2, g3⟩ := lp_Mo_place (σ := σ) (p := p) hM (by omega) hK t [] m1 0 none none (by rw [← ht]; exact RL_chk hK.1) (by rw [← ht]; exact fun y h => h) q2 (PM_fr hPM (fun a i _ _ => q3 a i (by omega)))
      rw [← ht] at g1
      refine ⟨m2, ?_, MF_fr hF (fun a i x y => (g3 a i (by omega)).trans (q3 a i (by omega))), fun a i x1 x2 x3 x4 => (g2 a i x1 x2 x3 (by omega) (by omega) (by omega)).trans (q3 a i (by omega))⟩
      show Ev 7 m_Mo_place 0 [some (vr 57), some (vi p), none, none, none, none] [] σ m _ σ _
      refine Ev.aload_n d_Mo_place_0 rfl ?_
      refine Ev.iload_n d_Mo_place_1 rfl ?_
      refine Ev.callV d_Mo_place_2 mt_Mo_is lk_Mo_117 in_Mo_is se_Mo_is rfl (Nat.le_of_ble_eq_true rfl) rfl (Nat.le_of_ble_eq_true rfl) (by decide) (is_57 hM) (by decide) rfl rfl (c_Mo_is hM (by omega) (by omega)) ?_
      refine Ev.if_ne (tgt := 10) d_Mo_place_5 rfl b01_b (fun hb5 => ?_) (fun hb5 => by exfalso; (first | rw [b01_ne] at hb5 | rw [b01_eq] at hb5); omega)
      rw [b01_ne] at hb5
      refine Ev.aload_n d_Mo_place_10 rfl ?_
      refine Ev.iload_n d_Mo_place_11 rfl ?_
      refine Ev.callV d_Mo_place_12 mt_Mo_isRight lk_Mo_134 in_Mo_isRight se_Mo_isRight rfl (Nat.le_of_ble_eq_true rfl) rfl (Nat.le_of_ble_eq_true rfl) (by decide) (is_57 hM) (by decide) rfl rfl (c_Mo_isRight hM (by omega) hPM hK) ?_
      rw [b01_t hr]
      refine Ev.if_ne (tgt := 21) d_Mo_place_15 rfl (by first | omega | (simp [mu]; done) | (simp [mu]; omega)) (fun hb15 => ?_) (fun hb15 => by exfalso; first | omega | simp at hb15 | contradiction)
      refine Ev.aload_n d_Mo_place_21 rfl ?_
      refine Ev.callVv d_Mo_place_22 mt_Mo_clearRow lk_Mo_209 in_Mo_clearRow se_Mo_clearRow rfl (Nat.le_of_ble_eq_true rfl) rfl (Nat.le_of_ble_eq_true rfl) (by decide) (is_57 hM) (by decide) rfl rfl q1 ?_
      refine Ev.iconst d_Mo_place_25 ?_
      refine Ev.istore_2 d_Mo_place_26 rfl ?_
      refine Ev.iconst d_Mo_place_27 ?_
      refine Ev.istore_3 d_Mo_place_28 rfl ?_
      exact g1
    · rw [sp_place, if_pos hp, if_neg hr]
      refine ⟨m, ?_, hF, fun _ _ _ _ _ _ => rfl⟩
      show Ev 7 m_Mo_place 0 [some (vr 57), some (vi p), none, none, none, none] [] σ m _ σ _
      refine Ev.aload_n d_Mo_place_0 rfl ?_
      refine Ev.iload_n d_Mo_place_1 rfl ?_
      refine Ev.callV d_Mo_place_2 mt_Mo_is lk_Mo_117 in_Mo_is se_Mo_is rfl (Nat.le_of_ble_eq_true rfl) rfl (Nat.le_of_ble_eq_true rfl) (by decide) (is_57 hM) (by decide) rfl rfl (c_Mo_is hM (by omega) (by omega)) ?_
      refine Ev.if_ne (tgt := 10) d_Mo_place_5 rfl b01_b (fun hb5 => ?_) (fun hb5 => by exfalso; (first | rw [b01_ne] at hb5 | rw [b01_eq] at hb5); omega)
      rw [b01_ne] at hb5
      refine Ev.aload_n d_Mo_place_10 rfl ?_
      refine Ev.iload_n d_Mo_place_11 rfl ?_
      refine Ev.callV d_Mo_place_12 mt_Mo_isRight lk_Mo_134 in_Mo_isRight se_Mo_isRight rfl (Nat.le_of_ble_eq_true rfl) rfl (Nat.le_of_ble_eq_true rfl) (by decide) (is_57 hM) (by decide) rfl rfl (c_Mo_isRight hM (by omega) hPM hK) ?_
      rw [b01_f hr]
      refine Ev.if_ne (tgt := 21) d_Mo_place_15 rfl (by first | omega | (simp [mu]; done) | (simp [mu]; omega)) (fun hb15 => by exfalso; first | omega | simp at hb15 | contradiction) (fun hb15 => ?_)
      refine Ev.bipush d_Mo_place_18 rfl ?_
      exact Ev.to (Ev.ireturn d_Mo_place_20 rfl) rfl rfl
  · rw [sp_place, if_neg hp]
    refine ⟨m, ?_, hF, fun _ _ _ _ _ _ => rfl⟩
    show Ev 7 m_Mo_place 0 [some (vr 57), some (vi p), none, none, none, none] [] σ m _ σ _
    refine Ev.aload_n d_Mo_place_0 rfl ?_
    refine Ev.iload_n d_Mo_place_1 rfl ?_
    refine Ev.callV d_Mo_place_2 mt_Mo_is lk_Mo_117 in_Mo_is se_Mo_is rfl (Nat.le_of_ble_eq_true rfl) rfl (Nat.le_of_ble_eq_true rfl) (by decide) (is_57 hM) (by decide) rfl rfl (c_Mo_is hM (by omega) (by omega)) ?_
    refine Ev.if_ne (tgt := 10) d_Mo_place_5 rfl b01_b (fun hb5 => by exfalso; (first | rw [b01_ne] at hb5 | rw [b01_eq] at hb5); omega) (fun hb5 => ?_)
    rw [b01_eq] at hb5
    refine Ev.iconst d_Mo_place_8 ?_
    exact Ev.to (Ev.ireturn d_Mo_place_9 rfl) rfl rfl
end
