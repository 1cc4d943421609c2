section
variable {σ : Sg} {m : Mm}
def mkc (d : Int) (l : List Int) : Int := match tmk d.toNat 100 l with
  | some T => (gtT T (ixT d.toNat 100 l 0) : Int)
  | none => 0
def RMV : Prop := ∀ (J : Int → Int) (d : Int) (l : List Int), 1 ≤ d ∧ d ≤ 4 → l ∈ RL d → mkd J d (-4) 0 l = mkc d l
theorem RL_mul {d : Int} (hd : 1 ≤ d ∧ d ≤ 4) : ∀ l ∈ RL d, (0 ≤ mulL l ∧ mulL l ≤ 2000000000) ∧ 0 ≤ sgL 1 l ∧ sgL 1 l ≤ 1 :=
  dcase (p := fun d => ∀ l ∈ RL d, (0 ≤ mulL l ∧ mulL l ≤ 2000000000) ∧ 0 ≤ sgL 1 l ∧ sgL 1 l ≤ 1) hd (by decide +kernel) (by decide +kernel) (by decide +kernel) (by decide +kernel)
def fo (g : List Int → Int) (N : Int) : List (List Int) → Int → Int
  | [], a => a
  | l :: t, a => fo g N t (if (l.length : Int) = N then a + g l else a)
def gC (d : Int) (l : List Int) : Int := mkc d l * mulL l
def gS (d : Int) (l : List Int) : Int := mkc d l * sgL 1 l
def gP (d k : Int) (l : List Int) : Int := mkc d l * pwL l pw0 k
def g1 (_ : List Int) : Int := 1
def nst (d n : Int) : Int := d * (d - 1) / 2 - n
def FrF (at_ : Int) (m m' : Mm) : Prop := ∀ a i : Int, ¬ (a = 57 ∧ (i = 8 ∨ i = 13)) → ((a = 58 ∨ a = 59) → i ≠ 8) → ((a = 60 ∨ a = 61 ∨ a = 62) → i < 48 ∨ 54 ≤ i) → (a < 63 ∨ 70 < a) → ((a = 72 ∨ a = 73 ∨ a = 74) → i ≠ at_) → (a = 75 → i < 37 * at_ ∨ 37 * at_ + 37 ≤ i) → m' a i = m a i
theorem FrF.tr {at_ : Int} {m m1 m2 : Mm} (h : FrF at_ m m1) (h2 : FrF at_ m1 m2) : FrF at_ m m2 := fun a i x1 x2 x3 x4 x5 x6 => (h2 a i x1 x2 x3 x4 x5 x6).trans (h a i x1 x2 x3 x4 x5 x6)
theorem PM_mu {p d a i x : Int} {l : List Int} (h : PM m p d l) (ha : 62 < a) : PM (mu m a i x) p d l :=
  ⟨(mu_a (by omega)).trans h.1, (mu_a (by omega)).trans h.2.1, At_eq (fun j _ _ => ⟨mu_a (by omega), mu_a (by omega), mu_a (by omega)⟩) h.2.2⟩
theorem PM_fr {p d : Int} {l : List Int} {m' : Mm} (h : PM m p d l) (ha : ∀ a i : Int, 58 ≤ a → a ≤ 62 → m' a i = m a i) : PM m' p d l :=
  ⟨(ha 58 p (by decide) (by decide)).trans h.1, (ha 59 p (by decide) (by decide)).trans h.2.1, At_eq (fun j _ _ => ⟨ha 60 j (by decide) (by decide), ha 61 j (by decide) (by decide), ha 62 j (by decide) (by decide)⟩) h.2.2⟩
theorem lps_Mo_find (hM : MoS σ) {d n at_ v : Int} {pw e : Int → Int} (ha : 0 ≤ at_ ∧ at_ < 35) {r : Option AV} {Post : Mm → Prop} : ∀ (q : Nat) (k : Int) (m : Mm), k + q = 37 → 0 ≤ k → (∀ j, 0 ≤ j → j < 37 → m 63 j = pw j) → (∀ j, 0 ≤ j → j < 37 → m 75 (37 * at_ + j) = if j < k then e j + v * pw j else e j) → (∀ m' : Mm, (∀ a i : Int, (a = 75 → i < 37 * at_ ∨ 37 * at_ + 37 ≤ i) → m' a i = m a i) → (∀ j, 0 ≤ j → j < 37 → m' 75 (37 * at_ + j) = e j + v * pw j) → ∃ mF, Ev 6 m_Mo_find 165 [some (vr 57), some (vi d), some (vi n), some (vi at_), some (vi 1), some (vl v), none, some (vi 37)] [] σ m' r σ mF ∧ Post mF) → ∃ mF, Ev 6 m_Mo_find 127 [some (vr 57), some (vi d), some (vi n), some (vi at_), some (vi 1), some (vl v), none, some (vi k)] [] σ m r σ mF ∧ Post mF
  | 0, k, m, hk, h0, hp, he, c => by
    obtain ⟨mF, g1, g2⟩ := c m (fun _ _ _ => rfl) (fun j a b => by rw [he j a b, if_pos (by omega)])
    refine ⟨mF, ?_, g2⟩
    obtain rfl : k = 37 := by omega
    refine Ev.iload d_Mo_find_127 rfl ?_
    refine Ev.bipush d_Mo_find_129 rfl ?_
    refine Ev.icmp_ge (tgt := 165) d_Mo_find_131 rfl (by first | omega | (simp [mu]; done) | (simp [mu]; omega)) (by first | omega | (simp [mu]; done) | (simp [mu]; omega)) (fun hb131 => ?_) (fun hb131 => by exfalso; first | omega | simp at hb131 | contradiction)
    exact g1
  | q + 1, k, m, hk, h0, hp, he, c => by
    have e63 := hp k h0 (by omega)
    have e75 := he k h0 (by omega)
    rw [if_neg (by omega)] at e75
    obtain ⟨mF, g1, g2⟩ := lps_Mo_find hM ha q (k + 1) (mu m 75 (37 * at_ + k) (e k + v * pw k)) (by omega) (by omega) (fun j a b => (mu_a (by decide)).trans (hp j a b)) (fun j a b => by
      by_cases ej : j = k
      · subst ej; rw [mu_s, if_pos (by omega)]
      · rw [mu_n (Or.inr (by omega)), he j a b]
        by_cases h1 : j < k
        · rw [if_pos h1, if_pos (by omega)]
        · rw [if_neg h1, if_neg (by omega)]) (fun m' a b => c m' (fun x i hx => (a x i hx).trans (mu_n (by
          by_cases h75 : x = 75
          · right; have := hx h75; omega
          · left; exact h75))) b)
    refine ⟨mF, ?_, g2⟩
    refine Ev.iload d_Mo_find_127 rfl ?_
    refine Ev.bipush d_Mo_find_129 rfl ?_
    refine Ev.icmp_ge (tgt := 165) d_Mo_find_131 rfl (by first | omega | (simp [mu]; done) | (simp [mu]; omega)) (by first | omega | (simp [mu]; done) | (simp [mu]; omega)) (fun hb131 => by exfalso; first | omega | simp at hb131 | contradiction) (fun hb131 => ?_)
    refine Ev.aload_n d_Mo_find_134 rfl ?_
    refine Ev.gr 20 d_Mo_find_135 lf_Mo_64 rfl rfl (is_57 hM) (by decide) (rf_57_20 hM) ?_
    refine Ev.bipush d_Mo_find_138 rfl ?_
    refine Ev.iload_n d_Mo_find_140 rfl ?_
    refine Ev.imul d_Mo_find_141 ?_
    refine Ev.iload d_Mo_find_142 rfl ?_
    refine Ev.iadd d_Mo_find_144 ?_
    refine Ev.dup2 d_Mo_find_145 rfl rfl ?_
    refine Ev.laload d_Mo_find_146 (is_75 hM) (by omega) ?_
    refine Ev.lload d_Mo_find_147 rfl ?_
    refine Ev.aload_n d_Mo_find_149 rfl ?_
    refine Ev.gr 6 d_Mo_find_150 lf_Mo_25 rfl rfl (is_57 hM) (by decide) (rf_57_6 hM) ?_
    refine Ev.iload d_Mo_find_153 rfl ?_
    refine Ev.laload d_Mo_find_155 (is_63 hM) (by omega) ?_
    rw [e63, e75]
    refine Ev.lmul d_Mo_find_156 ?_
    refine Ev.ladd d_Mo_find_157 ?_
    refine Ev.lastore d_Mo_find_158 (is_75 hM) (by decide) (by omega) ?_
    refine Ev.iinc_7 d_Mo_find_159 rfl ?_
    refine Ev.goto (tgt := 127) d_Mo_find_162 rfl ?_
    exact g1
def FIN (d n at_ : Int) (t : List (List Int)) (m m' : Mm) : Prop := m' 72 at_ = fo (gC d) (nst d n) t (m 72 at_) ∧ m' 73 at_ = fo (gS d) (nst d n) t (m 73 at_) ∧ m' 74 at_ = fo g1 (nst d n) t (m 74 at_) ∧ (∀ k, 0 ≤ k → k < 37 → m' 75 (37 * at_ + k) = fo (gP d k) (nst d n) t (m 75 (37 * at_ + k))) ∧ FrF at_ m m'
theorem FIN.c {d n at_ : Int} {t : List (List Int)} {m m' : Mm} (h : FIN d n at_ t m m') : m' 72 at_ = fo (gC d) (nst d n) t (m 72 at_) := h.1
theorem FIN.s {d n at_ : Int} {t : List (List Int)} {m m' : Mm} (h : FIN d n at_ t m m') : m' 73 at_ = fo (gS d) (nst d n) t (m 73 at_) := h.2.1
theorem FIN.l {d n at_ : Int} {t : List (List Int)} {m m' : Mm} (h : FIN d n at_ t m m') : m' 74 at_ = fo g1 (nst d n) t (m 74 at_) := h.2.2.1
theorem FIN.p {d n at_ : Int} {t : List (List Int)} {m m' : Mm} (h : FIN d n at_ t m m') : ∀ k, 0 ≤ k → k < 37 → m' 75 (37 * at_ + k) = fo (gP d k) (nst d n) t (m 75 (37 * at_ + k)) := h.2.2.2.1
theorem FIN.f {d n at_ : Int} {t : List (List Int)} {m m' : Mm} (h : FIN d n at_ t m m') : FrF at_ m m' := h.2.2.2.2
theorem fo_app (g : List Int → Int) (N : Int) : ∀ (a b : List (List Int)) (x : Int), fo g N (a ++ b) x = fo g N b (fo g N a x)
  | [], b, x => rfl
  | l :: t, b, x => by simp only [List.cons_append, fo, fo_app g N t b]
theorem FIN.tr {d n at_ : Int} {a b : List (List Int)} {m m1 m2 : Mm} (h : FIN d n at_ a m m1) (h2 : FIN d n at_ b m1 m2) : FIN d n at_ (a ++ b) m m2 :=
  ⟨by rw [fo_app, ← h.c]; exact h2.c, by rw [fo_app, ← h.s]; exact h2.s, by rw [fo_app, ← h.l]; exact h2.l, fun k x y => by rw [fo_app, ← h.p k x y]; exact h2.p k x y, h.f.tr h2.f⟩
theorem FrF.of {at_ : Int} {m m' : Mm} (h : ∀ a i : Int, (a = 57 ∧ (i = 8 ∨ i = 13)) ∨ ((a = 58 ∨ a = 59) ∧ i = 8) ∨ ((a = 60 ∨ a = 61 ∨ a = 62) ∧ 48 ≤ i ∧ i < 54) ∨ (63 ≤ a ∧ a ≤ 70) ∨ m' a i = m a i) : FrF at_ m m' := fun a i x1 x2 x3 x4 x5 x6 => by
  rcases h a i with h | h | h | h | h
  · exact absurd h x1
  · exact absurd h.2 (x2 h.1)
  · have := x3 h.1; omega
  · omega
  · exact h
theorem FIN.no {d n at_ : Int} {l : List Int} {m m' : Mm} (hl : ¬ (l.length : Int) = nst d n) (hf : FrF at_ m m') (hs : ∀ a i : Int, 70 < a → m' a i = m a i) : FIN d n at_ [l] m m' :=
  ⟨by simp only [fo]; rw [if_neg hl, hs 72 _ (by decide)], by simp only [fo]; rw [if_neg hl, hs 73 _ (by decide)], by simp only [fo]; rw [if_neg hl, hs 74 _ (by decide)], fun k _ _ => by simp only [fo]; rw [if_neg hl, hs 75 _ (by decide)], hf⟩
theorem bd_Mo_find (hM : MoS σ) (hV : RMV) {d n at_ : Int} {l : List Int} (hd : 1 ≤ d ∧ d ≤ 4) (hn : 0 ≤ n ∧ n ≤ 6) (ha : 0 ≤ at_ ∧ at_ < 35) (hl : l ∈ RL d) {x5 x7 : Option AV} (hR : RW m l) {r : Option AV} {Post : Mm → Prop} (c : ∀ (m' : Mm) (x5 x7 : Option AV), RW m' l → FIN d n at_ [l] m m' → ∃ mF, Ev 6 m_Mo_find 165 [some (vr 57), some (vi d), some (vi n), some (vi at_), some (vi 1), x5, none, x7] [] σ m' r σ mF ∧ Post mF) : ∃ mF, Ev 6 m_Mo_find 31 [some (vr 57), some (vi d), some (vi n), some (vi at_), some (vi 1), x5, none, x7] [] σ m r σ mF ∧ Post mF := by
  obtain ⟨hK, hr, hI⟩ := RL_ok hd l hl
  obtain ⟨hmu, hsg⟩ := RL_mul hd l hl
  have h6 := hK.2.1
  have hlx : ∀ x ∈ l, 0 ≤ x ∧ x < 24 := fun x hx => ⟨(hK.2.2.2 x hx).1, (hK.2.2.2 x hx).2.1⟩
  have hdd : 0 ≤ d * (d - 1) ∧ d * (d - 1) ≤ 12 := by rcases (show d = 1 ∨ d = 2 ∨ d = 3 ∨ d = 4 by omega) with rfl | rfl | rfl | rfl <;> decide
  by_cases hN : (l.length : Int) = nst d n
  · obtain ⟨m1, q1, p1, f1⟩ := c_Mo_layRow hM (p := 8) (by decide) hK hR
    obtain ⟨m2, q2, f2⟩ := c_Mo_marked (gap := -4) (wanted := 0) hM (by decide) p1 hK hI (by decide) (by decide)
    rw [hV _ d l hd hl] at q2
    have p2 := f2.PM p1
    obtain ⟨m3, q3, w3, f3⟩ := c_Mo_layPowers hM (by decide) p2 hK
    have p3 : PM m3 8 d l := PM_fr p2 (fun a i h1 h2 => f3 a i (by omega) (by omega))
    have hi : ∀ a i : Int, 70 < a → m3 a i = m a i := fun a i h => (f3 a i (by omega) (by omega)).trans ((f2 a i (by omega) (by omega)).trans (f1.1 a i (by omega)))
    have e70 : ∀ i : Int, m3 70 i = m 70 i := fun i => (f3 70 i (by decide) (by decide)).trans ((f2 70 i (by omega) (by omega)).trans (f1.1 70 i (by omega)))
    have F3 : FrF at_ m m3 := FrF.of (fun a i => by
      by_cases c1 : (a = 57 ∧ (i = 8 ∨ i = 13))
      · exact Or.inl c1
      by_cases c2 : 63 ≤ a ∧ a ≤ 70
      · exact Or.inr (Or.inr (Or.inr (Or.inl c2)))
      have e23 : m3 a i = m1 a i := (f3 a i (by omega) (by omega)).trans (f2 a i c1 (by omega))
      by_cases c3 : a = 58 ∨ a = 59
      · by_cases c4 : i = 8
        · exact Or.inr (Or.inl ⟨c3, c4⟩)
        · refine Or.inr (Or.inr (Or.inr (Or.inr ?_)))
          rw [e23]
          rcases c3 with rfl | rfl
          · exact (f1.2.1 i c4).1
          · exact (f1.2.1 i c4).2
      by_cases c5 : a = 60 ∨ a = 61 ∨ a = 62
      · by_cases c6 : 48 ≤ i ∧ i < 54
        · exact Or.inr (Or.inr (Or.inl ⟨c5, c6⟩))
        · refine Or.inr (Or.inr (Or.inr (Or.inr ?_)))
          rw [e23]
          exact f1.2.2 a i c5 (by omega)
      · refine Or.inr (Or.inr (Or.inr (Or.inr ?_)))
        rw [e23]
        exact f1.1 a i (by omega))
    have p4 : PM (mu m3 72 at_ (m3 72 at_ + mkc d l * mulL l)) 8 d l := PM_mu p3 (by decide)
    obtain ⟨mF, g1, g2⟩ := lps_Mo_find (σ := σ) (r := r) (Post := Post) (v := mkc d l) (d := d) (n := n) (pw := fun j => pwL l pw0 j) (e := fun j => m 75 (37 * at_ + j)) hM ha 37 0 (mu (mu (mu m3 72 at_ (m3 72 at_ + mkc d l * mulL l)) 73 at_ (m3 73 at_ + mkc d l * sgL 1 l)) 74 at_ (m3 74 at_ + 1)) (by decide) (by decide) (fun j a b => by rw [mu_a (by decide), mu_a (by decide), mu_a (by decide)]; exact w3 j a b) (fun j a b => by rw [mu_a (by decide), mu_a (by decide), mu_a (by decide), if_neg (by omega)]; exact hi 75 _ (by decide)) (fun m' a b => by
      refine c m' _ _ (fun j x y => ?_) ⟨?_, ?_, ?_, fun k x y => ?_, fun a1 i x1 x2 x3 x4 x5 x6 => ?_⟩
      · rw [a 70 j (by omega), mu_a (by decide), mu_a (by decide), mu_a (by decide), e70]; exact hR j x y
      · simp only [fo]; rw [if_pos hN, a 72 at_ (by omega), mu_a (by decide), mu_a (by decide), mu_s, hi 72 _ (by decide)]; rfl
      · simp only [fo]; rw [if_pos hN, a 73 at_ (by omega), mu_a (by decide), mu_s, hi 73 _ (by decide)]; rfl
      · simp only [fo]; rw [if_pos hN, a 74 at_ (by omega), mu_s, hi 74 _ (by decide)]; rfl
      · simp only [fo]; rw [if_pos hN, b k x y]; rfl
      · rw [a a1 i x6, mu_n (by omega), mu_n (by omega), mu_n (by omega)]; exact F3 a1 i x1 x2 x3 x4 x5 x6)
    refine ⟨mF, ?_, g2⟩
    unfold nst at hN
    refine Ev.iload d_Mo_find_31 rfl ?_
    refine Ev.if_eq (tgt := 175) d_Mo_find_33 rfl (by first | omega | (simp [mu]; done) | (simp [mu]; omega)) (fun hb33 => by exfalso; first | omega | simp at hb33 | contradiction) (fun hb33 => ?_)
    refine Ev.aload_n d_Mo_find_36 rfl ?_
    refine Ev.callV d_Mo_find_37 mt_Mo_rowMany lk_Mo_212 in_Mo_rowMany se_Mo_rowMany rfl (Nat.le_of_ble_eq_true rfl) rfl (Nat.le_of_ble_eq_true rfl) (by decide) (is_57 hM) (by decide) rfl rfl (c_Mo_rowMany hM hR hlx) ?_
    refine Ev.iload_n d_Mo_find_40 rfl ?_
    refine Ev.iload_n d_Mo_find_41 rfl ?_
    refine Ev.iconst d_Mo_find_42 ?_
    refine Ev.isub d_Mo_find_43 ?_
    refine Ev.imul d_Mo_find_44 ?_
    refine Ev.iconst d_Mo_find_45 ?_
    refine Ev.idiv d_Mo_find_46 (by first | omega | (simp [mu]; done) | (simp [mu]; omega)) (by first | omega | (simp [mu]; done) | (simp [mu]; omega)) ?_
    refine Ev.iload_n d_Mo_find_47 rfl ?_
    refine Ev.isub d_Mo_find_48 ?_
    refine Ev.icmp_ne (tgt := 165) d_Mo_find_49 rfl (by first | omega | (simp [mu]; done) | (simp [mu]; omega)) (by first | omega | (simp [mu]; done) | (simp [mu]; omega)) (fun hb49 => by exfalso; first | omega | simp at hb49 | contradiction) (fun hb49 => ?_)
    refine Ev.aload_n d_Mo_find_52 rfl ?_
    refine Ev.iload_n d_Mo_find_53 rfl ?_
    refine Ev.bipush d_Mo_find_54 rfl ?_
    refine Ev.callVv d_Mo_find_56 mt_Mo_layRow lk_Mo_216 in_Mo_layRow se_Mo_layRow rfl (Nat.le_of_ble_eq_true rfl) rfl (Nat.le_of_ble_eq_true rfl) (by decide) (is_57 hM) (by decide) rfl rfl q1 ?_
    refine Ev.aload_n d_Mo_find_59 rfl ?_
    refine Ev.bipush d_Mo_find_60 rfl ?_
    refine Ev.bipush d_Mo_find_62 rfl ?_
    refine Ev.iconst d_Mo_find_64 ?_
    refine Ev.callV d_Mo_find_65 mt_Mo_marked lk_Mo_184 in_Mo_marked se_Mo_marked rfl (Nat.le_of_ble_eq_true rfl) rfl (Nat.le_of_ble_eq_true rfl) (by decide) (is_57 hM) (by decide) rfl rfl q2 ?_
    refine Ev.lstore_5 d_Mo_find_68 rfl ?_
    refine Ev.aload_n d_Mo_find_70 rfl ?_
    refine Ev.bipush d_Mo_find_71 rfl ?_
    refine Ev.callVv d_Mo_find_73 mt_Mo_layPowers lk_Mo_156 in_Mo_layPowers se_Mo_layPowers rfl (Nat.le_of_ble_eq_true rfl) rfl (Nat.le_of_ble_eq_true rfl) (by decide) (is_57 hM) (by decide) rfl rfl q3 ?_
    refine Ev.aload_n d_Mo_find_76 rfl ?_
    refine Ev.gr 17 d_Mo_find_77 lf_Mo_55 rfl rfl (is_57 hM) (by decide) (rf_57_17 hM) ?_
    refine Ev.iload_n d_Mo_find_80 rfl ?_
    refine Ev.dup2 d_Mo_find_81 rfl rfl ?_
    refine Ev.laload d_Mo_find_82 (is_72 hM) (by first | omega | (simp [mu]; done) | (simp [mu]; omega)) ?_
    refine Ev.lload d_Mo_find_83 rfl ?_
    refine Ev.aload_n d_Mo_find_85 rfl ?_
    refine Ev.bipush d_Mo_find_86 rfl ?_
    refine Ev.callV d_Mo_find_88 mt_Mo_multOf lk_Mo_144 in_Mo_multOf se_Mo_multOf rfl (Nat.le_of_ble_eq_true rfl) rfl (Nat.le_of_ble_eq_true rfl) (by decide) (is_57 hM) (by decide) rfl rfl (c_Mo_multOf hM (by decide) p3 hK) ?_
    refine Ev.i2l d_Mo_find_91 (by omega) ?_
    refine Ev.lmul d_Mo_find_92 ?_
    refine Ev.ladd d_Mo_find_93 ?_
    refine Ev.lastore d_Mo_find_94 (is_72 hM) (by decide) (by first | omega | (simp [mu]; done) | (simp [mu]; omega)) ?_
    refine Ev.aload_n d_Mo_find_95 rfl ?_
    refine Ev.gr 18 d_Mo_find_96 lf_Mo_58 rfl rfl (is_57 hM) (by decide) (rf_57_18 hM) ?_
    refine Ev.iload_n d_Mo_find_99 rfl ?_
    refine Ev.dup2 d_Mo_find_100 rfl rfl ?_
    refine Ev.laload d_Mo_find_101 (is_73 hM) (by first | omega | (simp [mu]; done) | (simp [mu]; omega)) ?_
    rw [mu_a (by decide)]
    refine Ev.lload d_Mo_find_102 rfl ?_
    refine Ev.aload_n d_Mo_find_104 rfl ?_
    refine Ev.bipush d_Mo_find_105 rfl ?_
    refine Ev.callV d_Mo_find_107 mt_Mo_signOf lk_Mo_147 in_Mo_signOf se_Mo_signOf rfl (Nat.le_of_ble_eq_true rfl) rfl (Nat.le_of_ble_eq_true rfl) (by decide) (is_57 hM) (by decide) rfl rfl (c_Mo_signOf hM (by decide) p4 hK) ?_
    refine Ev.i2l d_Mo_find_110 (by omega) ?_
    refine Ev.lmul d_Mo_find_111 ?_
    refine Ev.ladd d_Mo_find_112 ?_
    refine Ev.lastore d_Mo_find_113 (is_73 hM) (by decide) (by first | omega | (simp [mu]; done) | (simp [mu]; omega)) ?_
    refine Ev.aload_n d_Mo_find_114 rfl ?_
    refine Ev.gr 19 d_Mo_find_115 lf_Mo_61 rfl rfl (is_57 hM) (by decide) (rf_57_19 hM) ?_
    refine Ev.iload_n d_Mo_find_118 rfl ?_
    refine Ev.dup2 d_Mo_find_119 rfl rfl ?_
    refine Ev.iaload d_Mo_find_120 (is_74 hM) (by first | omega | (simp [mu]; done) | (simp [mu]; omega)) ?_
    rw [mu_a (by decide), mu_a (by decide)]
    refine Ev.iconst d_Mo_find_121 ?_
    refine Ev.iadd d_Mo_find_122 ?_
    refine Ev.iastore d_Mo_find_123 (is_74 hM) (by decide) (by first | omega | (simp [mu]; done) | (simp [mu]; omega)) ?_
    refine Ev.iconst d_Mo_find_124 ?_
    refine Ev.istore_7 d_Mo_find_125 rfl ?_
    exact g1
  · obtain ⟨mF, g1, g2⟩ := c m x5 x7 hR (FIN.no hN (fun _ _ _ _ _ _ _ _ => rfl) (fun _ _ _ => rfl))
    refine ⟨mF, ?_, g2⟩
    unfold nst at hN
    refine Ev.iload d_Mo_find_31 rfl ?_
    refine Ev.if_eq (tgt := 175) d_Mo_find_33 rfl (by first | omega | (simp [mu]; done) | (simp [mu]; omega)) (fun hb33 => by exfalso; first | omega | simp at hb33 | contradiction) (fun hb33 => ?_)
    refine Ev.aload_n d_Mo_find_36 rfl ?_
    refine Ev.callV d_Mo_find_37 mt_Mo_rowMany lk_Mo_212 in_Mo_rowMany se_Mo_rowMany rfl (Nat.le_of_ble_eq_true rfl) rfl (Nat.le_of_ble_eq_true rfl) (by decide) (is_57 hM) (by decide) rfl rfl (c_Mo_rowMany hM hR hlx) ?_
    refine Ev.iload_n d_Mo_find_40 rfl ?_
    refine Ev.iload_n d_Mo_find_41 rfl ?_
    refine Ev.iconst d_Mo_find_42 ?_
    refine Ev.isub d_Mo_find_43 ?_
    refine Ev.imul d_Mo_find_44 ?_
    refine Ev.iconst d_Mo_find_45 ?_
    refine Ev.idiv d_Mo_find_46 (by first | omega | (simp [mu]; done) | (simp [mu]; omega)) (by first | omega | (simp [mu]; done) | (simp [mu]; omega)) ?_
    refine Ev.iload_n d_Mo_find_47 rfl ?_
    refine Ev.isub d_Mo_find_48 ?_
    refine Ev.icmp_ne (tgt := 165) d_Mo_find_49 rfl (by first | omega | (simp [mu]; done) | (simp [mu]; omega)) (by first | omega | (simp [mu]; done) | (simp [mu]; omega)) (fun hb49 => ?_) (fun hb49 => by exfalso; first | omega | simp at hb49 | contradiction)
    exact g1
theorem FIN.row {d n at_ : Int} {t : List (List Int)} {m m1 m2 : Mm} (h : FIN d n at_ t m m1) (h2 : Fr70 m1 m2) : FIN d n at_ t m m2 :=
  ⟨(h2 72 _ (by decide)).trans h.c, (h2 73 _ (by decide)).trans h.s, (h2 74 _ (by decide)).trans h.l, fun k x y => (h2 75 _ (by decide)).trans (h.p k x y), h.f.tr (FrF.of (fun a i => by
    by_cases e : a = 70
    · exact Or.inr (Or.inr (Or.inr (Or.inl (by omega))))
    · exact Or.inr (Or.inr (Or.inr (Or.inr (h2 a i e))))))⟩
theorem lp_Mo_find (hM : MoS σ) (hV : RMV) {d n at_ : Int} (hd : 1 ≤ d ∧ d ≤ 4) (hn : 0 ≤ n ∧ n ≤ 6) (ha : 0 ≤ at_ ∧ at_ < 35) : ∀ (t : List (List Int)) (l : List Int) (m : Mm) (x5 x7 : Option AV), chk d (l :: t) = true → (∀ y ∈ l :: t, y ∈ RL d) → RW m l → ∃ m', Ev 6 m_Mo_find 31 [some (vr 57), some (vi d), some (vi n), some (vi at_), some (vi 1), x5, none, x7] [] σ m none σ m' ∧ FIN d n at_ (l :: t) m m'
  | [], l, m, x5, x7, hc, hy, hR => by
    have hl := hy l List.mem_cons_self
    have hK := (RL_ok hd l hl).1
    simp only [chk, beq_iff_eq] at hc
    refine bd_Mo_find hM hV hd hn ha hl hR (fun m' x5 x7 hR' hF => ?_)
    obtain ⟨m2, q1, q2, q3⟩ := c_Mo_nextRow hM hd hR' (fun x hx => ⟨(hK.2.2.2 x hx).1, (hK.2.2.2 x hx).2.1⟩) hK.2.1
    rw [hc, b01_f (by simp)] at q1
    refine ⟨m2, ?_, hF.row q3⟩
    refine Ev.aload_n d_Mo_find_165 rfl ?_
    refine Ev.iload_n d_Mo_find_166 rfl ?_
    refine Ev.callV d_Mo_find_167 mt_Mo_nextRow lk_Mo_220 in_Mo_nextRow se_Mo_nextRow rfl (Nat.le_of_ble_eq_true rfl) rfl (Nat.le_of_ble_eq_true rfl) (by decide) (is_57 hM) (by decide) rfl rfl q1 ?_
    refine Ev.istore_4 d_Mo_find_170 rfl ?_
    refine Ev.goto (tgt := 31) d_Mo_find_172 rfl ?_
    refine Ev.iload d_Mo_find_31 rfl ?_
    refine Ev.if_eq (tgt := 175) d_Mo_find_33 rfl (by first | omega | (simp [mu]; done) | (simp [mu]; omega)) (fun hb33 => ?_) (fun hb33 => by exfalso; first | omega | simp at hb33 | contradiction)
    exact Ev.to (Ev.return d_Mo_find_175 rfl) rfl rfl
  | l2 :: t, l, m, x5, x7, hc, hy, hR => by
    have hl := hy l List.mem_cons_self
    have hK := (RL_ok hd l hl).1
    simp only [chk, Bool.and_eq_true, beq_iff_eq] at hc
    refine bd_Mo_find hM hV hd hn ha hl hR (fun m' x5 x7 hR' hF => ?_)
    obtain ⟨m2, q1, q2, q3⟩ := c_Mo_nextRow hM hd hR' (fun x hx => ⟨(hK.2.2.2 x hx).1, (hK.2.2.2 x hx).2.1⟩) hK.2.1
    rw [hc.1, b01_t (by simp)] at q1
    obtain ⟨m3, g1, g2⟩ := lp_Mo_find hM hV hd hn ha t l2 m2 x5 x7 hc.2 (fun y h => hy y (List.mem_cons_of_mem _ h)) (q2 _ hc.1)
    refine ⟨m3, ?_, (hF.row q3).tr g2⟩
    refine Ev.aload_n d_Mo_find_165 rfl ?_
    refine Ev.iload_n d_Mo_find_166 rfl ?_
    refine Ev.callV d_Mo_find_167 mt_Mo_nextRow lk_Mo_220 in_Mo_nextRow se_Mo_nextRow rfl (Nat.le_of_ble_eq_true rfl) rfl (Nat.le_of_ble_eq_true rfl) (by decide) (is_57 hM) (by decide) rfl rfl q1 ?_
    refine Ev.istore_4 d_Mo_find_170 rfl ?_
    refine Ev.goto (tgt := 31) d_Mo_find_172 rfl ?_
    exact g1
/-- what the reference has found -/
def CT (d n : Int) : Int := fo (gC d) (nst d n) (RL d) 0
def SG (d n : Int) : Int := fo (gS d) (nst d n) (RL d) 0
def LN (d n : Int) : Int := fo g1 (nst d n) (RL d) 0
def SP (d n k : Int) : Int := fo (gP d k) (nst d n) (RL d) 0
def FD (m : Mm) (d n : Int) : Prop := m 72 (7 * d + n) = CT d n ∧ m 73 (7 * d + n) = SG d n ∧ m 74 (7 * d + n) = LN d n ∧ ∀ k, 0 ≤ k → k < 37 → m 75 (37 * (7 * d + n) + k) = SP d n k
def FZ (m : Mm) (d n : Int) : Prop := m 72 (7 * d + n) = 0 ∧ m 73 (7 * d + n) = 0 ∧ m 74 (7 * d + n) = 0 ∧ ∀ k, 0 ≤ k → k < 37 → m 75 (37 * (7 * d + n) + k) = 0
def MF (m : Mm) : Prop := ∀ d n : Int, (1 ≤ d ∧ d ≤ 4) → (0 ≤ n ∧ n ≤ 6) → (m 71 (7 * d + n) = 0 ∧ FZ m d n) ∨ (m 71 (7 * d + n) = 1 ∧ FD m d n)
/-- only scratch and the found tables are touched -/
def FrG (m m' : Mm) : Prop := ∀ a i : Int, ¬ (a = 57 ∧ (i = 8 ∨ i = 13)) → ((a = 58 ∨ a = 59) → i ≠ 8) → ((a = 60 ∨ a = 61 ∨ a = 62) → i < 48 ∨ 54 ≤ i) → (a < 63 ∨ 75 < a) → m' a i = m a i
theorem FrG.MS {m m' : Mm} {S : PS} (h : FrG m m') (hS : MS m S) : MS m' S := by
  refine ⟨hS.1, (h 57 0 (by omega) (by omega) (by omega) (by omega)).trans hS.2.1, fun p h1 h2 => ?_⟩
  have h0 := hS.1
  obtain ⟨⟨g1, g2, g3⟩, g4⟩ := hS.2.2 p h1 h2
  have g5 := g4.2.1
  exact ⟨⟨(h 58 p (by omega) (by omega) (by omega) (by omega)).trans g1, (h 59 p (by omega) (by omega) (by omega) (by omega)).trans g2, At_eq (fun j _ _ => ⟨h 60 j (by omega) (by omega) (by omega) (by omega), h 61 j (by omega) (by omega) (by omega) (by omega), h 62 j (by omega) (by omega) (by omega) (by omega)⟩) g3⟩, g4⟩
theorem FrG.tr {m m1 m2 : Mm} (h : FrG m m1) (h2 : FrG m1 m2) : FrG m m2 := fun a i x1 x2 x3 x4 => (h2 a i x1 x2 x3 x4).trans (h a i x1 x2 x3 x4)
theorem c_Mo_find (hM : MoS σ) (hV : RMV) (hF : MF m) {d n : Int} (hd : 1 ≤ d ∧ d ≤ 4) (hn : 0 ≤ n ∧ n ≤ 6) : ∃ m', Call 6 m_Mo_find [vr 57, vi d, vi n] σ m none σ m' ∧ FD m' d n ∧ MF m' ∧ FrG m m' := by
  have hat : 0 ≤ 7 * d + n ∧ 7 * d + n < 35 := by omega
  rcases hF d n hd hn with ⟨h0, hz⟩ | ⟨h1, hf⟩
  · obtain ⟨m1, q1, q2, q3⟩ := c_Mo_clearRow (m := mu m 71 (7 * d + n) 1) hM
    obtain ⟨t, ht⟩ := RL_hd hd
    obtain ⟨m2, g1, g2⟩ := lp_Mo_find (at_ := 7 * d + n) hM hV hd hn hat t [] m1 none none (by rw [← ht]; exact RL_chk hd) (by rw [← ht]; exact fun y h => h) q2
    rw [← ht] at g2
    have e1 : ∀ a i : Int, a ≠ 70 → a ≠ 71 → m1 a i = m a i := fun a i x y => (q3 a i x).trans (mu_a y)
    have fd : FD m2 d n := ⟨by rw [g2.c, e1 72 _ (by decide) (by decide), hz.1]; rfl, by rw [g2.s, e1 73 _ (by decide) (by decide), hz.2.1]; rfl, by rw [g2.l, e1 74 _ (by decide) (by decide), hz.2.2.1]; rfl, fun k x y => by rw [g2.p k x y, e1 75 _ (by decide) (by decide), hz.2.2.2 k x y]; rfl⟩
    have e71 : ∀ i : Int, m2 71 i = mu m 71 (7 * d + n) 1 71 i := fun i => (g2.f 71 i (by omega) (by omega) (by omega) (by omega) (by omega) (by omega)).trans (q3 71 i (by decide))
    refine ⟨m2, ?_, fd, fun d' n' hd' hn' => ?_, fun a i x1 x2 x3 x4 => (g2.f a i x1 x2 x3 (by omega) (by omega) (by omega)).trans (e1 a i (by omega) (by omega))⟩
    · show Ev 6 m_Mo_find 0 [some (vr 57), some (vi d), some (vi n), none, none, none, none, none] [] σ m _ σ m2
      refine Ev.bipush d_Mo_find_0 rfl ?_
      refine Ev.iload_n d_Mo_find_2 rfl ?_
      refine Ev.imul d_Mo_find_3 ?_
      refine Ev.iload_n d_Mo_find_4 rfl ?_
      refine Ev.iadd d_Mo_find_5 ?_
      refine Ev.istore_3 d_Mo_find_6 rfl ?_
      refine Ev.aload_n d_Mo_find_7 rfl ?_
      refine Ev.gr 16 d_Mo_find_8 lf_Mo_51 rfl rfl (is_57 hM) (by decide) (rf_57_16 hM) ?_
      refine Ev.iload_n d_Mo_find_11 rfl ?_
      refine Ev.zaload d_Mo_find_12 (is_71 hM) (by omega) ?_
      refine Ev.if_eq (tgt := 17) d_Mo_find_13 rfl (by first | omega | (simp [mu]; done) | (simp [mu]; omega)) (fun hb13 => ?_) (fun hb13 => by exfalso; first | omega | simp at hb13 | contradiction)
      refine Ev.aload_n d_Mo_find_17 rfl ?_
      refine Ev.gr 16 d_Mo_find_18 lf_Mo_51 rfl rfl (is_57 hM) (by decide) (rf_57_16 hM) ?_
      refine Ev.iload_n d_Mo_find_21 rfl ?_
      refine Ev.iconst d_Mo_find_22 ?_
      refine Ev.zastore d_Mo_find_23 (is_71 hM) (by decide) (by omega) (by omega) ?_
      refine Ev.aload_n d_Mo_find_24 rfl ?_
      refine Ev.callVv d_Mo_find_25 mt_Mo_clearRow lk_Mo_209 in_Mo_clearRow se_Mo_clearRow rfl (Nat.le_of_ble_eq_true rfl) rfl (Nat.le_of_ble_eq_true rfl) (by decide) (is_57 hM) (by decide) rfl rfl q1 ?_
      refine Ev.iconst d_Mo_find_28 ?_
      refine Ev.istore_4 d_Mo_find_29 rfl ?_
      exact g1
    · by_cases e : d' = d ∧ n' = n
      · obtain ⟨rfl, rfl⟩ := e
        exact Or.inr ⟨by rw [e71]; exact mu_s, fd⟩
      · have en : 7 * d' + n' ≠ 7 * d + n := by omega
        have k7 : ∀ a : Int, a = 72 ∨ a = 73 ∨ a = 74 → m2 a (7 * d' + n') = m a (7 * d' + n') := fun a h => (g2.f a _ (by omega) (by omega) (by omega) (by omega) (by omega) (by omega)).trans (e1 a _ (by omega) (by omega))
        have k75 : ∀ k, 0 ≤ k → k < 37 → m2 75 (37 * (7 * d' + n') + k) = m 75 (37 * (7 * d' + n') + k) := fun k x y => (g2.f 75 _ (by omega) (by omega) (by omega) (by omega) (by omega) (by omega)).trans (e1 75 _ (by decide) (by decide))
        rcases hF d' n' hd' hn' with ⟨a1, a2⟩ | ⟨a1, a2⟩
        · exact Or.inl ⟨by rw [e71, mu_n (Or.inr en)]; exact a1, ⟨by rw [k7 72 (by omega)]; exact a2.1, by rw [k7 73 (by omega)]; exact a2.2.1, by rw [k7 74 (by omega)]; exact a2.2.2.1, fun k x y => by rw [k75 k x y]; exact a2.2.2.2 k x y⟩⟩
        · exact Or.inr ⟨by rw [e71, mu_n (Or.inr en)]; exact a1, ⟨by rw [k7 72 (by omega)]; exact a2.1, by rw [k7 73 (by omega)]; exact a2.2.1, by rw [k7 74 (by omega)]; exact a2.2.2.1, fun k x y => by rw [k75 k x y]; exact a2.2.2.2 k x y⟩⟩
  · refine ⟨m, ?_, hf, hF, fun _ _ _ _ _ _ => rfl⟩
    show Ev 6 m_Mo_find 0 [some (vr 57), some (vi d), some (vi n), none, none, none, none, none] [] σ m _ σ m
    refine Ev.bipush d_Mo_find_0 rfl ?_
    refine Ev.iload_n d_Mo_find_2 rfl ?_
    refine Ev.imul d_Mo_find_3 ?_
    refine Ev.iload_n d_Mo_find_4 rfl ?_
    refine Ev.iadd d_Mo_find_5 ?_
    refine Ev.istore_3 d_Mo_find_6 rfl ?_
    refine Ev.aload_n d_Mo_find_7 rfl ?_
    refine Ev.gr 16 d_Mo_find_8 lf_Mo_51 rfl rfl (is_57 hM) (by decide) (rf_57_16 hM) ?_
    refine Ev.iload_n d_Mo_find_11 rfl ?_
    refine Ev.zaload d_Mo_find_12 (is_71 hM) (by omega) ?_
    refine Ev.if_eq (tgt := 17) d_Mo_find_13 rfl (by first | omega | (simp [mu]; done) | (simp [mu]; omega)) (fun hb13 => by exfalso; first | omega | simp at hb13 | contradiction) (fun hb13 => ?_)
    exact Ev.to (Ev.return d_Mo_find_16 rfl) rfl rfl
end
