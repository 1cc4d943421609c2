section
variable {σ : Sg} {m : Mm}
theorem spot_self : ∀ k : Nat, k < 24 → spot (fS k) (tS k) (1 + (k : Int) % 4) = k ∧ 0 ≤ fS k ∧ fS k < tS k := by decide +kernel
theorem okS_k {k d : Int} (hk : 0 ≤ k ∧ k < 24) (ht : tS k < d) : okS d (fS k) (tS k) (1 + k % 4) ∧ spot (fS k) (tS k) (1 + k % 4) = k := by
  obtain ⟨n, rfl⟩ := Int.eq_ofNat_of_zero_le hk.1
  have h := spot_self n (by omega)
  exact ⟨⟨h.2.1, h.2.2, ht, by omega, by omega⟩, h.1⟩
/-- only the picture p is touched -/
def FrQ (p : Int) (m m' : Mm) : Prop := (∀ a i : Int, (a < 58 ∨ 62 < a) → m' a i = m a i) ∧ (∀ q : Int, q ≠ p → m' 58 q = m 58 q ∧ m' 59 q = m 59 q) ∧ ∀ a j : Int, a = 60 ∨ a = 61 ∨ a = 62 → (j < 6 * p ∨ 6 * p + 6 ≤ j) → m' a j = m a j
theorem FrQ.tr {p : Int} {m m1 m2 : Mm} (h : FrQ p m m1) (h2 : FrQ p m1 m2) : FrQ p m m2 :=
  ⟨fun a i x => (h2.1 a i x).trans (h.1 a i x), fun q x => ⟨(h2.2.1 q x).1.trans (h.2.1 q x).1, (h2.2.1 q x).2.trans (h.2.1 q x).2⟩, fun a j x y => (h2.2.2 a j x y).trans (h.2.2 a j x y)⟩
theorem FrP.Q {p : Int} {m m' : Mm} (h : FrP p m m') : FrQ p m m' :=
  ⟨fun a i x => h.1 a i (by omega) (by omega) (by omega) (by omega), fun q x => ⟨h.1 58 q (by decide) (by decide) (by decide) (by decide), h.2.1 q x⟩, fun a j x y => h.2.2 a j x y⟩
theorem cn_pos {k : Int} : ∀ {suf : List Int}, suf.Pairwise (· ≤ ·) → (∀ x ∈ suf, k ≤ x) → 0 < cn k suf → ∃ t, suf = k :: t
  | [], _, _, h => by simp [cn] at h
  | x :: t, hs, hk, h => by
    by_cases e : x = k
    · exact ⟨t, by rw [e]⟩
    · have hx := hk x List.mem_cons_self
      rw [cn_zero k (x :: t) (fun y hy => by
        rcases List.mem_cons.mp hy with h1 | h1
        · rw [h1]; exact e
        · have := List.rel_of_pairwise_cons hs h1; omega)] at h
      omega
theorem PK_pre {d : Int} {a b : List Int} (h : PK d (a ++ b)) : PK d a :=
  ⟨h.1, by have := h.2.1; simp only [List.length_append] at this; omega, (List.pairwise_append.mp h.2.2.1).1, fun s hs => h.2.2.2 s (List.mem_append_left _ hs)⟩
theorem lpi_Mo_layRow (hM : MoS σ) {d p k : Int} {l : List Int} (hp : 0 ≤ p ∧ p ≤ 8) (hK : PK d l) (hk : 0 ≤ k ∧ k < 24) {r : Option AV} {Post : Mm → Prop} : ∀ (suf pre : List Int) (n : Int) (m : Mm), l = pre ++ suf → (∀ x ∈ pre, x ≤ k) → (∀ x ∈ suf, k ≤ x) → n = cn k pre → RW m l → m 59 p = pre.length → At m (6 * p) pre → (∀ (m' : Mm) (pre suf : List Int) (n : Int), FrQ p m m' → l = pre ++ suf → (∀ x ∈ pre, x ≤ k) → (∀ x ∈ suf, k + 1 ≤ x) → m' 59 p = pre.length → At m' (6 * p) pre → m' 58 p = m 58 p → ∃ mF, Ev 3 m_Mo_layRow 60 [some (vr 57), some (vi d), some (vi p), some (vi k), some (vi n)] [] σ m' r σ mF ∧ Post mF) → ∃ mF, Ev 3 m_Mo_layRow 25 [some (vr 57), some (vi d), some (vi p), some (vi k), some (vi n)] [] σ m r σ mF ∧ Post mF := by
  intro suf
  induction suf with
  | nil =>
    intro pre n m hl h1 h2 hn hR h59 hA c
    obtain ⟨mF, g1, g2⟩ := c m pre [] n ⟨fun _ _ _ => rfl, fun _ _ => ⟨rfl, rfl⟩, fun _ _ _ _ => rfl⟩ hl h1 (fun x hx => by simp at hx) h59 hA rfl
    refine ⟨mF, ?_, g2⟩
    have hr := hR k hk.1 hk.2
    rw [hl, List.append_nil] at hr
    have hb := cn_b k pre
    have h6 := hK.2.1
    rw [hl, List.append_nil] at h6
    refine Ev.iload d_Mo_layRow_25 rfl ?_
    refine Ev.aload_n d_Mo_layRow_27 rfl ?_
    refine Ev.gr 15 d_Mo_layRow_28 lf_Mo_48 rfl rfl (is_57 hM) (by decide) (rf_57_15 hM) ?_
    refine Ev.iload_n d_Mo_layRow_31 rfl ?_
    refine Ev.iaload d_Mo_layRow_32 (is_70 hM) (by first | omega | (simp [mu]; done) | (simp [mu]; omega)) ?_
    refine Ev.icmp_ge (tgt := 60) d_Mo_layRow_33 rfl (by first | omega | (simp [mu]; done) | (simp [mu]; omega)) (by first | omega | (simp [mu]; done) | (simp [mu]; omega)) (fun hb33 => ?_) (fun hb33 => by exfalso; first | omega | simp at hb33 | contradiction)
    exact g1
  | cons x t ih =>
    intro pre n m hl h1 h2 hn hR h59 hA c
    have hr := hR k hk.1 hk.2
    rw [hl, cn_app] at hr
    have hb := cn_b k pre
    have hb2 := cn_b k (x :: t)
    have h6 := hK.2.1
    rw [hl, List.length_append] at h6
    have h6c : (x :: t).length = t.length + 1 := rfl
    by_cases e : x = k
    · subst e
      have hok := okS_k (d := d) hk (hK.2.2.2 x (by rw [hl]; exact List.mem_append_right _ List.mem_cons_self)).2.2
      have hKp : PK d pre := PK_pre (by rw [← hl]; exact hK)
      obtain ⟨m1, q1, q2, q3, q4⟩ := c_Mo_put hM (p := p) (d := d) hp h59 hA hKp (by omega) hok.1
      rw [hok.2] at q2
      have ei : ins x pre = pre ++ [x] := by
        have := ins_mid (s := x) (pre := pre) (suf := []) h1 (fun y hy => by simp at hy)
        simpa using this
      rw [ei] at q2
      obtain ⟨mF, g1, g2⟩ := ih (pre ++ [x]) (n + 1) m1 (by rw [hl]; simp) (fun y hy => by
        rcases List.mem_append.mp hy with h | h
        · exact h1 y h
        · have := List.mem_singleton.mp h; omega) (fun y hy => h2 y (List.mem_cons_of_mem _ hy)) (by rw [cn_app, hn]; simp [cn]) (fun j a b => (q4.1 70 j (by decide) (by decide) (by decide) (by decide)).trans (hR j a b)) (by rw [q3]; simp) q2 (fun m' pre suf n fr a1 a2 a3 a4 a5 a6 => c m' pre suf n (q4.Q.tr fr) a1 a2 a3 a4 a5 (a6.trans (q4.1 58 p (by decide) (by decide) (by decide) (by decide))))
      refine ⟨mF, ?_, g2⟩
      have hc1 : cn x (x :: t) = 1 + cn x t := by simp [cn]
      have hb3 := cn_b x t
      refine Ev.iload d_Mo_layRow_25 rfl ?_
      refine Ev.aload_n d_Mo_layRow_27 rfl ?_
      refine Ev.gr 15 d_Mo_layRow_28 lf_Mo_48 rfl rfl (is_57 hM) (by decide) (rf_57_15 hM) ?_
      refine Ev.iload_n d_Mo_layRow_31 rfl ?_
      refine Ev.iaload d_Mo_layRow_32 (is_70 hM) (by first | omega | (simp [mu]; done) | (simp [mu]; omega)) ?_
      refine Ev.icmp_ge (tgt := 60) d_Mo_layRow_33 rfl (by first | omega | (simp [mu]; done) | (simp [mu]; omega)) (by first | omega | (simp [mu]; done) | (simp [mu]; omega)) (fun hb33 => by exfalso; first | omega | simp at hb33 | contradiction) (fun hb33 => ?_)
      refine Ev.aload_n d_Mo_layRow_36 rfl ?_
      refine Ev.iload_n d_Mo_layRow_37 rfl ?_
      refine Ev.iload_n d_Mo_layRow_38 rfl ?_
      refine Ev.callS d_Mo_layRow_39 mt_Mo_fromOf lk_Mo_200 st_Mo_fromOf rfl (Nat.le_of_ble_eq_true rfl) rfl (Nat.le_of_ble_eq_true rfl) (by decide) rfl (c_Mo_fromOf (by omega)) ?_
      refine Ev.iload_n d_Mo_layRow_42 rfl ?_
      refine Ev.callS d_Mo_layRow_43 mt_Mo_toOf lk_Mo_197 st_Mo_toOf rfl (Nat.le_of_ble_eq_true rfl) rfl (Nat.le_of_ble_eq_true rfl) (by decide) rfl (c_Mo_toOf (by omega)) ?_
      refine Ev.iconst d_Mo_layRow_46 ?_
      refine Ev.iload_n d_Mo_layRow_47 rfl ?_
      refine Ev.iconst d_Mo_layRow_48 ?_
      refine Ev.irem d_Mo_layRow_49 (by first | omega | (simp [mu]; done) | (simp [mu]; omega)) (by first | omega | (simp [mu]; done) | (simp [mu]; omega)) ?_
      refine Ev.iadd d_Mo_layRow_50 ?_
      refine Ev.callVv d_Mo_layRow_51 mt_Mo_put lk_Mo_124 in_Mo_put se_Mo_put rfl (Nat.le_of_ble_eq_true rfl) rfl (Nat.le_of_ble_eq_true rfl) (by decide) (is_57 hM) (by decide) rfl rfl q1 ?_
      refine Ev.iinc_4 d_Mo_layRow_54 rfl ?_
      refine Ev.goto (tgt := 25) d_Mo_layRow_57 rfl ?_
      exact g1
    · have hx2 := h2 x List.mem_cons_self
      have hs := (List.pairwise_append.mp (hl ▸ hK.2.2.1)).2.1
      have hz : cn k (x :: t) = 0 := cn_zero k (x :: t) (fun y hy => by
        rcases List.mem_cons.mp hy with h | h
        · rw [h]; exact e
        · have := List.rel_of_pairwise_cons hs h; omega)
      obtain ⟨mF, g1, g2⟩ := c m pre (x :: t) n ⟨fun _ _ _ => rfl, fun _ _ => ⟨rfl, rfl⟩, fun _ _ _ _ => rfl⟩ hl h1 (fun y hy => by
        rcases List.mem_cons.mp hy with h | h
        · omega
        · have := List.rel_of_pairwise_cons hs h; omega) h59 hA rfl
      refine ⟨mF, ?_, g2⟩
      refine Ev.iload d_Mo_layRow_25 rfl ?_
      refine Ev.aload_n d_Mo_layRow_27 rfl ?_
      refine Ev.gr 15 d_Mo_layRow_28 lf_Mo_48 rfl rfl (is_57 hM) (by decide) (rf_57_15 hM) ?_
      refine Ev.iload_n d_Mo_layRow_31 rfl ?_
      refine Ev.iaload d_Mo_layRow_32 (is_70 hM) (by first | omega | (simp [mu]; done) | (simp [mu]; omega)) ?_
      refine Ev.icmp_ge (tgt := 60) d_Mo_layRow_33 rfl (by first | omega | (simp [mu]; done) | (simp [mu]; omega)) (by first | omega | (simp [mu]; done) | (simp [mu]; omega)) (fun hb33 => ?_) (fun hb33 => by exfalso; first | omega | simp at hb33 | contradiction)
      exact g1
theorem lpo_Mo_layRow (hM : MoS σ) {d p : Int} {l : List Int} (hp : 0 ≤ p ∧ p ≤ 8) (hK : PK d l) : ∀ (q : Nat) (k : Int) (m : Mm) (pre suf : List Int) (x4 : Option AV), k + q = 24 → 0 ≤ k → l = pre ++ suf → (∀ x ∈ pre, x ≤ k) → (∀ x ∈ suf, k ≤ x) → (∀ x ∈ pre, x < k) → RW m l → m 59 p = pre.length → At m (6 * p) pre → m 58 p = d → ∃ mF, Ev 3 m_Mo_layRow 16 [some (vr 57), some (vi d), some (vi p), some (vi k), x4] [] σ m none σ mF ∧ PM mF p d l ∧ FrQ p m mF
  | 0, k, m, pre, suf, x4, hk, h0, hl, h1, h2, h3, hR, h59, hA, h58 => by
    have e : suf = [] := by
      cases suf with
      | nil => rfl
      | cons x t =>
        have a1 := h2 x List.mem_cons_self
        have a2 := (hK.2.2.2 x (by rw [hl]; exact List.mem_append_right _ List.mem_cons_self)).2.1
        omega
    subst e
    rw [List.append_nil] at hl
    refine ⟨m, ?_, ⟨h58, by rw [hl]; exact h59, by rw [hl]; exact hA⟩, fun _ _ _ => rfl, fun _ _ => ⟨rfl, rfl⟩, fun _ _ _ _ => rfl⟩
    refine Ev.iload_n d_Mo_layRow_16 rfl ?_
    refine Ev.bipush d_Mo_layRow_17 rfl ?_
    refine Ev.icmp_ge (tgt := 66) d_Mo_layRow_19 rfl (by first | omega | (simp [mu]; done) | (simp [mu]; omega)) (by first | omega | (simp [mu]; done) | (simp [mu]; omega)) (fun hb19 => ?_) (fun hb19 => by exfalso; first | omega | simp at hb19 | contradiction)
    exact Ev.to (Ev.return d_Mo_layRow_66 rfl) rfl rfl
  | q + 1, k, m, pre, suf, x4, hk, h0, hl, h1, h2, h3, hR, h59, hA, h58 => by
    have key := lpi_Mo_layRow (σ := σ) (r := none) (Post := fun mF => PM mF p d l ∧ FrQ p m mF) hM hp hK (k := k) (by omega) suf pre 0 m hl h1 h2 (cn_zero k pre (fun x hx => by have := h3 x hx; omega)).symm hR h59 hA (fun m' pre suf n fr a1 a2 a3 a4 a5 a6 => by
      obtain ⟨mF, g1, g2, g3⟩ := lpo_Mo_layRow hM hp hK q (k + 1) m' pre suf (some (vi n)) (by omega) (by omega) a1 (fun x hx => by have := a2 x hx; omega) a3 (fun x hx => by have := a2 x hx; omega) (fun j x y => (fr.1 70 j (by omega)).trans (hR j x y)) a4 a5 (a6.trans h58)
      refine ⟨mF, ?_, g2, fr.tr g3⟩
      refine Ev.iinc_3 d_Mo_layRow_60 rfl ?_
      refine Ev.goto (tgt := 16) d_Mo_layRow_63 rfl ?_
      exact g1)
    obtain ⟨mF, g1, g2⟩ := key
    refine ⟨mF, ?_, g2⟩
    refine Ev.iload_n d_Mo_layRow_16 rfl ?_
    refine Ev.bipush d_Mo_layRow_17 rfl ?_
    refine Ev.icmp_ge (tgt := 66) d_Mo_layRow_19 rfl (by first | omega | (simp [mu]; done) | (simp [mu]; omega)) (by first | omega | (simp [mu]; done) | (simp [mu]; omega)) (fun hb19 => by exfalso; first | omega | simp at hb19 | contradiction) (fun hb19 => ?_)
    refine Ev.iconst d_Mo_layRow_22 ?_
    refine Ev.istore_4 d_Mo_layRow_23 rfl ?_
    exact g1
theorem c_Mo_layRow (hM : MoS σ) {d p : Int} {l : List Int} (hp : 0 ≤ p ∧ p ≤ 8) (hK : PK d l) (hR : RW m l) : ∃ m', Call 3 m_Mo_layRow [vr 57, vi d, vi p] σ m none σ m' ∧ PM m' p d l ∧ FrQ p m m' := by
  obtain ⟨mF, g1, g2, g3⟩ := lpo_Mo_layRow (σ := σ) hM hp hK 24 0 (mu (mu m 58 p d) 59 p 0) [] l none (by decide) (by decide) rfl (fun x hx => by simp at hx) (fun x hx => (hK.2.2.2 x hx).1) (fun x hx => by simp at hx) (fun j a b => by rw [mu_a (by decide), mu_a (by decide)]; exact hR j a b) mu_s trivial (by rw [mu_a (by decide)]; exact mu_s)
  refine ⟨mF, ?_, g2, ⟨fun a i x => (g3.1 a i x).trans (by rw [mu_a (by omega), mu_a (by omega)]), fun q x => ⟨(g3.2.1 q x).1.trans (by rw [mu_a (by decide), mu_n (Or.inr x)]), (g3.2.1 q x).2.trans (by rw [mu_n (Or.inr x), mu_a (by decide)])⟩, fun a j x y => (g3.2.2 a j x y).trans (by rw [mu_a (by omega), mu_a (by omega)])⟩⟩
  show Ev 3 m_Mo_layRow 0 [some (vr 57), some (vi d), some (vi p), none, none] [] σ m _ σ _
  refine Ev.aload_n d_Mo_layRow_0 rfl ?_
  refine Ev.gr 1 d_Mo_layRow_1 lf_Mo_7 rfl rfl (is_57 hM) (by decide) (rf_57_1 hM) ?_
  refine Ev.iload_n d_Mo_layRow_4 rfl ?_
  refine Ev.iload_n d_Mo_layRow_5 rfl ?_
  refine Ev.iastore d_Mo_layRow_6 (is_58 hM) (by decide) (by first | omega | (simp [mu]; done) | (simp [mu]; omega)) ?_
  refine Ev.aload_n d_Mo_layRow_7 rfl ?_
  refine Ev.gr 2 d_Mo_layRow_8 lf_Mo_13 rfl rfl (is_57 hM) (by decide) (rf_57_2 hM) ?_
  refine Ev.iload_n d_Mo_layRow_11 rfl ?_
  refine Ev.iconst d_Mo_layRow_12 ?_
  refine Ev.iastore d_Mo_layRow_13 (is_59 hM) (by decide) (by first | omega | (simp [mu]; done) | (simp [mu]; omega)) ?_
  refine Ev.iconst d_Mo_layRow_14 ?_
  refine Ev.istore_3 d_Mo_layRow_15 rfl ?_
  exact g1
end
