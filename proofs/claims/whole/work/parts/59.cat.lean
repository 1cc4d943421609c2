/-! the catalogue: one picture entered; what it answers -/
def CatS (σ : Sg) (c : Int) : Prop := (3 ≤ c ∧ Is σ c 0 0) ∧ (PicS σ (c + 1) ∧ MkS σ (c + 4) ∧ PowS σ (c + 9)) ∧ (Is σ (c + 12) 101 61 ∧ Is σ (c + 13) 100 61 ∧ Is σ (c + 14) 100 7 ∧ Is σ (c + 15) 101 7 ∧ Is σ (c + 16) 101 7 ∧ Is σ (c + 17) 101 259) ∧ (σ.2.2.2.2 c 1 = c + 1 ∧ σ.2.2.2.2 c 2 = c + 4 ∧ σ.2.2.2.2 c 3 = c + 9) ∧ (σ.2.2.2.2 c 4 = c + 12 ∧ σ.2.2.2.2 c 5 = c + 13 ∧ σ.2.2.2.2 c 6 = c + 14 ∧ σ.2.2.2.2 c 7 = c + 15 ∧ σ.2.2.2.2 c 8 = c + 16 ∧ σ.2.2.2.2 c 9 = c + 17)
def CatM (m : Mm) (c d : Int) (L : List (List Int)) : Prop := m c 0 = d ∧ m c 10 = L.length ∧ (∀ i : Nat, i < L.length → m (c + 12) i = pk (L.getD i []) ∧ m (c + 13) i = d * (d - 1) / 2 - (L.getD i []).length) ∧ ∀ n : Int, 0 ≤ n → n ≤ 6 → m (c + 14) n = fo g1 (nst d n) L 0 ∧ m (c + 15) n = fo (gC d) (nst d n) L 0 ∧ m (c + 16) n = fo (gS d) (nst d n) L 0 ∧ ∀ j : Int, 0 ≤ j → j < 37 → m (c + 17) (37 * n + j) = fo (gP d j) (nst d n) L 0
def FrQ2 (c : Int) (m m' : Mm) : Prop := ∀ b j : Int, (b < c ∨ c + 17 < b) → m' b j = m b j
theorem FrQ2.tr {c : Int} {m m1 m2 : Mm} (h : FrQ2 c m m1) (g : FrQ2 c m1 m2) : FrQ2 c m m2 := fun b j x => (g b j x).trans (h b j x)
theorem FrQ2.rf {c : Int} {m : Mm} : FrQ2 c m m := fun _ _ _ => rfl
section
variable {σ : Sg} {m : Mm}
theorem c_Cat_isKnots {n : Int} (h1 : -2147483648 ≤ n ∧ n ≤ 2147483647) : Call 1 m_Cat_isKnots [vi n] σ m (some (vi (b01 (0 ≤ n ∧ n ≤ 6)))) σ m := by
  show Ev 1 m_Cat_isKnots 0 [some (vi n)] [] σ m _ σ m
  refine Ev.iload_n d_Cat_isKnots_0 rfl ?_
  refine Ev.if_lt (tgt := 14) d_Cat_isKnots_1 rfl (by first | omega | (simp [mu]; done) | (simp [mu]; omega)) (fun hb1 => ?_) (fun hb1 => ?_)
  · refine Ev.iconst d_Cat_isKnots_14 ?_
    exact Ev.to (Ev.zreturn d_Cat_isKnots_15 rfl (by first | omega | exact b01_01)) (r0 (by omega)) rfl
  · refine Ev.iload_n d_Cat_isKnots_4 rfl ?_
    refine Ev.bipush d_Cat_isKnots_5 rfl ?_
    refine Ev.icmp_gt (tgt := 14) d_Cat_isKnots_7 rfl (by first | omega | (simp [mu]; done) | (simp [mu]; omega)) (by first | omega | (simp [mu]; done) | (simp [mu]; omega)) (fun hb7 => ?_) (fun hb7 => ?_)
    · refine Ev.iconst d_Cat_isKnots_14 ?_
      exact Ev.to (Ev.zreturn d_Cat_isKnots_15 rfl (by first | omega | exact b01_01)) (r0 (by omega)) rfl
    · refine Ev.iconst d_Cat_isKnots_10 ?_
      refine Ev.goto (tgt := 15) d_Cat_isKnots_11 rfl ?_
      exact Ev.to (Ev.zreturn d_Cat_isKnots_15 rfl (by first | omega | exact b01_01)) (r1 (by omega)) rfl
theorem lpq_Cat_enter {c n v : Int} (hC : CatS σ c) (hn : 0 ≤ n ∧ n ≤ 6) {Pw e : Int → Int} {r : Int} : ∀ (q : Nat) (k : Int) (m : Mm), k + q = 19 → -18 ≤ k → PwM m (c + 9) Pw r → (∀ j : Int, 0 ≤ j → j < 37 → m (c + 17) (37 * n + j) = if j < 18 + k then e j + Pw j * v else e j) → ∃ mF, Ev 63 m_Cat_enter 138 [some (vr c), some (vi n), some (vl v), none, some (vi k)] [] σ m none σ mF ∧ (∀ j : Int, 0 ≤ j → j < 37 → mF (c + 17) (37 * n + j) = e j + Pw j * v) ∧ (∀ b j : Int, ¬ (b = c + 17 ∧ 37 * n ≤ j ∧ j < 37 * n + 37) → mF b j = m b j)
  | 0, k, m, hk, h0, hp, he => by
    refine ⟨m, ?_, fun j a b => by rw [he j a b, if_pos (by omega)], fun _ _ _ => rfl⟩
    refine Ev.iload d_Cat_enter_138 rfl ?_
    refine Ev.bipush d_Cat_enter_140 rfl ?_
    refine Ev.icmp_gt (tgt := 180) d_Cat_enter_142 rfl (by first | omega | (simp [mu]; done) | (simp [mu]; omega)) (by first | omega | (simp [mu]; done) | (simp [mu]; omega)) (fun hb142 => ?_) (fun hb142 => by exfalso; first | omega | simp at hb142 | contradiction)
    exact Ev.to (Ev.return d_Cat_enter_180 rfl) rfl rfl
  | q + 1, k, m, hk, h0, hp, he => by
    have h3 := hC.1.1
    have e1 := he (18 + k) (by omega) (by omega)
    rw [if_neg (by omega)] at e1
    have e1' : m (c + 17) (n * 37 + 18 + k) = e (18 + k) := by rw [show n * 37 + 18 + k = 37 * n + (18 + k) by omega]; exact e1
    have ca := c_Pow_at hC.2.1.2.2 hp (k := k) (by omega)
    rw [if_pos (by omega)] at ca
    obtain ⟨mF, g1, g2, g3⟩ := lpq_Cat_enter hC hn (v := v) (Pw := Pw) (e := e) (r := r) q (k + 1) (mu m (c + 17) (n * 37 + 18 + k) (e (18 + k) + Pw (18 + k) * v)) (by omega) (by omega) ⟨(mu_a (by omega)).trans hp.1, hp.2.1, fun j a b => (mu_a (by omega)).trans (hp.2.2.1 j a b), hp.2.2.2⟩ (fun j a b => by
      by_cases ej : j = 18 + k
      · rw [show 37 * n + j = n * 37 + 18 + k by omega, mu_s, if_pos (by omega), ej]
      · rw [mu_n (Or.inr (by omega)), he j a b]
        by_cases c1 : j < 18 + k
        · rw [if_pos c1, if_pos (by omega)]
        · rw [if_neg c1, if_neg (by omega)])
    refine ⟨mF, ?_, g2, fun b j h => (g3 b j h).trans (mu_n (by omega))⟩
    refine Ev.iload d_Cat_enter_138 rfl ?_
    refine Ev.bipush d_Cat_enter_140 rfl ?_
    refine Ev.icmp_gt (tgt := 180) d_Cat_enter_142 rfl (by first | omega | (simp [mu]; done) | (simp [mu]; omega)) (by first | omega | (simp [mu]; done) | (simp [mu]; omega)) (fun hb142 => by exfalso; first | omega | simp at hb142 | contradiction) (fun hb142 => ?_)
    refine Ev.aload_n d_Cat_enter_145 rfl ?_
    refine Ev.gr 9 d_Cat_enter_146 lf_Cat_49 rfl rfl hC.1.2 (by decide) hC.2.2.2.2.2.2.2.2.2 ?_
    refine Ev.iload_n d_Cat_enter_149 rfl ?_
    refine Ev.bipush d_Cat_enter_150 rfl ?_
    refine Ev.imul d_Cat_enter_152 ?_
    refine Ev.bipush d_Cat_enter_153 rfl ?_
    refine Ev.iadd d_Cat_enter_155 ?_
    refine Ev.iload d_Cat_enter_156 rfl ?_
    refine Ev.iadd d_Cat_enter_158 ?_
    refine Ev.dup2 d_Cat_enter_159 rfl rfl ?_
    refine Ev.laload d_Cat_enter_160 hC.2.2.1.2.2.2.2.2 (by omega) ?_
    rw [e1']
    refine Ev.aload_n d_Cat_enter_161 rfl ?_
    refine Ev.gr 3 d_Cat_enter_162 lf_Cat_28 rfl rfl hC.1.2 (by decide) hC.2.2.2.1.2.2 ?_
    refine Ev.iload d_Cat_enter_165 rfl ?_
    refine Ev.callV d_Cat_enter_167 mt_Pow_at lk_Cat_114 in_Pow_at se_Pow_at rfl (Nat.le_of_ble_eq_true rfl) rfl (Nat.le_of_ble_eq_true rfl) (by decide) hC.2.1.2.2.2.1 (by decide) rfl rfl ca ?_
    refine Ev.lload_n d_Cat_enter_170 rfl ?_
    refine Ev.lmul d_Cat_enter_171 ?_
    refine Ev.ladd d_Cat_enter_172 ?_
    refine Ev.lastore d_Cat_enter_173 hC.2.2.1.2.2.2.2.2 (by have := hC.1.1; omega) (by omega) ?_
    refine Ev.iinc_4 d_Cat_enter_174 rfl ?_
    refine Ev.goto (tgt := 138) d_Cat_enter_177 rfl ?_
    exact g1
theorem mkc_ways {d : Int} (hd : 1 ≤ d ∧ d ≤ 4) {l : List Int} (hl : l ∈ RL d) : ((dN (lfW (-1) 0) (KLn d l) 0 : Nat) : Int) = mkc d l := (ways_any (J := fun _ => 0) hd hl).trans (RMV_ok _ d l hd hl)
def knOk (d : Int) (l : List Int) : Bool := decide (0 ≤ d * (d - 1) / 2 - (l.length : Int) ∧ d * (d - 1) / 2 - (l.length : Int) ≤ 6)
theorem RL_kn {d : Int} (hd : 1 ≤ d ∧ d ≤ 4) {l : List Int} (hl : l ∈ RL d) : 0 ≤ d * (d - 1) / 2 - (l.length : Int) ∧ d * (d - 1) / 2 - (l.length : Int) ≤ 6 :=
  of_decide_eq_true (List.all_eq_true.mp (dcase (p := fun d => (RL d).all (knOk d) = true) hd (by decide +kernel) (by decide +kernel) (by decide +kernel) (by decide +kernel)) l hl)
theorem getD_app1 {L : List (List Int)} {l : List Int} {i : Nat} (h : i < L.length) : (L ++ [l]).getD i [] = L.getD i [] := by
  rw [List.getD_eq_getElem?_getD, List.getD_eq_getElem?_getD, List.getElem?_append_left h]
theorem getD_app2 {L : List (List Int)} {l : List Int} : (L ++ [l]).getD L.length [] = l := by
  rw [List.getD_eq_getElem?_getD, List.getElem?_append_right (Nat.le_refl _), Nat.sub_self]; rfl
theorem fo_1 (g : List Int → Int) (N : Int) (L : List (List Int)) (l : List Int) : fo g N (L ++ [l]) 0 = if (l.length : Int) = N then fo g N L 0 + g l else fo g N L 0 := by
  rw [fo_app]; rfl
theorem c_Cat_enter {c d : Int} (hC : CatS σ c) (hS : SR σ m) (hd : 1 ≤ d ∧ d ≤ 4) {L : List (List Int)} {l : List Int} (hl : l ∈ RL d) (hM : CatM m c d L) (hL : L.length < 61) (hm : PicM m (c + 1) d l) : ∃ m', Call 63 m_Cat_enter [vr c] σ m none σ m' ∧ CatM m' c d (L ++ [l]) ∧ PicM m' (c + 1) d l ∧ FrQ2 c m m' := by
  have h3 := hC.1.1
  have hPS := hC.2.1.1
  have hK := (RL_ok hd l hl).1
  have hkn := RL_kn hd hl
  have hw := RL_ways hd hl
  have hmul := RL_mul hd l hl
  obtain ⟨h0, h10, hrow, htab⟩ := hM
  generalize hn : d * (d - 1) / 2 - (l.length : Int) = n at hkn
  have ck := c_Pic_knots hPS hm hK
  rw [hn] at ck
  -- the memories on the way
  let m1 := mu m (c + 12) L.length (pk l)
  let m2 := mu m1 (c + 13) L.length n
  let m3 := mu m2 c 10 ((L.length : Int) + 1)
  let m4 := mu m3 (c + 14) n (m (c + 14) n + 1)
  have F4 : ∀ b j : Int, b ≠ c → b ≠ c + 12 → b ≠ c + 13 → b ≠ c + 14 → m4 b j = m b j := fun b j x1 x2 x3 x4 => by
    show mu (mu (mu (mu m _ _ _) _ _ _) _ _ _) _ _ _ b j = _
    rw [mu_a x4, mu_a x1, mu_a x3, mu_a x2]
  have hm4 : PicM m4 (c + 1) d l := PicM_fr hm (fun b j y z => F4 b j (by omega) (by omega) (by omega) (by omega))
  have hS4 : SR σ m4 := SR_fr hS (fun b j h => F4 b j (by omega) (by omega) (by omega) (by omega))
  obtain ⟨m5, q5, f5⟩ := c_Mk_ways hS4 hC.2.1.2.1 hPS (by omega) hK hm4 (w := -1) (wn := 0) (by decide) (by decide) hw.1 hw.2.1 hw.2.2
  rw [mkc_ways hd hl] at q5
  generalize hv : mkc d l = v at q5
  have hm5 : PicM m5 (c + 1) d l := PicM_fr hm4 (fun b j y z => f5 b j (by omega))
  have F5 : ∀ b j : Int, (b < c + 4 ∨ c + 8 < b) → b ≠ c → b ≠ c + 12 → b ≠ c + 13 → b ≠ c + 14 → m5 b j = m b j := fun b j x x1 x2 x3 x4 => (f5 b j (by omega)).trans (F4 b j x1 x2 x3 x4)
  let m6 := mu m5 (c + 15) n (m (c + 15) n + mulL l * v)
  have hm6 : PicM m6 (c + 1) d l := PicM_fr hm5 (fun b j y z => mu_a (by omega))
  let m7 := mu m6 (c + 16) n (m (c + 16) n + sgL 1 l * v)
  have hm7 : PicM m7 (c + 1) d l := PicM_fr hm6 (fun b j y z => mu_a (by omega))
  obtain ⟨m8, q8, ⟨r, p8⟩, f8⟩ := c_Pow_expand hC.2.1.2.2 hPS (by omega) hm7 hK
  have e15 : m5 (c + 15) n = m (c + 15) n := F5 _ _ (by omega) (by omega) (by omega) (by omega) (by omega)
  have e16 : m6 (c + 16) n = m (c + 16) n := (mu_a (by omega)).trans (F5 _ _ (by omega) (by omega) (by omega) (by omega) (by omega))
  have e17 : ∀ j : Int, m8 (c + 17) j = m (c + 17) j := fun j => by
    rw [f8 _ _ (by omega) (by omega) (by omega)]
    show mu (mu m5 _ _ _) _ _ _ (c + 17) j = _
    rw [mu_a (by omega), mu_a (by omega)]
    exact F5 _ _ (by omega) (by omega) (by omega) (by omega) (by omega)
  obtain ⟨m9, g1, g2, g3⟩ := lpq_Cat_enter hC hkn (v := v) (Pw := pwL l pw0) (e := fun j => m (c + 17) (37 * n + j)) (r := r) 37 (-18) m8 (by decide) (by decide) p8 (fun j a b => by
    rw [if_neg (by omega)]; exact e17 _)
  -- what stands at the end
  have F9 : ∀ b j : Int, ¬ (c + 4 ≤ b ∧ b ≤ c + 11) → b ≠ c + 15 → b ≠ c + 16 → b ≠ c + 17 → m9 b j = m4 b j := fun b j x1 x2 x3 x4 => by
    rw [g3 b j (by omega), f8 b j (by omega) (by omega) (by omega)]
    show mu (mu m5 _ _ _) _ _ _ b j = _
    rw [mu_a x3, mu_a x2]
    exact f5 b j (by omega)
  have hlen : ((L ++ [l]).length : Int) = (L.length : Int) + 1 := by rw [List.length_append]; simp
  have hnst : ∀ n' : Int, ((l.length : Int) = nst d n') ↔ n' = n := fun n' => by unfold nst; omega
  refine ⟨m9, ?_, ⟨?_, ?_, fun i hi => ?_, fun n' x y => ⟨?_, ?_, ?_, fun j a b => ?_⟩⟩, ?_, fun b j x => ?_⟩
  rotate_left
  · rw [F9 _ _ (by omega) (by omega) (by omega) (by omega)]
    show mu (mu (mu (mu m _ _ _) _ _ _) _ _ _) _ _ _ c 0 = _
    rw [mu_a (by omega), mu_n (Or.inr (by decide)), mu_a (by omega), mu_a (by omega)]; exact h0
  · rw [F9 _ _ (by omega) (by omega) (by omega) (by omega), hlen]
    show mu (mu (mu (mu m _ _ _) _ _ _) _ _ _) _ _ _ c 10 = _
    rw [mu_a (by omega), mu_s]
  · rw [F9 _ _ (by omega) (by omega) (by omega) (by omega), F9 _ _ (by omega) (by omega) (by omega) (by omega)]
    rw [List.length_append] at hi
    simp only [List.length_cons, List.length_nil] at hi
    refine ⟨?_, ?_⟩
    · show mu (mu (mu (mu m _ _ _) _ _ _) _ _ _) _ _ _ (c + 12) i = _
      rw [mu_a (by omega), mu_a (by omega), mu_a (by omega)]
      by_cases ei : i = L.length
      · rw [ei, mu_s, getD_app2]
      · rw [mu_n (Or.inr (by omega)), getD_app1 (by omega)]; exact (hrow i (by omega)).1
    · show mu (mu (mu (mu m _ _ _) _ _ _) _ _ _) _ _ _ (c + 13) i = _
      rw [mu_a (by omega), mu_a (by omega)]
      by_cases ei : i = L.length
      · rw [ei, mu_s, getD_app2]; exact hn.symm
      · rw [mu_n (Or.inr (by omega)), mu_a (by omega), getD_app1 (by omega)]; exact (hrow i (by omega)).2
  · rw [F9 _ _ (by omega) (by omega) (by omega) (by omega), fo_1]
    show mu (mu (mu (mu m _ _ _) _ _ _) _ _ _) _ _ _ (c + 14) n' = _
    by_cases en : n' = n
    · rw [if_pos ((hnst n').mpr en), en, mu_s, (htab n (by omega) (by omega)).1]; rfl
    · rw [if_neg (fun h => en ((hnst n').mp h)), mu_n (Or.inr en), mu_a (by omega), mu_a (by omega), mu_a (by omega)]; exact (htab n' x y).1
  · rw [g3 _ _ (by omega), f8 _ _ (by omega) (by omega) (by omega), fo_1]
    show mu (mu m5 _ _ _) _ _ _ (c + 15) n' = _
    rw [mu_a (by omega)]
    by_cases en : n' = n
    · rw [if_pos ((hnst n').mpr en), en, mu_s, (htab n (by omega) (by omega)).2.1]
      unfold gC; rw [hv, Int.mul_comm]
    · rw [if_neg (fun h => en ((hnst n').mp h)), mu_n (Or.inr en), F5 _ _ (by omega) (by omega) (by omega) (by omega) (by omega)]; exact (htab n' x y).2.1
  · rw [g3 _ _ (by omega), f8 _ _ (by omega) (by omega) (by omega), fo_1]
    show mu (mu m5 _ _ _) _ _ _ (c + 16) n' = _
    by_cases en : n' = n
    · rw [if_pos ((hnst n').mpr en), en, mu_s, (htab n (by omega) (by omega)).2.2.1]
      unfold gS; rw [hv, Int.mul_comm]
    · rw [if_neg (fun h => en ((hnst n').mp h)), mu_n (Or.inr en), mu_a (by omega), F5 _ _ (by omega) (by omega) (by omega) (by omega) (by omega)]; exact (htab n' x y).2.2.1
  · rw [fo_1]
    by_cases en : n' = n
    · rw [if_pos ((hnst n').mpr en), en, g2 j a b, (htab n (by omega) (by omega)).2.2.2 j a b]
      unfold gP; rw [hv, Int.mul_comm]
    · rw [if_neg (fun h => en ((hnst n').mp h)), g3 _ _ (by omega), e17]; exact (htab n' x y).2.2.2 j a b
  · exact PicM_fr hm4 (fun b j y z => F9 b j (by omega) (by omega) (by omega) (by omega))
  · rw [F9 b j (by omega) (by omega) (by omega) (by omega)]; exact F4 b j (by omega) (by omega) (by omega) (by omega)
  have k1 : m1 c 10 = L.length := (mu_a (by omega)).trans h10
  have k2 : m2 c 10 = L.length := (mu_a (by omega)).trans k1
  have k4 : m3 (c + 14) n = m (c + 14) n := by
    show mu (mu (mu m _ _ _) _ _ _) _ _ _ (c + 14) n = _
    rw [mu_a (by omega), mu_a (by omega), mu_a (by omega)]
  have cm := c_Pic_mult hPS hm5 hK
  have cs := c_Pic_sign hPS hm6 hK
  show Ev 63 m_Cat_enter 0 [some (vr c), none, none, none, none] [] σ m _ σ m9
  refine Ev.aload_n d_Cat_enter_0 rfl ?_
  refine Ev.gr 1 d_Cat_enter_1 lf_Cat_12 rfl rfl hC.1.2 (by decide) hC.2.2.2.1.1 ?_
  refine Ev.callV d_Cat_enter_4 mt_Pic_knots lk_Cat_85 in_Pic_knots se_Pic_knots rfl (Nat.le_of_ble_eq_true rfl) rfl (Nat.le_of_ble_eq_true rfl) (by decide) hC.2.1.1.2.1 (by decide) rfl rfl ck ?_
  refine Ev.istore_1 d_Cat_enter_7 rfl ?_
  refine Ev.iload_n d_Cat_enter_8 rfl ?_
  refine Ev.callS d_Cat_enter_9 mt_Cat_isKnots lk_Cat_89 st_Cat_isKnots rfl (Nat.le_of_ble_eq_true rfl) rfl (Nat.le_of_ble_eq_true rfl) (by decide) rfl (c_Cat_isKnots (by omega)) ?_
  refine Ev.if_eq (tgt := 24) d_Cat_enter_12 rfl b01_b (fun hb12 => by exfalso; (first | rw [b01_ne] at hb12 | rw [b01_eq] at hb12); omega) (fun hb12 => ?_)
  rw [b01_ne] at hb12
  refine Ev.aload_n d_Cat_enter_15 rfl ?_
  refine Ev.gf 10 d_Cat_enter_16 lf_Cat_93 rfl rfl hC.1.2 (by decide) ?_
  rw [h10]
  refine Ev.bipush d_Cat_enter_19 rfl ?_
  refine Ev.icmp_lt (tgt := 25) d_Cat_enter_21 rfl (by first | omega | (simp [mu]; done) | (simp [mu]; omega)) (by first | omega | (simp [mu]; done) | (simp [mu]; omega)) (fun hb21 => ?_) (fun hb21 => by exfalso; first | omega | simp at hb21 | contradiction)
  refine Ev.aload_n d_Cat_enter_25 rfl ?_
  refine Ev.gr 4 d_Cat_enter_26 lf_Cat_32 rfl rfl hC.1.2 (by decide) hC.2.2.2.2.1 ?_
  refine Ev.aload_n d_Cat_enter_29 rfl ?_
  refine Ev.gf 10 d_Cat_enter_30 lf_Cat_93 rfl rfl hC.1.2 (by decide) ?_
  rw [h10]
  refine Ev.aload_n d_Cat_enter_33 rfl ?_
  refine Ev.gr 1 d_Cat_enter_34 lf_Cat_12 rfl rfl hC.1.2 (by decide) hC.2.2.2.1.1 ?_
  refine Ev.callV d_Cat_enter_37 mt_Pic_pack lk_Cat_96 in_Pic_pack se_Pic_pack rfl (Nat.le_of_ble_eq_true rfl) rfl (Nat.le_of_ble_eq_true rfl) (by decide) hC.2.1.1.2.1 (by decide) rfl rfl (c_Pic_pack hPS hm hK) ?_
  refine Ev.lastore d_Cat_enter_40 hC.2.2.1.1 (by have := hC.1.1; omega) (by first | omega | (simp [mu]; done) | (simp [mu]; omega)) ?_
  refine Ev.aload_n d_Cat_enter_41 rfl ?_
  refine Ev.gr 5 d_Cat_enter_42 lf_Cat_36 rfl rfl hC.1.2 (by decide) hC.2.2.2.2.2.1 ?_
  refine Ev.aload_n d_Cat_enter_45 rfl ?_
  refine Ev.gf 10 d_Cat_enter_46 lf_Cat_93 rfl rfl hC.1.2 (by decide) ?_
  rw [show mu m (c + 12) L.length (pk l) = m1 from rfl, k1]
  refine Ev.iload_n d_Cat_enter_49 rfl ?_
  refine Ev.iastore d_Cat_enter_50 hC.2.2.1.2.1 (by have := hC.1.1; omega) (by first | omega | (simp [mu]; done) | (simp [mu]; omega)) ?_
  refine Ev.aload_n d_Cat_enter_51 rfl ?_
  refine Ev.dup d_Cat_enter_52 rfl ?_
  refine Ev.gf 10 d_Cat_enter_53 lf_Cat_93 rfl rfl hC.1.2 (by decide) ?_
  rw [show mu m1 (c + 13) L.length n = m2 from rfl, k2]
  refine Ev.iconst d_Cat_enter_56 ?_
  refine Ev.iadd d_Cat_enter_57 ?_
  refine Ev.pf 10 d_Cat_enter_58 lf_Cat_93 rfl rfl rfl rfl hC.1.2 (by decide) ?_
  rw [show mu m2 c 10 ((L.length : Int) + 1) = m3 from rfl]
  refine Ev.aload_n d_Cat_enter_61 rfl ?_
  refine Ev.gr 6 d_Cat_enter_62 lf_Cat_40 rfl rfl hC.1.2 (by decide) hC.2.2.2.2.2.2.1 ?_
  refine Ev.iload_n d_Cat_enter_65 rfl ?_
  refine Ev.dup2 d_Cat_enter_66 rfl rfl ?_
  refine Ev.iaload d_Cat_enter_67 hC.2.2.1.2.2.1 (by omega) ?_
  rw [k4]
  refine Ev.iconst d_Cat_enter_68 ?_
  refine Ev.iadd d_Cat_enter_69 ?_
  refine Ev.iastore d_Cat_enter_70 hC.2.2.1.2.2.1 (by have := hC.1.1; omega) (by omega) ?_
  rw [show mu m3 (c + 14) n (m (c + 14) n + 1) = m4 from rfl]
  refine Ev.aload_n d_Cat_enter_71 rfl ?_
  refine Ev.gr 2 d_Cat_enter_72 lf_Cat_21 rfl rfl hC.1.2 (by decide) hC.2.2.2.1.2.1 ?_
  refine Ev.aload_n d_Cat_enter_75 rfl ?_
  refine Ev.gr 1 d_Cat_enter_76 lf_Cat_12 rfl rfl hC.1.2 (by decide) hC.2.2.2.1.1 ?_
  refine Ev.iconst d_Cat_enter_79 ?_
  refine Ev.iconst d_Cat_enter_80 ?_
  refine Ev.callV d_Cat_enter_81 mt_Mk_ways lk_Cat_100 in_Mk_ways se_Mk_ways rfl (Nat.le_of_ble_eq_true rfl) rfl (Nat.le_of_ble_eq_true rfl) (by decide) hC.2.1.2.1.2.1 (by decide) rfl rfl q5 ?_
  refine Ev.lstore_2 d_Cat_enter_84 rfl ?_
  refine Ev.aload_n d_Cat_enter_85 rfl ?_
  refine Ev.gr 7 d_Cat_enter_86 lf_Cat_43 rfl rfl hC.1.2 (by decide) hC.2.2.2.2.2.2.2.1 ?_
  refine Ev.iload_n d_Cat_enter_89 rfl ?_
  refine Ev.dup2 d_Cat_enter_90 rfl rfl ?_
  refine Ev.laload d_Cat_enter_91 hC.2.2.1.2.2.2.1 (by omega) ?_
  rw [e15]
  refine Ev.aload_n d_Cat_enter_92 rfl ?_
  refine Ev.gr 1 d_Cat_enter_93 lf_Cat_12 rfl rfl hC.1.2 (by decide) hC.2.2.2.1.1 ?_
  refine Ev.callV d_Cat_enter_96 mt_Pic_mult lk_Cat_104 in_Pic_mult se_Pic_mult rfl (Nat.le_of_ble_eq_true rfl) rfl (Nat.le_of_ble_eq_true rfl) (by decide) hC.2.1.1.2.1 (by decide) rfl rfl cm ?_
  refine Ev.i2l d_Cat_enter_99 (by first | omega | (simp [mu]; done) | (simp [mu]; omega)) ?_
  refine Ev.lload_n d_Cat_enter_100 rfl ?_
  refine Ev.lmul d_Cat_enter_101 ?_
  refine Ev.ladd d_Cat_enter_102 ?_
  refine Ev.lastore d_Cat_enter_103 hC.2.2.1.2.2.2.1 (by have := hC.1.1; omega) (by omega) ?_
  rw [show mu m5 (c + 15) n (m (c + 15) n + mulL l * v) = m6 from rfl]
  refine Ev.aload_n d_Cat_enter_104 rfl ?_
  refine Ev.gr 8 d_Cat_enter_105 lf_Cat_46 rfl rfl hC.1.2 (by decide) hC.2.2.2.2.2.2.2.2.1 ?_
  refine Ev.iload_n d_Cat_enter_108 rfl ?_
  refine Ev.dup2 d_Cat_enter_109 rfl rfl ?_
  refine Ev.laload d_Cat_enter_110 hC.2.2.1.2.2.2.2.1 (by omega) ?_
  rw [e16]
  refine Ev.aload_n d_Cat_enter_111 rfl ?_
  refine Ev.gr 1 d_Cat_enter_112 lf_Cat_12 rfl rfl hC.1.2 (by decide) hC.2.2.2.1.1 ?_
  refine Ev.callV d_Cat_enter_115 mt_Pic_sign lk_Cat_107 in_Pic_sign se_Pic_sign rfl (Nat.le_of_ble_eq_true rfl) rfl (Nat.le_of_ble_eq_true rfl) (by decide) hC.2.1.1.2.1 (by decide) rfl rfl cs ?_
  refine Ev.i2l d_Cat_enter_118 (by first | omega | (simp [mu]; done) | (simp [mu]; omega)) ?_
  refine Ev.lload_n d_Cat_enter_119 rfl ?_
  refine Ev.lmul d_Cat_enter_120 ?_
  refine Ev.ladd d_Cat_enter_121 ?_
  refine Ev.lastore d_Cat_enter_122 hC.2.2.1.2.2.2.2.1 (by have := hC.1.1; omega) (by omega) ?_
  rw [show mu m6 (c + 16) n (m (c + 16) n + sgL 1 l * v) = m7 from rfl]
  refine Ev.aload_n d_Cat_enter_123 rfl ?_
  refine Ev.gr 3 d_Cat_enter_124 lf_Cat_28 rfl rfl hC.1.2 (by decide) hC.2.2.2.1.2.2 ?_
  refine Ev.aload_n d_Cat_enter_127 rfl ?_
  refine Ev.gr 1 d_Cat_enter_128 lf_Cat_12 rfl rfl hC.1.2 (by decide) hC.2.2.2.1.1 ?_
  refine Ev.callVv d_Cat_enter_131 mt_Pow_expand lk_Cat_110 in_Pow_expand se_Pow_expand rfl (Nat.le_of_ble_eq_true rfl) rfl (Nat.le_of_ble_eq_true rfl) (by decide) hC.2.1.2.2.2.1 (by decide) rfl rfl q8 ?_
  refine Ev.bipush d_Cat_enter_134 rfl ?_
  refine Ev.istore_4 d_Cat_enter_136 rfl ?_
  exact g1
end
