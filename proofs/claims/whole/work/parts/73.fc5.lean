/-! the class's own methods: all of a degree -/
def c1 (σ : Sg) (d : Int) : Int := if σ.2.2.2.2 16 d = -1 then 0 else 1
def cnt (σ : Sg) : Int := c1 σ 1 + c1 σ 2 + c1 σ 3 + c1 σ 4
def Wd (L : Int) (σ : Sg) : Prop := FcS σ ∧ MoS σ ∧ Is σ 0 100 L ∧ (Is σ 1 100 6 ∧ Is σ 2 100 6) ∧ (88 ≤ σ.1 ∧ σ.1 ≤ 88 + 18 * cnt σ) ∧ σ.2.1 ≤ 90000 + 2000 * cnt σ
def CatAll (σ : Sg) (m : Mm) : Prop := ∀ d, 1 ≤ d ∧ d ≤ 4 → σ.2.2.2.2 16 d = -1 ∨ ∃ c, σ.2.2.2.2 16 d = c ∧ 88 ≤ c ∧ CatS σ c ∧ CatM m c d (RL d)
theorem c1_b (σ : Sg) (d : Int) : 0 ≤ c1 σ d ∧ c1 σ d ≤ 1 := by unfold c1; split <;> omega
theorem fcT_lt : fcT.all (fun q => decide (q.1 < 88)) = true := by decide +kernel
theorem fcR_lt : fcR.all (fun q => decide (q.1 < 88 ∧ q.1 ≠ 16)) = true := by decide +kernel
theorem moT_lt : moT.all (fun q => decide (q.1 < 88)) = true := by decide +kernel
section
variable {σ σ' : Sg} {m m' : Mm}
theorem Is_old {a n : Int} {t : Nat} (h : Is σ a t n) (h1 : σ.1 ≤ σ'.1) (h2 : σ'.2.2.1 a = σ.2.2.1 a ∧ σ'.2.2.2.1 a = σ.2.2.2.1 a) : Is σ' a t n := ⟨h.1, by have := h.2.1; omega, h2.1.trans h.2.2.1, h2.2.trans h.2.2.2⟩
def Same (k : Int) (σ σ' : Sg) : Prop := σ.1 ≤ σ'.1 ∧ ∀ b, b < k → σ'.2.2.1 b = σ.2.2.1 b ∧ σ'.2.2.2.1 b = σ.2.2.2.1 b ∧ (b ≠ 16 → ∀ i, σ'.2.2.2.2 b i = σ.2.2.2.2 b i)
theorem Same.is {k a n : Int} {t : Nat} (h : Same k σ σ') (ha : a < k) (hi : Is σ a t n) : Is σ' a t n := Is_old hi h.1 ⟨(h.2 a ha).1, (h.2 a ha).2.1⟩
theorem Same.fc {k : Int} (h : Same k σ σ') (hk : 88 ≤ k) (hF : FcS σ) : FcS σ' := ⟨fun q hq => h.is (by have := of_decide_eq_true (List.all_eq_true.mp fcT_lt q hq); omega) (hF.1 q hq), fun q hq => by
  have := of_decide_eq_true (List.all_eq_true.mp fcR_lt q hq)
  rw [(h.2 q.1 (by omega)).2.2 this.2]; exact hF.2 q hq⟩
theorem Same.mo {k : Int} (h : Same k σ σ') (hk : 88 ≤ k) (hM : MoS σ) : MoS σ' := ⟨fun q hq => h.is (by have := of_decide_eq_true (List.all_eq_true.mp moT_lt q hq); omega) (hM.1 q hq), fun q hq => by
  rw [(h.2 57 (by omega)).2.2 (by decide)]; exact hM.2 q hq⟩
theorem Same.pic {k a : Int} (h : Same k σ σ') (ha : a + 2 < k) (hn : 16 < a) (hP : PicS σ a) : PicS σ' a := ⟨hP.1, h.is (by omega) hP.2.1, h.is (by omega) hP.2.2.1, h.is (by omega) hP.2.2.2.1, ((h.2 a (by omega)).2.2 (by omega) _).trans hP.2.2.2.2.1, ((h.2 a (by omega)).2.2 (by omega) _).trans hP.2.2.2.2.2⟩
theorem Same.mk {k a : Int} (h : Same k σ σ') (ha : a + 4 < k) (hn : 16 < a) (hP : MkS σ a) : MkS σ' a := by
  obtain ⟨p0, p1, p2, p3, p4, p5, r1, r2, r3, r4⟩ := hP
  have hr := (h.2 a (by omega)).2.2 (by omega)
  exact ⟨p0, h.is (by omega) p1, h.is (by omega) p2, h.is (by omega) p3, h.is (by omega) p4, h.is (by omega) p5, (hr _).trans r1, (hr _).trans r2, (hr _).trans r3, (hr _).trans r4⟩
theorem Same.pow {k a : Int} (h : Same k σ σ') (ha : a + 2 < k) (hn : 16 < a) (hP : PowS σ a) : PowS σ' a := by
  obtain ⟨p0, p1, p2, p3, r1, r2⟩ := hP
  have hr := (h.2 a (by omega)).2.2 (by omega)
  exact ⟨p0, h.is (by omega) p1, h.is (by omega) p2, h.is (by omega) p3, (hr _).trans r1, (hr _).trans r2⟩
theorem Same.cat {k c : Int} (h : Same k σ σ') (ha : c + 17 < k) (hn : 16 < c) (hC : CatS σ c) : CatS σ' c := by
  obtain ⟨⟨p0, p1⟩, ⟨q1, q2, q3⟩, ⟨i1, i2, i3, i4, i5, i6⟩, ⟨r1, r2, r3⟩, s1, s2, s3, s4, s5, s6⟩ := hC
  have hr := (h.2 c (by omega)).2.2 (by omega)
  exact ⟨⟨p0, h.is (by omega) p1⟩, ⟨h.pic (by omega) (by omega) q1, h.mk (by omega) (by omega) q2, h.pow (by omega) (by omega) q3⟩, ⟨h.is (by omega) i1, h.is (by omega) i2, h.is (by omega) i3, h.is (by omega) i4, h.is (by omega) i5, h.is (by omega) i6⟩, ⟨(hr _).trans r1, (hr _).trans r2, (hr _).trans r3⟩, (hr _).trans s1, (hr _).trans s2, (hr _).trans s3, (hr _).trans s4, (hr _).trans s5, (hr _).trans s6⟩
theorem Wd.sr {L : Int} (h : Wd L σ) (h1 : ∀ j : Int, 0 ≤ j → j < 6 → m 1 j = pF j) (h2 : ∀ j : Int, 0 ≤ j → j < 6 → m 2 j = pT j) : SR σ m := ⟨h.2.2.2.1.1, h.2.2.2.1.2, h1, h2⟩
theorem CatAll_fr (h : CatAll σ m) (f : ∀ b j : Int, 88 ≤ b → m' b j = m b j) : CatAll σ m' := fun d hd => by
  rcases h d hd with h | ⟨c, h1, h2, h3, h4⟩
  · exact Or.inl h
  · exact Or.inr ⟨c, h1, h2, h3, CatM_fr h4 (fun b j hb => f b j (by omega))⟩
theorem c_catNo (hF : FcS σ) {d n : Int} (h1 : -2147483648 ≤ d ∧ d ≤ 2147483647) (h2 : -2147483648 ≤ n ∧ n ≤ 2147483647) (hd : ¬ (1 ≤ d ∧ d ≤ 4 ∧ 0 ≤ n ∧ n ≤ 6)) : Call 2 m_FC_catalogueOf [vr 3, vi d, vi n] σ m (some (vr (-1))) σ m := by
  show Ev 2 m_FC_catalogueOf 0 [some (vr 3), some (vi d), some (vi n)] [] σ m _ σ m
  refine Ev.iload_n d_FC_catalogueOf_0 rfl ?_
  refine Ev.callS d_FC_catalogueOf_1 mt_FC_isDegree lk_FC_65 st_FC_isDegree rfl (Nat.le_of_ble_eq_true rfl) rfl (Nat.le_of_ble_eq_true rfl) (by decide) rfl (c_FC_isDegree h1) ?_
  refine Ev.if_eq (tgt := 17) d_FC_catalogueOf_4 rfl b01_b (fun hb4 => ?_) (fun hb4 => ?_)
  · rw [b01_eq] at hb4
    refine Ev.null d_FC_catalogueOf_17 ?_
    exact Ev.to (Ev.areturn d_FC_catalogueOf_18 rfl) rfl rfl
  · rw [b01_ne] at hb4
    refine Ev.iload_n d_FC_catalogueOf_7 rfl ?_
    refine Ev.if_lt (tgt := 17) d_FC_catalogueOf_8 rfl (by first | omega | (simp [mu]; done) | (simp [mu]; omega)) (fun hb8 => ?_) (fun hb8 => ?_)
    · refine Ev.null d_FC_catalogueOf_17 ?_
      exact Ev.to (Ev.areturn d_FC_catalogueOf_18 rfl) rfl rfl
    · refine Ev.iload_n d_FC_catalogueOf_11 rfl ?_
      refine Ev.bipush d_FC_catalogueOf_12 rfl ?_
      refine Ev.icmp_le (tgt := 19) d_FC_catalogueOf_14 rfl (by first | omega | (simp [mu]; done) | (simp [mu]; omega)) (by first | omega | (simp [mu]; done) | (simp [mu]; omega)) (fun hb14 => by exfalso; first | omega | simp at hb14 | contradiction) (fun hb14 => ?_)
      refine Ev.null d_FC_catalogueOf_17 ?_
      exact Ev.to (Ev.areturn d_FC_catalogueOf_18 rfl) rfl rfl
theorem c_catOf {L : Int} (hW : Wd L σ) (hR : SR σ m) (hA : CatAll σ m) {d n : Int} (hd : 1 ≤ d ∧ d ≤ 4) (hn : 0 ≤ n ∧ n ≤ 6) : ∃ σ' m' c, Call 90 m_FC_catalogueOf [vr 3, vi d, vi n] σ m (some (vr c)) σ' m' ∧ Wd L σ' ∧ CatAll σ' m' ∧ (88 ≤ c ∧ CatS σ' c ∧ CatM m' c d (RL d)) ∧ (∀ b j : Int, b < 88 → m' b j = m b j) := by
  have hF := hW.1
  rcases hA d hd with hneg | ⟨c, h1, h2, h3, h4⟩
  · have hs88 := hW.2.2.2.2.1
    generalize hcdef : σ.1 = c at hs88
    have g : Gd c c σ [(0, 0, 0)] [] 1 (σ.2.1 + 11) (sn σ 0 0 11) := ⟨by show σ.1 + 1 = c + 1; omega, rfl, fun q hq => by
      rw [List.mem_singleton.mp hq]
      refine ⟨by show 0 ≤ c + 0; omega, by show c + 0 < σ.1 + 1; omega, ?_, ?_⟩
      · show (if c + 0 = σ.1 then 0 else _) = 0; rw [if_pos (by omega)]
      · show (if c + 0 = σ.1 then (0 : Int) else _) = 0; rw [if_pos (by omega)], fun q hq => (by cases hq), fun b hb => ⟨by show (if b = σ.1 then _ else _) = _; rw [if_neg (by omega)], by show (if b = σ.1 then _ else _) = _; rw [if_neg (by omega)], fun i => by show (if b = σ.1 then _ else _) = _; rw [if_neg (by omega)]⟩⟩
    have z : MZ c (c + 1) m zf (mz m c) := ⟨fun b j x => by show (if b = c then 0 else m b j) = _; rw [if_neg (by omega)], fun b j x y => by show (if b = c then (0 : Int) else m b j) = 0; rw [if_pos (by omega)]⟩
    obtain ⟨σ1, m1, q1, q2, q3, q4, q5, q6, q7⟩ := c_Cat_init (m0 := m) hs88.1 hd ⟨Is_sn hR.1, Is_sn hR.2.1, hR.2.2⟩ (by omega) g z
    rw [Int.add_zero] at q1
    have hSame : Same c σ (su σ1 16 d c) := ⟨by show σ.1 ≤ σ1.1; omega, fun b hb => ⟨(q6 b hb).1, (q6 b hb).2.1, fun h16 i => by
      show mu σ1.2.2.2.2 16 d c b i = _
      rw [mu_a h16]; exact (q6 b hb).2.2 i⟩⟩
    have hcat : CatS (su σ1 16 d c) c := by
      have hs2 : Same (σ1.1) σ1 (su σ1 16 d c) := ⟨Int.le_refl _, fun b hb => ⟨rfl, rfl, fun h16 i => by
        show mu σ1.2.2.2.2 16 d c b i = _
        rw [mu_a h16]⟩⟩
      exact hs2.cat (by omega) (by omega) q2
    have hr16 : ∀ e, (su σ1 16 d c).2.2.2.2 16 e = if e = d then c else σ.2.2.2.2 16 e := fun e => by
      show mu σ1.2.2.2.2 16 d c 16 e = _
      by_cases he : e = d
      · rw [if_pos he, he, mu_s]
      · rw [if_neg he, mu_n (Or.inr he)]; exact (q6 16 (by omega)).2.2 e
    have hc1 : ∀ e, c1 (su σ1 16 d c) e = if e = d then 1 else c1 σ e := fun e => by
      unfold c1
      rw [hr16 e]
      by_cases he : e = d
      · rw [if_pos he, if_pos he, if_neg (by omega)]
      · rw [if_neg he, if_neg he]
    have hd0 : c1 σ d = 0 := if_pos hneg
    have hcnt : cnt (su σ1 16 d c) = cnt σ + 1 := by
      unfold cnt
      rw [hc1 1, hc1 2, hc1 3, hc1 4]
      rcases (show d = 1 ∨ d = 2 ∨ d = 3 ∨ d = 4 by omega) with rfl | rfl | rfl | rfl <;> simp <;> omega
    have hW5 := hW.2.2.2.2.2
    refine ⟨su σ1 16 d c, m1, c, ?_, ⟨hSame.fc hs88.1 hF, hSame.mo hs88.1 hW.2.1, hSame.is (by omega) hW.2.2.1, ⟨hSame.is (by omega) hW.2.2.2.1.1, hSame.is (by omega) hW.2.2.2.1.2⟩, ?_, ?_⟩, fun e he => ?_, ⟨hs88.1, hcat, q3⟩, fun b j hb => q7 b j (by omega)⟩
    rotate_left
    · rw [hcnt]
      have e1 : (su σ1 16 d c).1 = σ1.1 := rfl
      omega
    · rw [hcnt]
      have e1 : (su σ1 16 d c).2.1 = σ1.2.1 := rfl
      omega
    · rw [hr16 e]
      by_cases hed : e = d
      · rw [if_pos hed, hed]; exact Or.inr ⟨c, rfl, hs88.1, hcat, q3⟩
      · rw [if_neg hed]
        rcases hA e he with h | ⟨c', a1, a2, a3, a4⟩
        · exact Or.inl h
        · have hlt : c' + 17 < c := by rw [← hcdef]; exact a3.2.2.1.2.2.2.2.2.2.1
          exact Or.inr ⟨c', a1, a2, hSame.cat hlt (by omega) a3, CatM_fr a4 (fun b j hb => q7 b j (by omega))⟩
    have hF2 : FcS σ1 := Same.fc (k := c) ⟨by omega, fun b hb => ⟨(q6 b hb).1, (q6 b hb).2.1, fun _ => (q6 b hb).2.2⟩⟩ hs88.1 hF
    have hF3 := hSame.fc hs88.1 hF
    have hneg' : σ.2.2.2.2 16 d = -1 := hneg
    have e16 : (su σ1 16 d c).2.2.2.2 16 d = c := by rw [hr16 d, if_pos rfl]
    show Ev 90 m_FC_catalogueOf 0 [some (vr 3), some (vi d), some (vi n)] [] σ m _ _ _
    refine Ev.iload_n d_FC_catalogueOf_0 rfl ?_
    refine Ev.callS d_FC_catalogueOf_1 mt_FC_isDegree lk_FC_65 st_FC_isDegree rfl (Nat.le_of_ble_eq_true rfl) rfl (Nat.le_of_ble_eq_true rfl) (by decide) rfl (c_FC_isDegree (by omega)) ?_
    refine Ev.if_eq (tgt := 17) d_FC_catalogueOf_4 rfl b01_b (fun hb4 => by exfalso; (first | rw [b01_ne] at hb4 | rw [b01_eq] at hb4); omega) (fun hb4 => ?_)
    rw [b01_ne] at hb4
    refine Ev.iload_n d_FC_catalogueOf_7 rfl ?_
    refine Ev.if_lt (tgt := 17) d_FC_catalogueOf_8 rfl (by first | omega | (simp [mu]; done) | (simp [mu]; omega)) (fun hb8 => by exfalso; first | omega | simp at hb8 | contradiction) (fun hb8 => ?_)
    refine Ev.iload_n d_FC_catalogueOf_11 rfl ?_
    refine Ev.bipush d_FC_catalogueOf_12 rfl ?_
    refine Ev.icmp_le (tgt := 19) d_FC_catalogueOf_14 rfl (by first | omega | (simp [mu]; done) | (simp [mu]; omega)) (by first | omega | (simp [mu]; done) | (simp [mu]; omega)) (fun hb14 => ?_) (fun hb14 => by exfalso; first | omega | simp at hb14 | contradiction)
    refine Ev.aload_n d_FC_catalogueOf_19 rfl ?_
    refine Ev.gr 4 d_FC_catalogueOf_20 lf_FC_36 rfl rfl (by first | exact fi_3 hF | exact fi_3 hF3) (by decide) (by first | exact fr_3_4 hF | exact fr_3_4 hF3) ?_
    refine Ev.iload_n d_FC_catalogueOf_23 rfl ?_
    refine Ev.aaload d_FC_catalogueOf_24 (by first | exact (show Is σ 16 (200 + 0) 5 from fi_16 hF) | exact (show Is (su σ1 16 d c) 16 (200 + 0) 5 from fi_16 hF3)) (by first | omega | (simp [mu]; done) | (simp [mu]; omega)) hneg' ?_
    refine Ev.ifnonnull (tgt := 42) d_FC_catalogueOf_25 rfl (fun hb25 => by exfalso; first | omega | simp at hb25 | contradiction) (fun hb25 => ?_)
    refine Ev.aload_n d_FC_catalogueOf_28 rfl ?_
    refine Ev.gr 4 d_FC_catalogueOf_29 lf_FC_36 rfl rfl (by first | exact fi_3 hF | exact fi_3 hF3) (by decide) (by first | exact fr_3_4 hF | exact fr_3_4 hF3) ?_
    refine Ev.iload_n d_FC_catalogueOf_32 rfl ?_
    refine Ev.new d_FC_catalogueOf_33 ln_FC_34 (by decide) ?_
    rw [hcdef]
    refine Ev.dup d_FC_catalogueOf_36 rfl ?_
    refine Ev.iload_n d_FC_catalogueOf_37 rfl ?_
    refine Ev.callIv d_FC_catalogueOf_38 mt_Cat_init lk_FC_266 in_Cat_init rfl rfl rfl (Nat.le_of_ble_eq_true rfl) rfl (Nat.le_of_ble_eq_true rfl) (by decide) (by omega) rfl q1 ?_
    refine Ev.aastore (c := 0) d_FC_catalogueOf_41 (show Is σ1 16 (200 + 0) 5 from fi_16 hF2) (by decide) (by omega) q2.1.2 (by decide) ?_
    refine Ev.aload_n d_FC_catalogueOf_42 rfl ?_
    refine Ev.gr 4 d_FC_catalogueOf_43 lf_FC_36 rfl rfl (by first | exact fi_3 hF | exact fi_3 hF3) (by decide) (by first | exact fr_3_4 hF | exact fr_3_4 hF3) ?_
    refine Ev.iload_n d_FC_catalogueOf_46 rfl ?_
    refine Ev.aaload d_FC_catalogueOf_47 (by first | exact (show Is σ 16 (200 + 0) 5 from fi_16 hF) | exact (show Is (su σ1 16 d c) 16 (200 + 0) 5 from fi_16 hF3)) (by first | omega | (simp [mu]; done) | (simp [mu]; omega)) e16 ?_
    exact Ev.to (Ev.areturn d_FC_catalogueOf_48 rfl) rfl rfl
  · refine ⟨σ, m, c, ?_, hW, hA, ⟨h2, h3, h4⟩, fun _ _ _ => rfl⟩
    show Ev 90 m_FC_catalogueOf 0 [some (vr 3), some (vi d), some (vi n)] [] σ m _ _ _
    refine Ev.iload_n d_FC_catalogueOf_0 rfl ?_
    refine Ev.callS d_FC_catalogueOf_1 mt_FC_isDegree lk_FC_65 st_FC_isDegree rfl (Nat.le_of_ble_eq_true rfl) rfl (Nat.le_of_ble_eq_true rfl) (by decide) rfl (c_FC_isDegree (by omega)) ?_
    refine Ev.if_eq (tgt := 17) d_FC_catalogueOf_4 rfl b01_b (fun hb4 => by exfalso; (first | rw [b01_ne] at hb4 | rw [b01_eq] at hb4); omega) (fun hb4 => ?_)
    rw [b01_ne] at hb4
    refine Ev.iload_n d_FC_catalogueOf_7 rfl ?_
    refine Ev.if_lt (tgt := 17) d_FC_catalogueOf_8 rfl (by first | omega | (simp [mu]; done) | (simp [mu]; omega)) (fun hb8 => by exfalso; first | omega | simp at hb8 | contradiction) (fun hb8 => ?_)
    refine Ev.iload_n d_FC_catalogueOf_11 rfl ?_
    refine Ev.bipush d_FC_catalogueOf_12 rfl ?_
    refine Ev.icmp_le (tgt := 19) d_FC_catalogueOf_14 rfl (by first | omega | (simp [mu]; done) | (simp [mu]; omega)) (by first | omega | (simp [mu]; done) | (simp [mu]; omega)) (fun hb14 => ?_) (fun hb14 => by exfalso; first | omega | simp at hb14 | contradiction)
    refine Ev.aload_n d_FC_catalogueOf_19 rfl ?_
    refine Ev.gr 4 d_FC_catalogueOf_20 lf_FC_36 rfl rfl (fi_3 hF) (by decide) (fr_3_4 hF) ?_
    refine Ev.iload_n d_FC_catalogueOf_23 rfl ?_
    refine Ev.aaload d_FC_catalogueOf_24 (show Is σ 16 (200 + 0) 5 from fi_16 hF) (by first | omega | (simp [mu]; done) | (simp [mu]; omega)) h1 ?_
    refine Ev.ifnonnull (tgt := 42) d_FC_catalogueOf_25 rfl (fun hb25 => ?_) (fun hb25 => by exfalso; first | omega | simp at hb25 | contradiction)
    refine Ev.aload_n d_FC_catalogueOf_42 rfl ?_
    refine Ev.gr 4 d_FC_catalogueOf_43 lf_FC_36 rfl rfl (fi_3 hF) (by decide) (fr_3_4 hF) ?_
    refine Ev.iload_n d_FC_catalogueOf_46 rfl ?_
    refine Ev.aaload d_FC_catalogueOf_47 (show Is σ 16 (200 + 0) 5 from fi_16 hF) (by first | omega | (simp [mu]; done) | (simp [mu]; omega)) h1 ?_
    exact Ev.to (Ev.areturn d_FC_catalogueOf_48 rfl) rfl rfl
theorem c_FC_count {L : Int} (hW : Wd L σ) (hR : SR σ m) (hA : CatAll σ m) {d n : Int} (h1 : -2147483648 ≤ d ∧ d ≤ 2147483647) (h2 : -2147483648 ≤ n ∧ n ≤ 2147483647) : ∃ σ' m', Call 91 m_FC_count [vr 3, vi d, vi n] σ m (some (vl (sp_count d n))) σ' m' ∧ Wd L σ' ∧ CatAll σ' m' ∧ (∀ b j : Int, b < 88 → m' b j = m b j) := by
  have hF := hW.1
  unfold sp_count
  by_cases hc : 1 ≤ d ∧ d ≤ 4 ∧ 0 ≤ n ∧ n ≤ 6
  · obtain ⟨σ', m', c, q1, q2, q3, ⟨h88, hC, hM⟩, q5⟩ := c_catOf hW hR hA (d := d) (n := n) (by omega) (by omega)
    have cc := c_Cat_counted hC hM (n := n) (by omega)
    rw [if_pos hc]
    refine ⟨σ', m', ?_, q2, q3, q5⟩
    show Ev 91 m_FC_count 0 [some (vr 3), some (vi d), some (vi n), none] [] σ m _ σ' m'
    refine Ev.aload_n d_FC_count_0 rfl ?_
    refine Ev.iload_n d_FC_count_1 rfl ?_
    refine Ev.iload_n d_FC_count_2 rfl ?_
    refine Ev.callV d_FC_count_3 mt_FC_catalogueOf lk_FC_164 in_FC_catalogueOf se_FC_catalogueOf rfl (Nat.le_of_ble_eq_true rfl) rfl (Nat.le_of_ble_eq_true rfl) (by decide) (fi_3 hF) (by decide) rfl rfl q1 ?_
    refine Ev.astore_3 d_FC_count_6 rfl ?_
    refine Ev.aload_n d_FC_count_7 rfl ?_
    refine Ev.ifnonnull (tgt := 17) d_FC_count_8 rfl (fun hb8 => ?_) (fun hb8 => by exfalso; first | omega | simp at hb8 | contradiction)
    refine Ev.aload_n d_FC_count_17 rfl ?_
    refine Ev.iload_n d_FC_count_18 rfl ?_
    refine Ev.callV d_FC_count_19 mt_Cat_counted lk_FC_168 in_Cat_counted se_Cat_counted rfl (Nat.le_of_ble_eq_true rfl) rfl (Nat.le_of_ble_eq_true rfl) (by decide) hC.1.2 (by decide) rfl rfl cc ?_
    exact Ev.to (Ev.lreturn d_FC_count_22 rfl) rfl rfl
  · rw [if_neg hc]
    refine ⟨σ, m, ?_, hW, hA, fun _ _ _ => rfl⟩
    show Ev 91 m_FC_count 0 [some (vr 3), some (vi d), some (vi n), none] [] σ m _ σ m
    refine Ev.aload_n d_FC_count_0 rfl ?_
    refine Ev.iload_n d_FC_count_1 rfl ?_
    refine Ev.iload_n d_FC_count_2 rfl ?_
    refine Ev.callV d_FC_count_3 mt_FC_catalogueOf lk_FC_164 in_FC_catalogueOf se_FC_catalogueOf rfl (Nat.le_of_ble_eq_true rfl) rfl (Nat.le_of_ble_eq_true rfl) (by decide) (fi_3 hF) (by decide) rfl rfl (c_catNo hF h1 h2 hc) ?_
    refine Ev.astore_3 d_FC_count_6 rfl ?_
    refine Ev.aload_n d_FC_count_7 rfl ?_
    refine Ev.ifnonnull (tgt := 17) d_FC_count_8 rfl (fun hb8 => by exfalso; first | omega | simp at hb8 | contradiction) (fun hb8 => ?_)
    refine Ev.ldc2 (x := (-1)) d_FC_count_11 kl_FC_139 ?_
    refine Ev.goto (tgt := 22) d_FC_count_14 rfl ?_
    exact Ev.to (Ev.lreturn d_FC_count_22 rfl) rfl rfl
theorem c_FC_signed {L : Int} (hW : Wd L σ) (hR : SR σ m) (hA : CatAll σ m) {d n : Int} (h1 : -2147483648 ≤ d ∧ d ≤ 2147483647) (h2 : -2147483648 ≤ n ∧ n ≤ 2147483647) : ∃ σ' m', Call 91 m_FC_signed [vr 3, vi d, vi n] σ m (some (vl (sp_signed d n))) σ' m' ∧ Wd L σ' ∧ CatAll σ' m' ∧ (∀ b j : Int, b < 88 → m' b j = m b j) := by
  have hF := hW.1
  unfold sp_signed
  by_cases hc : 1 ≤ d ∧ d ≤ 4 ∧ 0 ≤ n ∧ n ≤ 6
  · obtain ⟨σ', m', c, q1, q2, q3, ⟨h88, hC, hM⟩, q5⟩ := c_catOf hW hR hA (d := d) (n := n) (by omega) (by omega)
    have cc := c_Cat_countedBySign hC hM (n := n) (by omega)
    rw [if_pos hc]
    refine ⟨σ', m', ?_, q2, q3, q5⟩
    show Ev 91 m_FC_signed 0 [some (vr 3), some (vi d), some (vi n), none] [] σ m _ σ' m'
    refine Ev.aload_n d_FC_signed_0 rfl ?_
    refine Ev.iload_n d_FC_signed_1 rfl ?_
    refine Ev.iload_n d_FC_signed_2 rfl ?_
    refine Ev.callV d_FC_signed_3 mt_FC_catalogueOf lk_FC_164 in_FC_catalogueOf se_FC_catalogueOf rfl (Nat.le_of_ble_eq_true rfl) rfl (Nat.le_of_ble_eq_true rfl) (by decide) (fi_3 hF) (by decide) rfl rfl q1 ?_
    refine Ev.astore_3 d_FC_signed_6 rfl ?_
    refine Ev.aload_n d_FC_signed_7 rfl ?_
    refine Ev.ifnonnull (tgt := 17) d_FC_signed_8 rfl (fun hb8 => ?_) (fun hb8 => by exfalso; first | omega | simp at hb8 | contradiction)
    refine Ev.aload_n d_FC_signed_17 rfl ?_
    refine Ev.iload_n d_FC_signed_18 rfl ?_
    refine Ev.callV d_FC_signed_19 mt_Cat_countedBySign lk_FC_171 in_Cat_countedBySign se_Cat_countedBySign rfl (Nat.le_of_ble_eq_true rfl) rfl (Nat.le_of_ble_eq_true rfl) (by decide) hC.1.2 (by decide) rfl rfl cc ?_
    exact Ev.to (Ev.lreturn d_FC_signed_22 rfl) rfl rfl
  · rw [if_neg hc]
    refine ⟨σ, m, ?_, hW, hA, fun _ _ _ => rfl⟩
    show Ev 91 m_FC_signed 0 [some (vr 3), some (vi d), some (vi n), none] [] σ m _ σ m
    refine Ev.aload_n d_FC_signed_0 rfl ?_
    refine Ev.iload_n d_FC_signed_1 rfl ?_
    refine Ev.iload_n d_FC_signed_2 rfl ?_
    refine Ev.callV d_FC_signed_3 mt_FC_catalogueOf lk_FC_164 in_FC_catalogueOf se_FC_catalogueOf rfl (Nat.le_of_ble_eq_true rfl) rfl (Nat.le_of_ble_eq_true rfl) (by decide) (fi_3 hF) (by decide) rfl rfl (c_catNo hF h1 h2 hc) ?_
    refine Ev.astore_3 d_FC_signed_6 rfl ?_
    refine Ev.aload_n d_FC_signed_7 rfl ?_
    refine Ev.ifnonnull (tgt := 17) d_FC_signed_8 rfl (fun hb8 => by exfalso; first | omega | simp at hb8 | contradiction) (fun hb8 => ?_)
    refine Ev.ldc2 (x := (-1)) d_FC_signed_11 kl_FC_139 ?_
    refine Ev.goto (tgt := 22) d_FC_signed_14 rfl ?_
    exact Ev.to (Ev.lreturn d_FC_signed_22 rfl) rfl rfl
theorem c_FC_listed {L : Int} (hW : Wd L σ) (hR : SR σ m) (hA : CatAll σ m) {d n : Int} (h1 : -2147483648 ≤ d ∧ d ≤ 2147483647) (h2 : -2147483648 ≤ n ∧ n ≤ 2147483647) : ∃ σ' m', Call 91 m_FC_listed [vr 3, vi d, vi n] σ m (some (vi (sp_listed d n))) σ' m' ∧ Wd L σ' ∧ CatAll σ' m' ∧ (∀ b j : Int, b < 88 → m' b j = m b j) := by
  have hF := hW.1
  unfold sp_listed
  by_cases hc : 1 ≤ d ∧ d ≤ 4 ∧ 0 ≤ n ∧ n ≤ 6
  · obtain ⟨σ', m', c, q1, q2, q3, ⟨h88, hC, hM⟩, q5⟩ := c_catOf hW hR hA (d := d) (n := n) (by omega) (by omega)
    have cc := c_Cat_howMany hC hM (n := n) (by omega)
    rw [if_pos hc]
    refine ⟨σ', m', ?_, q2, q3, q5⟩
    show Ev 91 m_FC_listed 0 [some (vr 3), some (vi d), some (vi n), none] [] σ m _ σ' m'
    refine Ev.aload_n d_FC_listed_0 rfl ?_
    refine Ev.iload_n d_FC_listed_1 rfl ?_
    refine Ev.iload_n d_FC_listed_2 rfl ?_
    refine Ev.callV d_FC_listed_3 mt_FC_catalogueOf lk_FC_164 in_FC_catalogueOf se_FC_catalogueOf rfl (Nat.le_of_ble_eq_true rfl) rfl (Nat.le_of_ble_eq_true rfl) (by decide) (fi_3 hF) (by decide) rfl rfl q1 ?_
    refine Ev.astore_3 d_FC_listed_6 rfl ?_
    refine Ev.aload_n d_FC_listed_7 rfl ?_
    refine Ev.ifnonnull (tgt := 15) d_FC_listed_8 rfl (fun hb8 => ?_) (fun hb8 => by exfalso; first | omega | simp at hb8 | contradiction)
    refine Ev.aload_n d_FC_listed_15 rfl ?_
    refine Ev.iload_n d_FC_listed_16 rfl ?_
    refine Ev.callV d_FC_listed_17 mt_Cat_howMany lk_FC_178 in_Cat_howMany se_Cat_howMany rfl (Nat.le_of_ble_eq_true rfl) rfl (Nat.le_of_ble_eq_true rfl) (by decide) hC.1.2 (by decide) rfl rfl cc ?_
    exact Ev.to (Ev.ireturn d_FC_listed_20 rfl) rfl rfl
  · rw [if_neg hc]
    refine ⟨σ, m, ?_, hW, hA, fun _ _ _ => rfl⟩
    show Ev 91 m_FC_listed 0 [some (vr 3), some (vi d), some (vi n), none] [] σ m _ σ m
    refine Ev.aload_n d_FC_listed_0 rfl ?_
    refine Ev.iload_n d_FC_listed_1 rfl ?_
    refine Ev.iload_n d_FC_listed_2 rfl ?_
    refine Ev.callV d_FC_listed_3 mt_FC_catalogueOf lk_FC_164 in_FC_catalogueOf se_FC_catalogueOf rfl (Nat.le_of_ble_eq_true rfl) rfl (Nat.le_of_ble_eq_true rfl) (by decide) (fi_3 hF) (by decide) rfl rfl (c_catNo hF h1 h2 hc) ?_
    refine Ev.astore_3 d_FC_listed_6 rfl ?_
    refine Ev.aload_n d_FC_listed_7 rfl ?_
    refine Ev.ifnonnull (tgt := 15) d_FC_listed_8 rfl (fun hb8 => by exfalso; first | omega | simp at hb8 | contradiction) (fun hb8 => ?_)
    refine Ev.iconst d_FC_listed_11 ?_
    refine Ev.goto (tgt := 20) d_FC_listed_12 rfl ?_
    exact Ev.to (Ev.ireturn d_FC_listed_20 rfl) rfl rfl
theorem c_FC_spreadAll {L : Int} (hW : Wd L σ) (hR : SR σ m) (hA : CatAll σ m) {d n k : Int} (h1 : -2147483648 ≤ d ∧ d ≤ 2147483647) (h2 : -2147483648 ≤ n ∧ n ≤ 2147483647) (h3 : -2147483648 ≤ k ∧ k ≤ 2147483647) : ∃ σ' m', Call 91 m_FC_spreadAll [vr 3, vi d, vi n, vi k] σ m (some (vl (sp_spreadAll d n k))) σ' m' ∧ Wd L σ' ∧ CatAll σ' m' ∧ (∀ b j : Int, b < 88 → m' b j = m b j) := by
  have hF := hW.1
  unfold sp_spreadAll
  by_cases hc : 1 ≤ d ∧ d ≤ 4 ∧ 0 ≤ n ∧ n ≤ 6
  · obtain ⟨σ', m', c, q1, q2, q3, ⟨h88, hC, hM⟩, q5⟩ := c_catOf hW hR hA (d := d) (n := n) (by omega) (by omega)
    have cc := c_Cat_countedByPower hC hM (n := n) (by omega) h3
    rw [if_pos hc]
    refine ⟨σ', m', ?_, q2, q3, q5⟩
    show Ev 91 m_FC_spreadAll 0 [some (vr 3), some (vi d), some (vi n), some (vi k), none] [] σ m _ σ' m'
    refine Ev.aload_n d_FC_spreadAll_0 rfl ?_
    refine Ev.iload_n d_FC_spreadAll_1 rfl ?_
    refine Ev.iload_n d_FC_spreadAll_2 rfl ?_
    refine Ev.callV d_FC_spreadAll_3 mt_FC_catalogueOf lk_FC_164 in_FC_catalogueOf se_FC_catalogueOf rfl (Nat.le_of_ble_eq_true rfl) rfl (Nat.le_of_ble_eq_true rfl) (by decide) (fi_3 hF) (by decide) rfl rfl q1 ?_
    refine Ev.astore_4 d_FC_spreadAll_6 rfl ?_
    refine Ev.aload d_FC_spreadAll_8 rfl ?_
    refine Ev.ifnonnull (tgt := 19) d_FC_spreadAll_10 rfl (fun hb10 => ?_) (fun hb10 => by exfalso; first | omega | simp at hb10 | contradiction)
    refine Ev.aload d_FC_spreadAll_19 rfl ?_
    refine Ev.iload_n d_FC_spreadAll_21 rfl ?_
    refine Ev.iload_n d_FC_spreadAll_22 rfl ?_
    refine Ev.callV d_FC_spreadAll_23 mt_Cat_countedByPower lk_FC_174 in_Cat_countedByPower se_Cat_countedByPower rfl (Nat.le_of_ble_eq_true rfl) rfl (Nat.le_of_ble_eq_true rfl) (by decide) hC.1.2 (by decide) rfl rfl cc ?_
    exact Ev.to (Ev.lreturn d_FC_spreadAll_26 rfl) rfl rfl
  · rw [if_neg hc]
    refine ⟨σ, m, ?_, hW, hA, fun _ _ _ => rfl⟩
    show Ev 91 m_FC_spreadAll 0 [some (vr 3), some (vi d), some (vi n), some (vi k), none] [] σ m _ σ m
    refine Ev.aload_n d_FC_spreadAll_0 rfl ?_
    refine Ev.iload_n d_FC_spreadAll_1 rfl ?_
    refine Ev.iload_n d_FC_spreadAll_2 rfl ?_
    refine Ev.callV d_FC_spreadAll_3 mt_FC_catalogueOf lk_FC_164 in_FC_catalogueOf se_FC_catalogueOf rfl (Nat.le_of_ble_eq_true rfl) rfl (Nat.le_of_ble_eq_true rfl) (by decide) (fi_3 hF) (by decide) rfl rfl (c_catNo hF h1 h2 hc) ?_
    refine Ev.astore_4 d_FC_spreadAll_6 rfl ?_
    refine Ev.aload d_FC_spreadAll_8 rfl ?_
    refine Ev.ifnonnull (tgt := 19) d_FC_spreadAll_10 rfl (fun hb10 => by exfalso; first | omega | simp at hb10 | contradiction) (fun hb10 => ?_)
    refine Ev.ldc2 (x := (-1)) d_FC_spreadAll_13 kl_FC_139 ?_
    refine Ev.goto (tgt := 26) d_FC_spreadAll_16 rfl ?_
    exact Ev.to (Ev.lreturn d_FC_spreadAll_26 rfl) rfl rfl
def pkOk (l : List Int) : Bool := decide (0 ≤ pk l ∧ pk l ≤ 281474976710655) && (List.range 24).all (fun x => decide (pk l / 2 ^ (2 * (23 - (x : Int))).toNat % 2 ^ 2 = cn x l))
theorem pk_ok {d : Int} (hd : 1 ≤ d ∧ d ≤ 4) {l : List Int} (hl : l ∈ RL d) : (0 ≤ pk l ∧ pk l ≤ 281474976710655) ∧ ∀ x : Int, 0 ≤ x → x < 24 → pk l / 2 ^ (2 * (23 - x)).toNat % 2 ^ 2 = cn x l := by
  have h := List.all_eq_true.mp (dcase (p := fun d => (RL d).all pkOk = true) hd (by decide +kernel) (by decide +kernel) (by decide +kernel) (by decide +kernel)) l hl
  unfold pkOk at h
  simp only [Bool.and_eq_true, decide_eq_true_eq] at h
  refine ⟨h.1, fun x a b => ?_⟩
  have := of_decide_eq_true (List.all_eq_true.mp h.2 x.toNat (List.mem_range.mpr (by omega)))
  rwa [Int.toNat_of_nonneg a] at this
theorem rAt_tk {d n i : Int} : ∀ (t : List (List Int)) (p : Int), p ≤ i → i - p < fo g1 (nst d n) t 0 → rAt d n i t p = pk (tkL (nst d n) t (i - p)) ∧ tkL (nst d n) t (i - p) ∈ t
  | [], p, h1, h2 => by simp only [fo] at h2; omega
  | l :: t, p, h1, h2 => by
    have hadd := fo1_add (nst d n) t (0 + 1)
    simp only [fo, g1] at h2
    by_cases hk : (l.length : Int) = nst d n
    · have hk2 : d * (d - 1) / 2 - (l.length : Int) = n := by unfold nst at hk; omega
      rw [if_pos hk] at h2
      by_cases hp : p = i
      · have e1 : rAt d n i (l :: t) p = pk l := (if_pos hk2).trans (if_pos hp)
        have e2 : tkL (nst d n) (l :: t) (i - p) = l := (if_pos hk).trans (if_pos (by omega))
        rw [e1, e2]; exact ⟨rfl, List.mem_cons_self⟩
      · have e1 : rAt d n i (l :: t) p = rAt d n i t (p + 1) := (if_pos hk2).trans (if_neg hp)
        have e2 : tkL (nst d n) (l :: t) (i - p) = tkL (nst d n) t (i - (p + 1)) := by
          show (if (l.length : Int) = nst d n then (if i - p ≤ 0 then l else tkL (nst d n) t (i - p - 1)) else _) = _
          rw [if_pos hk, if_neg (by omega), show i - p - 1 = i - (p + 1) by omega]
        obtain ⟨r1, r2⟩ := rAt_tk (d := d) (n := n) (i := i) t (p + 1) (by omega) (by omega)
        rw [e1, e2]; exact ⟨r1, List.mem_cons_of_mem _ r2⟩
    · have hk2 : ¬ d * (d - 1) / 2 - (l.length : Int) = n := by unfold nst at hk; omega
      rw [if_neg hk] at h2
      have e1 : rAt d n i (l :: t) p = rAt d n i t p := if_neg hk2
      have e2 : tkL (nst d n) (l :: t) (i - p) = tkL (nst d n) t (i - p) := if_neg hk
      obtain ⟨r1, r2⟩ := rAt_tk (d := d) (n := n) (i := i) t p h1 h2
      rw [e1, e2]; exact ⟨r1, List.mem_cons_of_mem _ r2⟩
theorem RL_61 {d : Int} (hd : 1 ≤ d ∧ d ≤ 4) : (RL d).length ≤ 61 := dcase (p := fun d => (RL d).length ≤ 61) hd (by decide +kernel) (by decide +kernel) (by decide +kernel) (by decide +kernel)
theorem c_FC_take {L : Int} (hW : Wd L σ) (hR : SR σ m) (hA : CatAll σ m) {S : PS} (hS : CS m S) {d n i : Int} (h1 : -2147483648 ≤ d ∧ d ≤ 2147483647) (h2 : -2147483648 ≤ n ∧ n ≤ 2147483647) (h3 : -2147483648 ≤ i ∧ i ≤ 2147483647) : ∃ σ' m', Call 91 m_FC_take [vr 3, vi d, vi n, vi i] σ m (some (vi (sp_take S d n i))) σ' m' ∧ Wd L σ' ∧ CatAll σ' m' ∧ CS m' (st_take S d n i) ∧ (∀ b j : Int, b < 88 → ¬ (b = 3 ∧ j = 9) → ¬ (5 ≤ b ∧ b ≤ 7) → ¬ (25 ≤ b ∧ b ≤ 48) → m' b j = m b j) := by
  have hF := hW.1
  unfold sp_take st_take
  by_cases hc : 1 ≤ d ∧ d ≤ 4 ∧ 0 ≤ n ∧ n ≤ 6
  · have hd : 1 ≤ d ∧ d ≤ 4 := by omega
    obtain ⟨σ', m', c, q1, q2, q3, ⟨h88, hC, hM⟩, q5⟩ := c_catOf hW hR hA hd (n := n) (by omega)
    have hF2 := q2.1
    have hS' : CS m' S := CS_fr hS (fun b j h => q5 b j (by omega))
    have hR' : SR σ' m' := q2.sr (fun j a b => (q5 _ _ (by decide)).trans (hR.2.2.1 j a b)) (fun j a b => (q5 _ _ (by decide)).trans (hR.2.2.2 j a b))
    by_cases hi : 0 ≤ i
    · rw [if_pos ⟨hc, hi⟩]
      have ch := c_Cat_howMany hC hM (n := n) (by omega)
      have ch : Call 2 m_Cat_howMany [vr c, vi n] σ' m' (some (vi (LN d n))) σ' m' := ch
      have hLN := LN_b hd (n := n) (by omega)
      by_cases hl : LN d n ≤ i
      · rw [if_pos hl, if_neg (fun h => by omega)]
        refine ⟨σ', m', ?_, q2, q3, hS', fun b j x _ _ _ => q5 b j x⟩
        show Ev 91 m_FC_take 0 [some (vr 3), some (vi d), some (vi n), some (vi i), none] [] σ m _ σ' m'
        refine Ev.aload_n d_FC_take_0 rfl ?_
        refine Ev.iload_n d_FC_take_1 rfl ?_
        refine Ev.iload_n d_FC_take_2 rfl ?_
        refine Ev.callV d_FC_take_3 mt_FC_catalogueOf lk_FC_164 in_FC_catalogueOf se_FC_catalogueOf rfl (Nat.le_of_ble_eq_true rfl) rfl (Nat.le_of_ble_eq_true rfl) (by decide) (by first | exact fi_3 hF | exact fi_3 hF2) (by decide) rfl rfl q1 ?_
        refine Ev.astore_4 d_FC_take_6 rfl ?_
        refine Ev.aload d_FC_take_8 rfl ?_
        refine Ev.ifnull (tgt := 17) d_FC_take_10 rfl (fun hb10 => by exfalso; first | omega | simp at hb10 | contradiction) (fun hb10 => ?_)
        refine Ev.iload_n d_FC_take_13 rfl ?_
        refine Ev.if_ge (tgt := 19) d_FC_take_14 rfl (by first | omega | (simp [mu]; done) | (simp [mu]; omega)) (fun hb14 => ?_) (fun hb14 => by exfalso; first | omega | simp at hb14 | contradiction)
        refine Ev.iload_n d_FC_take_19 rfl ?_
        refine Ev.aload d_FC_take_20 rfl ?_
        refine Ev.iload_n d_FC_take_22 rfl ?_
        refine Ev.callV d_FC_take_23 mt_Cat_howMany lk_FC_178 in_Cat_howMany se_Cat_howMany rfl (Nat.le_of_ble_eq_true rfl) rfl (Nat.le_of_ble_eq_true rfl) (by decide) hC.1.2 (by decide) rfl rfl ch ?_
        refine Ev.icmp_lt (tgt := 32) d_FC_take_26 rfl (by first | omega | (simp [mu]; done) | (simp [mu]; omega)) (by first | omega | (simp [mu]; done) | (simp [mu]; omega)) (fun hb26 => by exfalso; first | omega | simp at hb26 | contradiction) (fun hb26 => ?_)
        refine Ev.bipush d_FC_take_29 rfl ?_
        exact Ev.to (Ev.ireturn d_FC_take_31 rfl) rfl rfl
      · rw [if_neg hl]
        have cr := c_Cat_rowAt hC hM hd (RL_61 hd) (fun l h => (RL_ok hd l h).1.2.1) (n := n) (i := i) (by omega) h3
        obtain ⟨r1, r2⟩ := rAt_tk (d := d) (n := n) (i := i) (RL d) 0 hi (by have : LN d n = fo g1 (nst d n) (RL d) 0 := rfl; omega)
        rw [Int.sub_zero] at r1 r2
        rw [r1] at cr
        generalize tkL (nst d n) (RL d) i = l at cr r2
        have hKl := (RL_ok hd l r2).1
        have hpk := pk_ok hd r2
        obtain ⟨m1, k1, k2, k3⟩ := c_Pic_unpack hR' (pic_5 hF2) hd (l := l) (fun y hy => by have := hKl.2.2.2 y hy; omega) (row := pk l) (by omega) hpk.2
        have hS1 : CS m1 S := CS_fr hS' (fun b j h => k3 b j (by omega) (by omega) (by omega))
        obtain ⟨m2, g1_, g2_, g3_⟩ := c_FC_keepDraft hF2 hS1 k2 hKl
        refine ⟨σ', m2, ?_, q2, CatAll_fr q3 (fun b j h => (g3_ b j (by omega) (by omega) (by omega)).trans (k3 b j (by omega) (by omega) (by omega))), ?_, fun b j x y z v => (g3_ b j y z v).trans ((k3 b j (by omega) (by omega) (by omega)).trans (q5 b j x))⟩
        rotate_left
        · by_cases h8 : S.1 = 8
          · rw [if_neg (fun h => h.2.2.2 h8)]; rw [if_pos h8] at g2_; exact g2_
          · rw [if_pos ⟨hc, hi, by omega, h8⟩]; rw [if_neg h8] at g2_; exact g2_
        show Ev 91 m_FC_take 0 [some (vr 3), some (vi d), some (vi n), some (vi i), none] [] σ m _ σ' m2
        refine Ev.aload_n d_FC_take_0 rfl ?_
        refine Ev.iload_n d_FC_take_1 rfl ?_
        refine Ev.iload_n d_FC_take_2 rfl ?_
        refine Ev.callV d_FC_take_3 mt_FC_catalogueOf lk_FC_164 in_FC_catalogueOf se_FC_catalogueOf rfl (Nat.le_of_ble_eq_true rfl) rfl (Nat.le_of_ble_eq_true rfl) (by decide) (by first | exact fi_3 hF | exact fi_3 hF2) (by decide) rfl rfl q1 ?_
        refine Ev.astore_4 d_FC_take_6 rfl ?_
        refine Ev.aload d_FC_take_8 rfl ?_
        refine Ev.ifnull (tgt := 17) d_FC_take_10 rfl (fun hb10 => by exfalso; first | omega | simp at hb10 | contradiction) (fun hb10 => ?_)
        refine Ev.iload_n d_FC_take_13 rfl ?_
        refine Ev.if_ge (tgt := 19) d_FC_take_14 rfl (by first | omega | (simp [mu]; done) | (simp [mu]; omega)) (fun hb14 => ?_) (fun hb14 => by exfalso; first | omega | simp at hb14 | contradiction)
        refine Ev.iload_n d_FC_take_19 rfl ?_
        refine Ev.aload d_FC_take_20 rfl ?_
        refine Ev.iload_n d_FC_take_22 rfl ?_
        refine Ev.callV d_FC_take_23 mt_Cat_howMany lk_FC_178 in_Cat_howMany se_Cat_howMany rfl (Nat.le_of_ble_eq_true rfl) rfl (Nat.le_of_ble_eq_true rfl) (by decide) hC.1.2 (by decide) rfl rfl ch ?_
        refine Ev.icmp_lt (tgt := 32) d_FC_take_26 rfl (by first | omega | (simp [mu]; done) | (simp [mu]; omega)) (by first | omega | (simp [mu]; done) | (simp [mu]; omega)) (fun hb26 => ?_) (fun hb26 => by exfalso; first | omega | simp at hb26 | contradiction)
        refine Ev.aload_n d_FC_take_32 rfl ?_
        refine Ev.gr 1 d_FC_take_33 lf_FC_16 rfl rfl (by first | exact fi_3 hF | exact fi_3 hF2) (by decide) (by first | exact fr_3_1 hF | exact fr_3_1 hF2) ?_
        refine Ev.iload_n d_FC_take_36 rfl ?_
        refine Ev.aload d_FC_take_37 rfl ?_
        refine Ev.iload_n d_FC_take_39 rfl ?_
        refine Ev.iload_n d_FC_take_40 rfl ?_
        refine Ev.callV d_FC_take_41 mt_Cat_rowAt lk_FC_181 in_Cat_rowAt se_Cat_rowAt rfl (Nat.le_of_ble_eq_true rfl) rfl (Nat.le_of_ble_eq_true rfl) (by decide) hC.1.2 (by decide) rfl rfl cr ?_
        refine Ev.callVv d_FC_take_44 mt_Pic_unpack lk_FC_184 in_Pic_unpack se_Pic_unpack rfl (Nat.le_of_ble_eq_true rfl) rfl (Nat.le_of_ble_eq_true rfl) (by decide) (fi_5 hF2) (by decide) rfl rfl k1 ?_
        refine Ev.aload_n d_FC_take_47 rfl ?_
        refine Ev.callV d_FC_take_48 mt_FC_keepDraft lk_FC_73 in_FC_keepDraft se_FC_keepDraft rfl (Nat.le_of_ble_eq_true rfl) rfl (Nat.le_of_ble_eq_true rfl) (by decide) (by first | exact fi_3 hF | exact fi_3 hF2) (by decide) rfl rfl g1_ ?_
        exact Ev.to (Ev.ireturn d_FC_take_51 rfl) rfl rfl
    · rw [if_neg (fun h => hi h.2), if_neg (fun h => hi h.2.1)]
      refine ⟨σ', m', ?_, q2, q3, hS', fun b j x _ _ _ => q5 b j x⟩
      show Ev 91 m_FC_take 0 [some (vr 3), some (vi d), some (vi n), some (vi i), none] [] σ m _ σ' m'
      refine Ev.aload_n d_FC_take_0 rfl ?_
      refine Ev.iload_n d_FC_take_1 rfl ?_
      refine Ev.iload_n d_FC_take_2 rfl ?_
      refine Ev.callV d_FC_take_3 mt_FC_catalogueOf lk_FC_164 in_FC_catalogueOf se_FC_catalogueOf rfl (Nat.le_of_ble_eq_true rfl) rfl (Nat.le_of_ble_eq_true rfl) (by decide) (by first | exact fi_3 hF | exact fi_3 hF2) (by decide) rfl rfl q1 ?_
      refine Ev.astore_4 d_FC_take_6 rfl ?_
      refine Ev.aload d_FC_take_8 rfl ?_
      refine Ev.ifnull (tgt := 17) d_FC_take_10 rfl (fun hb10 => by exfalso; first | omega | simp at hb10 | contradiction) (fun hb10 => ?_)
      refine Ev.iload_n d_FC_take_13 rfl ?_
      refine Ev.if_ge (tgt := 19) d_FC_take_14 rfl (by first | omega | (simp [mu]; done) | (simp [mu]; omega)) (fun hb14 => by exfalso; first | omega | simp at hb14 | contradiction) (fun hb14 => ?_)
      refine Ev.iconst d_FC_take_17 ?_
      exact Ev.to (Ev.ireturn d_FC_take_18 rfl) rfl rfl
  · rw [if_neg (fun h => hc h.1), if_neg (fun h => hc h.1)]
    refine ⟨σ, m, ?_, hW, hA, hS, fun b j _ _ _ _ => rfl⟩
    show Ev 91 m_FC_take 0 [some (vr 3), some (vi d), some (vi n), some (vi i), none] [] σ m _ σ m
    refine Ev.aload_n d_FC_take_0 rfl ?_
    refine Ev.iload_n d_FC_take_1 rfl ?_
    refine Ev.iload_n d_FC_take_2 rfl ?_
    refine Ev.callV d_FC_take_3 mt_FC_catalogueOf lk_FC_164 in_FC_catalogueOf se_FC_catalogueOf rfl (Nat.le_of_ble_eq_true rfl) rfl (Nat.le_of_ble_eq_true rfl) (by decide) (fi_3 hF) (by decide) rfl rfl (c_catNo hF h1 h2 hc) ?_
    refine Ev.astore_4 d_FC_take_6 rfl ?_
    refine Ev.aload d_FC_take_8 rfl ?_
    refine Ev.ifnull (tgt := 17) d_FC_take_10 rfl (fun hb10 => ?_) (fun hb10 => by exfalso; first | omega | simp at hb10 | contradiction)
    refine Ev.iconst d_FC_take_17 ?_
    exact Ev.to (Ev.ireturn d_FC_take_18 rfl) rfl rfl
def plOk (d : Int) (l : List Int) : Bool := decide (hmB d (d * (d - 1) / 2 - (l.length : Int)) (pk l) (RL d) 0 = plL d l (RL d) 0)
theorem pl_ok {d : Int} (hd : 1 ≤ d ∧ d ≤ 4) {l : List Int} (hl : l ∈ RL d) : hmB d (d * (d - 1) / 2 - (l.length : Int)) (pk l) (RL d) 0 = plL d l (RL d) 0 :=
  of_decide_eq_true (List.all_eq_true.mp (dcase (p := fun d => (RL d).all (plOk d) = true) hd (by decide +kernel) (by decide +kernel) (by decide +kernel) (by decide +kernel)) l hl)
theorem c_FC_place {L : Int} (hW : Wd L σ) (hR : SR σ m) (hA : CatAll σ m) {S : PS} (hS : CS m S) {p : Int} (h1 : -2147483648 ≤ p ∧ p ≤ 2147483647) : ∃ σ' m', Call 91 m_FC_place [vr 3, vi p] σ m (some (vi (sp_place S p))) σ' m' ∧ Wd L σ' ∧ CatAll σ' m' ∧ (∀ b j : Int, b < 88 → m' b j = m b j) := by
  have hF := hW.1
  have hS2 := hS.2.1
  unfold sp_place
  by_cases hp : 0 ≤ p ∧ p < S.1
  · rw [if_pos hp]
    obtain ⟨hPM, hK⟩ := hS.2.2 p hp.1 hp.2
    have hpa := (pic_at hF (p := p) (by omega)).1
    have hd := hK.1
    have h6 := hK.2.1
    have ci := c_Pic_isRight hpa hPM hK
    by_cases hr : right (S.2.1 p) (S.2.2 p) = true
    · rw [if_pos hr]
      have hr' : rgt (S.2.2 p) (S.2.1 p).toNat 0 = true := hr
      have hl := RL_all hK hr
      have hkn := RL_kn hd hl
      have hpk := pk_ok hd hl
      obtain ⟨σ', m', c, q1, q2, q3, ⟨h88, hC, hM⟩, q5⟩ := c_catOf hW hR hA hd (n := S.2.1 p * (S.2.1 p - 1) / 2 - ((S.2.2 p).length : Int)) hkn
      have hF2 := q2.1
      have hpa2 := (pic_at hF2 (p := p) (by omega)).1
      have hPM2 : PicM m' (25 + 3 * p) (S.2.1 p) (S.2.2 p) := PicM_fr hPM (fun b j x y => q5 b j (by omega))
      have cb := c_Cat_before hC hM hd (RL_61 hd) (fun l h => ⟨(RL_ok hd l h).1.2.1, by have := (pk_ok hd h).1; omega⟩) hkn (row := pk (S.2.2 p)) (by omega)
      rw [pl_ok hd hl] at cb
      refine ⟨σ', m', ?_, q2, q3, q5⟩
      show Ev 91 m_FC_place 0 [some (vr 3), some (vi p), none, none] [] σ m _ σ' m'
      refine Ev.aload_n d_FC_place_0 rfl ?_
      refine Ev.iload_n d_FC_place_1 rfl ?_
      refine Ev.callV d_FC_place_2 mt_FC_pictureAt lk_FC_77 in_FC_pictureAt se_FC_pictureAt rfl (Nat.le_of_ble_eq_true rfl) rfl (Nat.le_of_ble_eq_true rfl) (by decide) (fi_3 hF) (by decide) rfl rfl (c_pAt hF hS hp) ?_
      refine Ev.astore_2 d_FC_place_5 rfl ?_
      refine Ev.aload_n d_FC_place_6 rfl ?_
      refine Ev.ifnonnull (tgt := 12) d_FC_place_7 rfl (fun hb7 => ?_) (fun hb7 => by exfalso; first | omega | simp at hb7 | contradiction)
      refine Ev.aload_n d_FC_place_12 rfl ?_
      refine Ev.callV d_FC_place_13 mt_Pic_isRight lk_FC_105 in_Pic_isRight se_Pic_isRight rfl (Nat.le_of_ble_eq_true rfl) rfl (Nat.le_of_ble_eq_true rfl) (by decide) (by first | exact hpa.2.1 | exact hpa2.2.1) (by decide) rfl rfl ci ?_
      refine Ev.if_ne (tgt := 22) d_FC_place_16 rfl b01_b (fun hb16 => ?_) (fun hb16 => by exfalso; (first | rw [b01_ne] at hb16 | rw [b01_eq] at hb16); exact absurd hr' hb16)
      rw [b01_ne] at hb16
      refine Ev.aload_n d_FC_place_22 rfl ?_
      refine Ev.aload_n d_FC_place_23 rfl ?_
      refine Ev.callV d_FC_place_24 mt_Pic_degree lk_FC_102 in_Pic_degree se_Pic_degree rfl (Nat.le_of_ble_eq_true rfl) rfl (Nat.le_of_ble_eq_true rfl) (by decide) (by first | exact hpa.2.1 | exact hpa2.2.1) (by decide) rfl rfl (c_Pic_degree hpa hPM) ?_
      refine Ev.aload_n d_FC_place_27 rfl ?_
      refine Ev.callV d_FC_place_28 mt_Pic_knots lk_FC_109 in_Pic_knots se_Pic_knots rfl (Nat.le_of_ble_eq_true rfl) rfl (Nat.le_of_ble_eq_true rfl) (by decide) (by first | exact hpa.2.1 | exact hpa2.2.1) (by decide) rfl rfl (c_Pic_knots hpa hPM hK) ?_
      refine Ev.callV d_FC_place_31 mt_FC_catalogueOf lk_FC_164 in_FC_catalogueOf se_FC_catalogueOf rfl (Nat.le_of_ble_eq_true rfl) rfl (Nat.le_of_ble_eq_true rfl) (by decide) (fi_3 hF) (by decide) rfl rfl q1 ?_
      refine Ev.astore_3 d_FC_place_34 rfl ?_
      refine Ev.aload_n d_FC_place_35 rfl ?_
      refine Ev.ifnonnull (tgt := 44) d_FC_place_36 rfl (fun hb36 => ?_) (fun hb36 => by exfalso; first | omega | simp at hb36 | contradiction)
      refine Ev.aload_n d_FC_place_44 rfl ?_
      refine Ev.aload_n d_FC_place_45 rfl ?_
      refine Ev.callV d_FC_place_46 mt_Pic_knots lk_FC_109 in_Pic_knots se_Pic_knots rfl (Nat.le_of_ble_eq_true rfl) rfl (Nat.le_of_ble_eq_true rfl) (by decide) (by first | exact hpa.2.1 | exact hpa2.2.1) (by decide) rfl rfl (c_Pic_knots hpa2 hPM2 hK) ?_
      refine Ev.aload_n d_FC_place_49 rfl ?_
      refine Ev.callV d_FC_place_50 mt_Pic_pack lk_FC_188 in_Pic_pack se_Pic_pack rfl (Nat.le_of_ble_eq_true rfl) rfl (Nat.le_of_ble_eq_true rfl) (by decide) (by first | exact hpa.2.1 | exact hpa2.2.1) (by decide) rfl rfl (c_Pic_pack hpa2 hPM2 hK) ?_
      refine Ev.callV d_FC_place_53 mt_Cat_howManyBefore lk_FC_192 in_Cat_howManyBefore se_Cat_howManyBefore rfl (Nat.le_of_ble_eq_true rfl) rfl (Nat.le_of_ble_eq_true rfl) (by decide) hC.1.2 (by decide) rfl rfl cb ?_
      exact Ev.to (Ev.ireturn d_FC_place_56 rfl) rfl rfl
    · rw [if_neg hr]
      have hr' : ¬ rgt (S.2.2 p) (S.2.1 p).toNat 0 = true := hr
      refine ⟨σ, m, ?_, hW, hA, fun _ _ _ => rfl⟩
      show Ev 91 m_FC_place 0 [some (vr 3), some (vi p), none, none] [] σ m _ σ m
      refine Ev.aload_n d_FC_place_0 rfl ?_
      refine Ev.iload_n d_FC_place_1 rfl ?_
      refine Ev.callV d_FC_place_2 mt_FC_pictureAt lk_FC_77 in_FC_pictureAt se_FC_pictureAt rfl (Nat.le_of_ble_eq_true rfl) rfl (Nat.le_of_ble_eq_true rfl) (by decide) (fi_3 hF) (by decide) rfl rfl (c_pAt hF hS hp) ?_
      refine Ev.astore_2 d_FC_place_5 rfl ?_
      refine Ev.aload_n d_FC_place_6 rfl ?_
      refine Ev.ifnonnull (tgt := 12) d_FC_place_7 rfl (fun hb7 => ?_) (fun hb7 => by exfalso; first | omega | simp at hb7 | contradiction)
      refine Ev.aload_n d_FC_place_12 rfl ?_
      refine Ev.callV d_FC_place_13 mt_Pic_isRight lk_FC_105 in_Pic_isRight se_Pic_isRight rfl (Nat.le_of_ble_eq_true rfl) rfl (Nat.le_of_ble_eq_true rfl) (by decide) hpa.2.1 (by decide) rfl rfl ci ?_
      refine Ev.if_ne (tgt := 22) d_FC_place_16 rfl b01_b (fun hb16 => by exfalso; (first | rw [b01_ne] at hb16 | rw [b01_eq] at hb16); exact absurd hb16 hr') (fun hb16 => ?_)
      rw [b01_eq] at hb16
      refine Ev.bipush d_FC_place_19 rfl ?_
      exact Ev.to (Ev.ireturn d_FC_place_21 rfl) rfl rfl
  · rw [if_neg hp]
    refine ⟨σ, m, ?_, hW, hA, fun _ _ _ => rfl⟩
    show Ev 91 m_FC_place 0 [some (vr 3), some (vi p), none, none] [] σ m _ σ m
    refine Ev.aload_n d_FC_place_0 rfl ?_
    refine Ev.iload_n d_FC_place_1 rfl ?_
    refine Ev.callV d_FC_place_2 mt_FC_pictureAt lk_FC_77 in_FC_pictureAt se_FC_pictureAt rfl (Nat.le_of_ble_eq_true rfl) rfl (Nat.le_of_ble_eq_true rfl) (by decide) (fi_3 hF) (by decide) rfl rfl (c_pNo hF hS h1 hp) ?_
    refine Ev.astore_2 d_FC_place_5 rfl ?_
    refine Ev.aload_n d_FC_place_6 rfl ?_
    refine Ev.ifnonnull (tgt := 12) d_FC_place_7 rfl (fun hb7 => by exfalso; first | omega | simp at hb7 | contradiction) (fun hb7 => ?_)
    refine Ev.iconst d_FC_place_10 ?_
    exact Ev.to (Ev.ireturn d_FC_place_11 rfl) rfl rfl
end
