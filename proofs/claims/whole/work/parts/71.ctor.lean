/-! constructors -/
theorem Is_su {σ : Sg} {a b i x n : Int} {t : Nat} (h : Is σ a t n) : Is (su σ b i x) a t n := h
theorem Is_sn {σ : Sg} {a n n2 s : Int} {t t2 : Nat} (h : Is σ a t n) : Is (sn σ t2 n2 s) a t n := ⟨h.1, by have := h.2.1; show a < σ.1 + 1; omega, by show (if a = σ.1 then t2 else σ.2.2.1 a) = t; rw [if_neg (by have := h.2.1; omega)]; exact h.2.2.1, by show (if a = σ.1 then n2 else σ.2.2.2.1 a) = n; rw [if_neg (by have := h.2.1; omega)]; exact h.2.2.2⟩
theorem Ex2 {A B P : Sg → Mm → Prop} (h : ∀ s m, A s m → B s m) (k : ∃ s m, A s m ∧ P s m) : ∃ s m, B s m ∧ P s m := by
  obtain ⟨s, m, a, p⟩ := k
  exact ⟨s, m, h s m a, p⟩
/-- a picture growing from cell c on; below k all stays -/
def Gd (k c : Int) (σ0 : Sg) (T : List (Int × Nat × Int)) (R : List (Int × Int × Int)) (N C : Int) (σ : Sg) : Prop := σ.1 = c + N ∧ σ.2.1 = C ∧ (∀ q ∈ T, Is σ (c + q.1) q.2.1 q.2.2) ∧ (∀ q ∈ R, σ.2.2.2.2 (c + q.1) q.2.1 = c + q.2.2) ∧ (∀ b, b < k → σ.2.2.1 b = σ0.2.2.1 b ∧ σ.2.2.2.1 b = σ0.2.2.2.1 b ∧ ∀ i, σ.2.2.2.2 b i = σ0.2.2.2.2 b i)
section
variable {σ σ0 : Sg} {m : Mm} {k c N C : Int} {T : List (Int × Nat × Int)} {R : List (Int × Int × Int)}
theorem Gd.is (h : Gd k c σ0 T R N C σ) {q : Int × Nat × Int} (hq : q ∈ T) : Is σ (c + q.1) q.2.1 q.2.2 := h.2.2.1 q hq
theorem Gd.rf (h : Gd k c σ0 T R N C σ) {q : Int × Int × Int} (hq : q ∈ R) : σ.2.2.2.2 (c + q.1) q.2.1 = c + q.2.2 := h.2.2.2.1 q hq
theorem Gd.sn {t : Nat} {n s N' : Int} (h : Gd k c σ0 T R N C σ) (h0 : 0 ≤ c + N) (hk : k ≤ c + N) (hR : R.all (fun q => decide (q.1 < N)) = true) (hN : N + 1 = N') : Gd k c σ0 ((N, t, n) :: T) R N' (C + s) (sn σ t n s) := by
  obtain ⟨h1, h2, h3, h4, h5⟩ := h
  refine ⟨by show σ.1 + 1 = _; omega, by show σ.2.1 + s = _; rw [h2], fun q hq => ?_, fun q hq => ?_, fun b hb => ⟨?_, ?_, fun i => ?_⟩⟩
  · rcases List.mem_cons.mp hq with rfl | hq
    · refine ⟨h0, ?_, ?_, ?_⟩
      · show c + N < σ.1 + 1; omega
      · show (if c + N = σ.1 then t else _) = t; rw [if_pos h1.symm]
      · show (if c + N = σ.1 then n else _) = n; rw [if_pos h1.symm]
    · exact Is_sn (h3 q hq)
  · have := of_decide_eq_true (List.all_eq_true.mp hR q hq)
    show (if c + q.1 = σ.1 then (-1 : Int) else _) = _
    rw [if_neg (by omega)]; exact h4 q hq
  · show (if b = σ.1 then t else _) = _; rw [if_neg (by omega)]; exact (h5 b hb).1
  · show (if b = σ.1 then n else _) = _; rw [if_neg (by omega)]; exact (h5 b hb).2.1
  · show (if b = σ.1 then (-1 : Int) else _) = _; rw [if_neg (by omega)]; exact (h5 b hb).2.2 i
theorem Gd.su {a i x : Int} (h : Gd k c σ0 T R N C σ) (hk : k ≤ c + a) (hR : R.all (fun q => decide (¬ (q.1 = a ∧ q.2.1 = i))) = true) : Gd k c σ0 T ((a, i, x) :: R) N C (su σ (c + a) i (c + x)) := by
  obtain ⟨h1, h2, h3, h4, h5⟩ := h
  refine ⟨h1, h2, fun q hq => Is_su (h3 q hq), fun q hq => ?_, fun b hb => ⟨(h5 b hb).1, (h5 b hb).2.1, fun j => ?_⟩⟩
  · show mu σ.2.2.2.2 (c + a) i (c + x) (c + q.1) q.2.1 = _
    rcases List.mem_cons.mp hq with rfl | hq
    · exact mu_s
    · have := of_decide_eq_true (List.all_eq_true.mp hR q hq)
      rw [mu_n (by omega)]; exact h4 q hq
  · show mu σ.2.2.2.2 (c + a) i (c + x) b j = _
    rw [mu_a (by omega)]; exact (h5 b hb).2.2 j
theorem neg_new {t : Nat} {n s a : Int} (h : σ.1 = a) : ∀ i, (sn σ t n s).2.2.2.2 a i = -1 := fun i => by
  show (if a = σ.1 then (-1 : Int) else _) = -1
  rw [if_pos h.symm]
theorem neg_sn {t : Nat} {n s a : Int} (h : ∀ i, σ.2.2.2.2 a i = -1) (ha : a ≠ σ.1) : ∀ i, (sn σ t n s).2.2.2.2 a i = -1 := fun i => by
  show (if a = σ.1 then (-1 : Int) else _) = -1
  rw [if_neg ha]; exact h i
theorem neg_su {a i x b : Int} (h : ∀ j, σ.2.2.2.2 b j = -1) (ha : b ≠ a) : ∀ j, (su σ a i x).2.2.2.2 b j = -1 := fun j => by
  show mu σ.2.2.2.2 a i x b j = -1
  rw [mu_a ha]; exact h j
def zf : Mm := fun _ _ => 0
def MZ (lo hi : Int) (m0 E m : Mm) : Prop := (∀ b j, b < lo → m b j = m0 b j) ∧ (∀ b j, lo ≤ b → b < hi → m b j = E b j)
theorem MZ.mz {lo hi hi' a : Int} {m0 E : Mm} (h : MZ lo hi m0 E m) (ha : a = hi) (hE : ∀ j, E a j = 0) (hlo : lo ≤ a) (h' : hi + 1 = hi') : MZ lo hi' m0 E (mz m a) := ⟨fun b j x => by
  show (if b = a then 0 else m b j) = _
  rw [if_neg (by omega)]; exact h.1 b j x, fun b j x y => by
  show (if b = a then 0 else m b j) = _
  by_cases e : b = a
  · rw [if_pos e, e, hE j]
  · rw [if_neg e]; exact h.2 b j x (by omega)⟩
theorem MZ.mu {lo hi a i x : Int} {m0 E : Mm} (h : MZ lo hi m0 E m) (ha : lo ≤ a) : MZ lo hi m0 (mu E a i x) (mu m a i x) := ⟨fun b j y => by rw [mu_a (by omega)]; exact h.1 b j y, fun b j y z => by
  by_cases e : b = a ∧ j = i
  · rw [e.1, e.2, mu_s, mu_s]
  · rw [mu_n (by omega), mu_n (by omega)]; exact h.2 b j y z⟩
theorem c_Pic_init {a x1 x2 : Int} (hI : Is σ a 2 0) (h1 : σ.1 = x1) (h2 : x1 + 1 = x2) : Call 1 m_Pic_init [vr a] σ m none (su (sn (su (sn σ 100 24 24) a 2 x1) 100 4 4) a 3 x2) (mz (mz (mu m a 0 1) x1) x2) := by
  show Ev 1 m_Pic_init 0 [some (vr a)] [] σ m _ _ _
  refine Ev.aload_n d_Pic_init_0 rfl ?_
  refine Ev.objInit d_Pic_init_1 lk_Pic_3 in_obj cd_obj hI.1 rfl (Nat.le_of_ble_eq_true rfl) (by decide) ?_
  refine Ev.aload_n d_Pic_init_4 rfl ?_
  refine Ev.iconst d_Pic_init_5 ?_
  refine Ev.pf 0 d_Pic_init_6 lf_Pic_9 rfl rfl rfl rfl (by repeat (first | exact hI | apply Is_su | apply Is_sn)) (by decide) ?_
  refine Ev.aload_n d_Pic_init_9 rfl ?_
  refine Ev.bipush d_Pic_init_10 rfl ?_
  refine Ev.newarray (t := 100) d_Pic_init_12 rfl rfl (by decide) ac_100 (by decide) (by decide) ?_
  rw [h1]
  refine Ev.pr 2 d_Pic_init_14 lf_Pic_15 rfl rfl rfl rfl (by repeat (first | exact hI | apply Is_su | apply Is_sn)) (by decide) ?_
  refine Ev.aload_n d_Pic_init_17 rfl ?_
  refine Ev.iconst d_Pic_init_18 ?_
  refine Ev.newarray (t := 100) d_Pic_init_19 rfl rfl (by decide) ac_100 (by decide) (by decide) ?_
  rw [show (su (sn (σ) 100 24 24) a 2 x1).1 = x2 from by show _ = _; simp only [sn, su]; omega]
  refine Ev.pr 3 d_Pic_init_21 lf_Pic_19 rfl rfl rfl rfl (by repeat (first | exact hI | apply Is_su | apply Is_sn)) (by decide) ?_
  exact Ev.to (Ev.return d_Pic_init_24 rfl) rfl rfl
theorem c_Mk_init {a x1 x2 x3 x4 : Int} (hI : Is σ a 1 0) (h1 : σ.1 = x1) (h2 : x1 + 1 = x2) (h3 : x2 + 1 = x3) (h4 : x3 + 1 = x4) : Call 1 m_Mk_init [vr a] σ m none (su (sn (su (sn (su (sn (su (sn σ 100 10 10) a 0 x1) 100 10 10) a 1 x2) 100 10 10) a 2 x3) 100 4 4) a 3 x4) (mz (mz (mz (mz m x1) x2) x3) x4) := by
  show Ev 1 m_Mk_init 0 [some (vr a)] [] σ m _ _ _
  refine Ev.aload_n d_Mk_init_0 rfl ?_
  refine Ev.objInit d_Mk_init_1 lk_Mk_3 in_obj cd_obj hI.1 rfl (Nat.le_of_ble_eq_true rfl) (by decide) ?_
  refine Ev.aload_n d_Mk_init_4 rfl ?_
  refine Ev.bipush d_Mk_init_5 rfl ?_
  refine Ev.newarray (t := 100) d_Mk_init_7 rfl rfl (by decide) ac_100 (by decide) (by decide) ?_
  rw [h1]
  refine Ev.pr 0 d_Mk_init_9 lf_Mk_11 rfl rfl rfl rfl (by repeat (first | exact hI | apply Is_su | apply Is_sn)) (by decide) ?_
  refine Ev.aload_n d_Mk_init_12 rfl ?_
  refine Ev.bipush d_Mk_init_13 rfl ?_
  refine Ev.newarray (t := 100) d_Mk_init_15 rfl rfl (by decide) ac_100 (by decide) (by decide) ?_
  rw [show (su (sn (σ) 100 10 10) a 0 x1).1 = x2 from by show _ = _; simp only [sn, su]; omega]
  refine Ev.pr 1 d_Mk_init_17 lf_Mk_15 rfl rfl rfl rfl (by repeat (first | exact hI | apply Is_su | apply Is_sn)) (by decide) ?_
  refine Ev.aload_n d_Mk_init_20 rfl ?_
  refine Ev.bipush d_Mk_init_21 rfl ?_
  refine Ev.newarray (t := 100) d_Mk_init_23 rfl rfl (by decide) ac_100 (by decide) (by decide) ?_
  rw [show (su (sn (su (sn (σ) 100 10 10) a 0 x1) 100 10 10) a 1 x2).1 = x3 from by show _ = _; simp only [sn, su]; omega]
  refine Ev.pr 2 d_Mk_init_25 lf_Mk_18 rfl rfl rfl rfl (by repeat (first | exact hI | apply Is_su | apply Is_sn)) (by decide) ?_
  refine Ev.aload_n d_Mk_init_28 rfl ?_
  refine Ev.iconst d_Mk_init_29 ?_
  refine Ev.newarray (t := 100) d_Mk_init_30 rfl rfl (by decide) ac_100 (by decide) (by decide) ?_
  rw [show (su (sn (su (sn (su (sn (σ) 100 10 10) a 0 x1) 100 10 10) a 1 x2) 100 10 10) a 2 x3).1 = x4 from by show _ = _; simp only [sn, su]; omega]
  refine Ev.pr 3 d_Mk_init_32 lf_Mk_21 rfl rfl rfl rfl (by repeat (first | exact hI | apply Is_su | apply Is_sn)) (by decide) ?_
  exact Ev.to (Ev.return d_Mk_init_35 rfl) rfl rfl
theorem c_Pow_init {a x1 x2 : Int} (hI : Is σ a 3 0) (h1 : σ.1 = x1) (h2 : x1 + 1 = x2) : Call 1 m_Pow_init [vr a] σ m none (su (sn (su (sn σ 101 37 37) a 0 x1) 101 37 37) a 1 x2) (mz (mz m x1) x2) := by
  show Ev 1 m_Pow_init 0 [some (vr a)] [] σ m _ _ _
  refine Ev.aload_n d_Pow_init_0 rfl ?_
  refine Ev.objInit d_Pow_init_1 lk_Pow_5 in_obj cd_obj hI.1 rfl (Nat.le_of_ble_eq_true rfl) (by decide) ?_
  refine Ev.aload_n d_Pow_init_4 rfl ?_
  refine Ev.bipush d_Pow_init_5 rfl ?_
  refine Ev.newarray (t := 101) d_Pow_init_7 rfl rfl (by decide) ac_101 (by decide) (by decide) ?_
  rw [h1]
  refine Ev.pr 0 d_Pow_init_9 lf_Pow_11 rfl rfl rfl rfl (by repeat (first | exact hI | apply Is_su | apply Is_sn)) (by decide) ?_
  refine Ev.aload_n d_Pow_init_12 rfl ?_
  refine Ev.bipush d_Pow_init_13 rfl ?_
  refine Ev.newarray (t := 101) d_Pow_init_15 rfl rfl (by decide) ac_101 (by decide) (by decide) ?_
  rw [show (su (sn (σ) 101 37 37) a 0 x1).1 = x2 from by show _ = _; simp only [sn, su]; omega]
  refine Ev.pr 1 d_Pow_init_17 lf_Pow_15 rfl rfl rfl rfl (by repeat (first | exact hI | apply Is_su | apply Is_sn)) (by decide) ?_
  exact Ev.to (Ev.return d_Pow_init_20 rfl) rfl rfl
theorem c_Sh_init {a x1 : Int} (hI : Is σ a 4 0) (h1 : σ.1 = x1) : Call 1 m_Sh_init [vr a] σ m none (su (sn σ 100 60 60) a 0 x1) (mu (mz m x1) a 1 (-1)) := by
  show Ev 1 m_Sh_init 0 [some (vr a)] [] σ m _ _ _
  refine Ev.aload_n d_Sh_init_0 rfl ?_
  refine Ev.objInit d_Sh_init_1 lk_Sh_1 in_obj cd_obj hI.1 rfl (Nat.le_of_ble_eq_true rfl) (by decide) ?_
  refine Ev.aload_n d_Sh_init_4 rfl ?_
  refine Ev.bipush d_Sh_init_5 rfl ?_
  refine Ev.newarray (t := 100) d_Sh_init_7 rfl rfl (by decide) ac_100 (by decide) (by decide) ?_
  rw [h1]
  refine Ev.pr 0 d_Sh_init_9 lf_Sh_9 rfl rfl rfl rfl (by repeat (first | exact hI | apply Is_su | apply Is_sn)) (by decide) ?_
  refine Ev.aload_n d_Sh_init_12 rfl ?_
  refine Ev.iconst d_Sh_init_13 ?_
  refine Ev.pf 1 d_Sh_init_14 lf_Sh_13 rfl rfl rfl rfl (by repeat (first | exact hI | apply Is_su | apply Is_sn)) (by decide) ?_
  exact Ev.to (Ev.return d_Sh_init_17 rfl) rfl rfl
theorem c_Tp_init {a x1 : Int} (hI : Is σ a 6 0) (h1 : σ.1 = x1) : Call 1 m_Tp_init [vr a] σ m none (su (sn σ 102 80 80) a 0 x1) (mu (mz m x1) a 2 0) := by
  show Ev 1 m_Tp_init 0 [some (vr a)] [] σ m _ _ _
  refine Ev.aload_n d_Tp_init_0 rfl ?_
  refine Ev.objInit d_Tp_init_1 lk_Tp_3 in_obj cd_obj hI.1 rfl (Nat.le_of_ble_eq_true rfl) (by decide) ?_
  refine Ev.aload_n d_Tp_init_4 rfl ?_
  refine Ev.bipush d_Tp_init_5 rfl ?_
  refine Ev.newarray (t := 102) d_Tp_init_7 rfl rfl (by decide) ac_102 (by decide) (by decide) ?_
  rw [h1]
  refine Ev.pr 0 d_Tp_init_9 lf_Tp_11 rfl rfl rfl rfl (by repeat (first | exact hI | apply Is_su | apply Is_sn)) (by decide) ?_
  refine Ev.aload_n d_Tp_init_12 rfl ?_
  refine Ev.iconst d_Tp_init_13 ?_
  refine Ev.pf 2 d_Tp_init_14 lf_Tp_17 rfl rfl rfl rfl (by repeat (first | exact hI | apply Is_su | apply Is_sn)) (by decide) ?_
  exact Ev.to (Ev.return d_Tp_init_17 rfl) rfl rfl
theorem c_Tg_init {a x1 x2 x3 : Int} (hI : Is σ a 5 0) (h1 : σ.1 = x1) (h2 : x1 + 1 = x2) (h3 : x2 + 1 = x3) : Call 1 m_Tg_init [vr a] σ m none (su (sn (su (sn (su (sn σ 100 73 73) a 0 x1) 101 803 803) a 1 x2) 100 7 7) a 2 x3) (mz (mz (mz m x1) x2) x3) := by
  show Ev 1 m_Tg_init 0 [some (vr a)] [] σ m _ _ _
  refine Ev.aload_n d_Tg_init_0 rfl ?_
  refine Ev.objInit d_Tg_init_1 lk_Tg_3 in_obj cd_obj hI.1 rfl (Nat.le_of_ble_eq_true rfl) (by decide) ?_
  refine Ev.aload_n d_Tg_init_4 rfl ?_
  refine Ev.bipush d_Tg_init_5 rfl ?_
  refine Ev.newarray (t := 100) d_Tg_init_7 rfl rfl (by decide) ac_100 (by decide) (by decide) ?_
  rw [h1]
  refine Ev.pr 0 d_Tg_init_9 lf_Tg_11 rfl rfl rfl rfl (by repeat (first | exact hI | apply Is_su | apply Is_sn)) (by decide) ?_
  refine Ev.aload_n d_Tg_init_12 rfl ?_
  refine Ev.sipush d_Tg_init_13 rfl ?_
  refine Ev.newarray (t := 101) d_Tg_init_16 rfl rfl (by decide) ac_101 (by decide) (by decide) ?_
  rw [show (su (sn (σ) 100 73 73) a 0 x1).1 = x2 from by show _ = _; simp only [sn, su]; omega]
  refine Ev.pr 1 d_Tg_init_18 lf_Tg_15 rfl rfl rfl rfl (by repeat (first | exact hI | apply Is_su | apply Is_sn)) (by decide) ?_
  refine Ev.aload_n d_Tg_init_21 rfl ?_
  refine Ev.bipush d_Tg_init_22 rfl ?_
  refine Ev.newarray (t := 100) d_Tg_init_24 rfl rfl (by decide) ac_100 (by decide) (by decide) ?_
  rw [show (su (sn (su (sn (σ) 100 73 73) a 0 x1) 101 803 803) a 1 x2).1 = x3 from by show _ = _; simp only [sn, su]; omega]
  refine Ev.pr 2 d_Tg_init_26 lf_Tg_19 rfl rfl rfl rfl (by repeat (first | exact hI | apply Is_su | apply Is_sn)) (by decide) ?_
  exact Ev.to (Ev.return d_Tg_init_29 rfl) rfl rfl
theorem c_FC_init {σ0 : Sg} {m0 : Mm} (hc : 0 ≤ c) (g : Gd (c + 3) c σ0 [(3, 7, 0)] [] 4 C σ) (z : MZ (c + 3) (c + 4) m0 zf m) : ∃ σ' m', Call 2 m_FC_init [vr (c + 3)] σ m none σ' m' ∧ (∃ C', Gd (c + 3) c σ0 [(56, 100, 60), (55, 4, 0), (54, 100, 60), (53, 4, 0), (52, 100, 60), (51, 4, 0), (50, 100, 60), (49, 4, 0), (48, 100, 4), (47, 100, 24), (46, 2, 0), (45, 100, 4), (44, 100, 24), (43, 2, 0), (42, 100, 4), (41, 100, 24), (40, 2, 0), (39, 100, 4), (38, 100, 24), (37, 2, 0), (36, 100, 4), (35, 100, 24), (34, 2, 0), (33, 100, 4), (32, 100, 24), (31, 2, 0), (30, 100, 4), (29, 100, 24), (28, 2, 0), (27, 100, 4), (26, 100, 24), (25, 2, 0), (24, 204, 4), (23, 101, 8), (22, 100, 7), (21, 101, 803), (20, 100, 73), (19, 5, 0), (18, 102, 80), (17, 6, 0), (16, 200, 5), (15, 101, 37), (14, 101, 37), (13, 3, 0), (12, 100, 4), (11, 100, 10), (10, 100, 10), (9, 100, 10), (8, 1, 0), (7, 100, 4), (6, 100, 24), (5, 2, 0), (4, 202, 8), (3, 7, 0)] [(24, 3, 55), (55, 0, 56), (24, 2, 53), (53, 0, 54), (24, 1, 51), (51, 0, 52), (24, 0, 49), (49, 0, 50), (4, 7, 46), (46, 3, 48), (46, 2, 47), (4, 6, 43), (43, 3, 45), (43, 2, 44), (4, 5, 40), (40, 3, 42), (40, 2, 41), (4, 4, 37), (37, 3, 39), (37, 2, 38), (4, 3, 34), (34, 3, 36), (34, 2, 35), (4, 2, 31), (31, 3, 33), (31, 2, 32), (4, 1, 28), (28, 3, 30), (28, 2, 29), (4, 0, 25), (25, 3, 27), (25, 2, 26), (3, 8, 24), (3, 7, 23), (3, 6, 19), (19, 2, 22), (19, 1, 21), (19, 0, 20), (3, 5, 17), (17, 0, 18), (3, 4, 16), (3, 3, 13), (13, 1, 15), (13, 0, 14), (3, 2, 8), (8, 3, 12), (8, 2, 11), (8, 1, 10), (8, 0, 9), (3, 1, 5), (5, 3, 7), (5, 2, 6), (3, 0, 4)] 57 C' σ' ∧ C' ≤ C + 5000) ∧ MZ (c + 3) (c + 57) m0 (mu (mu (mu (mu (mu (mu (mu (mu (mu (mu (mu (mu (mu (mu zf (c + 5) 0 1) (c + 17) 2 0) (c + 25) 0 1) (c + 28) 0 1) (c + 31) 0 1) (c + 34) 0 1) (c + 37) 0 1) (c + 40) 0 1) (c + 43) 0 1) (c + 46) 0 1) (c + 49) 1 (-1)) (c + 51) 1 (-1)) (c + 53) 1 (-1)) (c + 55) 1 (-1)) m' ∧ ∀ i, σ'.2.2.2.2 (c + 16) i = -1 := by
  show ∃ σ' m', Ev 2 m_FC_init 0 [some (vr (c + 3)), none] [] σ m none σ' m' ∧ _
  refine Ex2 (fun _ _ e => Ev.aload_n d_FC_init_0 rfl e) ?_
  refine Ex2 (fun _ _ e => Ev.objInit d_FC_init_1 lk_FC_3 in_obj cd_obj (by omega) rfl (Nat.le_of_ble_eq_true rfl) (by decide) e) ?_
  refine Ex2 (fun _ _ e => Ev.aload_n d_FC_init_4 rfl e) ?_
  refine Ex2 (fun _ _ e => Ev.bipush d_FC_init_5 rfl e) ?_
  refine Ex2 (fun _ _ e => Ev.anewarray (c := 2) d_FC_init_7 rfl lc_FC_9 ao_Pic (by decide) e) ?_
  rw [g.1]
  replace z := MZ.mz (a := c + 4) z rfl (fun j => rfl) (by omega) (show c + 4 + 1 = c + 5 by omega)
  replace g := Gd.sn (t := 200 + 2) (n := 8) (s := 8) g (by omega) (by omega) (by decide) (show (4 : Int) + 1 = 5 from rfl)
  generalize sn σ (200 + 2) 8 8 = σ at g ⊢
  generalize mz m (c + 4) = m at z ⊢
  refine Ex2 (fun _ _ e => Ev.pr 0 d_FC_init_10 lf_FC_11 rfl rfl rfl rfl (g.is (q := (3, 7, 0)) (by decide)) (by decide) e) ?_
  replace g := Gd.su (a := 3) (i := 0) (x := 4) g (by omega) (by decide)
  generalize su σ (c + 3) 0 (c + 4) = σ at g ⊢
  refine Ex2 (fun _ _ e => Ev.aload_n d_FC_init_13 rfl e) ?_
  refine Ex2 (fun _ _ e => Ev.new d_FC_init_14 ln_FC_9 (by decide) e) ?_
  rw [g.1]
  replace z := MZ.mz (a := c + 5) z rfl (fun j => rfl) (by omega) (show c + 5 + 1 = c + 6 by omega)
  replace g := Gd.sn (t := 2) (n := 0) (s := 4) g (by omega) (by omega) (by decide) (show (5 : Int) + 1 = 6 from rfl)
  generalize sn σ 2 0 4 = σ at g ⊢
  generalize mz m (c + 5) = m at z ⊢
  refine Ex2 (fun _ _ e => Ev.dup d_FC_init_17 rfl e) ?_
  refine Ex2 (fun _ _ e => Ev.callINv d_FC_init_18 mt_Pic_init lk_FC_15 in_Pic_init rfl rfl rfl (Nat.le_of_ble_eq_true rfl) rfl (Nat.le_of_ble_eq_true rfl) (by decide) (by omega) rfl (c_Pic_init (a := c + 5) (x1 := c + 6) (x2 := c + 7) (g.is (q := (5, 2, 0)) (by decide)) g.1 (by omega)) e) ?_
  replace z := MZ.mu (a := c + 5) (i := 0) (x := 1) z (by omega)
  replace z := MZ.mz (a := c + 6) z rfl (fun j => by rw [mu_a (by omega)]; rfl) (by omega) (show c + 6 + 1 = c + 7 by omega)
  replace g := Gd.sn (t := 100) (n := 24) (s := 24) g (by omega) (by omega) (by decide) (show (6 : Int) + 1 = 7 from rfl)
  replace g := Gd.su (a := 5) (i := 2) (x := 6) g (by omega) (by decide)
  replace z := MZ.mz (a := c + 7) z rfl (fun j => by rw [mu_a (by omega)]; rfl) (by omega) (show c + 7 + 1 = c + 8 by omega)
  replace g := Gd.sn (t := 100) (n := 4) (s := 4) g (by omega) (by omega) (by decide) (show (7 : Int) + 1 = 8 from rfl)
  replace g := Gd.su (a := 5) (i := 3) (x := 7) g (by omega) (by decide)
  generalize su (sn (su (sn σ 100 24 24) (c + 5) 2 (c + 6)) 100 4 4) (c + 5) 3 (c + 7) = σ at g ⊢
  generalize mz (mz (mu m (c + 5) 0 1) (c + 6)) (c + 7) = m at z ⊢
  refine Ex2 (fun _ _ e => Ev.pr 1 d_FC_init_21 lf_FC_16 rfl rfl rfl rfl (g.is (q := (3, 7, 0)) (by decide)) (by decide) e) ?_
  replace g := Gd.su (a := 3) (i := 1) (x := 5) g (by omega) (by decide)
  generalize su σ (c + 3) 1 (c + 5) = σ at g ⊢
  refine Ex2 (fun _ _ e => Ev.aload_n d_FC_init_24 rfl e) ?_
  refine Ex2 (fun _ _ e => Ev.new d_FC_init_25 ln_FC_20 (by decide) e) ?_
  rw [g.1]
  replace z := MZ.mz (a := c + 8) z rfl (fun j => by rw [mu_a (by omega)]; rfl) (by omega) (show c + 8 + 1 = c + 9 by omega)
  replace g := Gd.sn (t := 1) (n := 0) (s := 7) g (by omega) (by omega) (by decide) (show (8 : Int) + 1 = 9 from rfl)
  generalize sn σ 1 0 7 = σ at g ⊢
  generalize mz m (c + 8) = m at z ⊢
  refine Ex2 (fun _ _ e => Ev.dup d_FC_init_28 rfl e) ?_
  refine Ex2 (fun _ _ e => Ev.callINv d_FC_init_29 mt_Mk_init lk_FC_22 in_Mk_init rfl rfl rfl (Nat.le_of_ble_eq_true rfl) rfl (Nat.le_of_ble_eq_true rfl) (by decide) (by omega) rfl (c_Mk_init (a := c + 8) (x1 := c + 9) (x2 := c + 10) (x3 := c + 11) (x4 := c + 12) (g.is (q := (8, 1, 0)) (by decide)) g.1 (by omega) (by omega) (by omega)) e) ?_
  replace z := MZ.mz (a := c + 9) z rfl (fun j => by rw [mu_a (by omega)]; rfl) (by omega) (show c + 9 + 1 = c + 10 by omega)
  replace g := Gd.sn (t := 100) (n := 10) (s := 10) g (by omega) (by omega) (by decide) (show (9 : Int) + 1 = 10 from rfl)
  replace g := Gd.su (a := 8) (i := 0) (x := 9) g (by omega) (by decide)
  replace z := MZ.mz (a := c + 10) z rfl (fun j => by rw [mu_a (by omega)]; rfl) (by omega) (show c + 10 + 1 = c + 11 by omega)
  replace g := Gd.sn (t := 100) (n := 10) (s := 10) g (by omega) (by omega) (by decide) (show (10 : Int) + 1 = 11 from rfl)
  replace g := Gd.su (a := 8) (i := 1) (x := 10) g (by omega) (by decide)
  replace z := MZ.mz (a := c + 11) z rfl (fun j => by rw [mu_a (by omega)]; rfl) (by omega) (show c + 11 + 1 = c + 12 by omega)
  replace g := Gd.sn (t := 100) (n := 10) (s := 10) g (by omega) (by omega) (by decide) (show (11 : Int) + 1 = 12 from rfl)
  replace g := Gd.su (a := 8) (i := 2) (x := 11) g (by omega) (by decide)
  replace z := MZ.mz (a := c + 12) z rfl (fun j => by rw [mu_a (by omega)]; rfl) (by omega) (show c + 12 + 1 = c + 13 by omega)
  replace g := Gd.sn (t := 100) (n := 4) (s := 4) g (by omega) (by omega) (by decide) (show (12 : Int) + 1 = 13 from rfl)
  replace g := Gd.su (a := 8) (i := 3) (x := 12) g (by omega) (by decide)
  generalize su (sn (su (sn (su (sn (su (sn σ 100 10 10) (c + 8) 0 (c + 9)) 100 10 10) (c + 8) 1 (c + 10)) 100 10 10) (c + 8) 2 (c + 11)) 100 4 4) (c + 8) 3 (c + 12) = σ at g ⊢
  generalize mz (mz (mz (mz m (c + 9)) (c + 10)) (c + 11)) (c + 12) = m at z ⊢
  refine Ex2 (fun _ _ e => Ev.pr 2 d_FC_init_32 lf_FC_23 rfl rfl rfl rfl (g.is (q := (3, 7, 0)) (by decide)) (by decide) e) ?_
  replace g := Gd.su (a := 3) (i := 2) (x := 8) g (by omega) (by decide)
  generalize su σ (c + 3) 2 (c + 8) = σ at g ⊢
  refine Ex2 (fun _ _ e => Ev.aload_n d_FC_init_35 rfl e) ?_
  refine Ex2 (fun _ _ e => Ev.new d_FC_init_36 ln_FC_27 (by decide) e) ?_
  rw [g.1]
  replace z := MZ.mz (a := c + 13) z rfl (fun j => by rw [mu_a (by omega)]; rfl) (by omega) (show c + 13 + 1 = c + 14 by omega)
  replace g := Gd.sn (t := 3) (n := 0) (s := 3) g (by omega) (by omega) (by decide) (show (13 : Int) + 1 = 14 from rfl)
  generalize sn σ 3 0 3 = σ at g ⊢
  generalize mz m (c + 13) = m at z ⊢
  refine Ex2 (fun _ _ e => Ev.dup d_FC_init_39 rfl e) ?_
  refine Ex2 (fun _ _ e => Ev.callINv d_FC_init_40 mt_Pow_init lk_FC_29 in_Pow_init rfl rfl rfl (Nat.le_of_ble_eq_true rfl) rfl (Nat.le_of_ble_eq_true rfl) (by decide) (by omega) rfl (c_Pow_init (a := c + 13) (x1 := c + 14) (x2 := c + 15) (g.is (q := (13, 3, 0)) (by decide)) g.1 (by omega)) e) ?_
  replace z := MZ.mz (a := c + 14) z rfl (fun j => by rw [mu_a (by omega)]; rfl) (by omega) (show c + 14 + 1 = c + 15 by omega)
  replace g := Gd.sn (t := 101) (n := 37) (s := 37) g (by omega) (by omega) (by decide) (show (14 : Int) + 1 = 15 from rfl)
  replace g := Gd.su (a := 13) (i := 0) (x := 14) g (by omega) (by decide)
  replace z := MZ.mz (a := c + 15) z rfl (fun j => by rw [mu_a (by omega)]; rfl) (by omega) (show c + 15 + 1 = c + 16 by omega)
  replace g := Gd.sn (t := 101) (n := 37) (s := 37) g (by omega) (by omega) (by decide) (show (15 : Int) + 1 = 16 from rfl)
  replace g := Gd.su (a := 13) (i := 1) (x := 15) g (by omega) (by decide)
  generalize su (sn (su (sn σ 101 37 37) (c + 13) 0 (c + 14)) 101 37 37) (c + 13) 1 (c + 15) = σ at g ⊢
  generalize mz (mz m (c + 14)) (c + 15) = m at z ⊢
  refine Ex2 (fun _ _ e => Ev.pr 3 d_FC_init_43 lf_FC_30 rfl rfl rfl rfl (g.is (q := (3, 7, 0)) (by decide)) (by decide) e) ?_
  replace g := Gd.su (a := 3) (i := 3) (x := 13) g (by omega) (by decide)
  generalize su σ (c + 3) 3 (c + 13) = σ at g ⊢
  refine Ex2 (fun _ _ e => Ev.aload_n d_FC_init_46 rfl e) ?_
  refine Ex2 (fun _ _ e => Ev.iconst d_FC_init_47 e) ?_
  refine Ex2 (fun _ _ e => Ev.anewarray (c := 0) d_FC_init_48 rfl lc_FC_34 ao_Cat (by decide) e) ?_
  rw [g.1]
  replace z := MZ.mz (a := c + 16) z rfl (fun j => by rw [mu_a (by omega)]; rfl) (by omega) (show c + 16 + 1 = c + 17 by omega)
  have ng := neg_new (σ := σ) (t := 200 + 0) (n := 5) (s := 5) g.1
  replace g := Gd.sn (t := 200 + 0) (n := 5) (s := 5) g (by omega) (by omega) (by decide) (show (16 : Int) + 1 = 17 from rfl)
  generalize sn σ (200 + 0) 5 5 = σ at g ng ⊢
  generalize mz m (c + 16) = m at z ⊢
  refine Ex2 (fun _ _ e => Ev.pr 4 d_FC_init_51 lf_FC_36 rfl rfl rfl rfl (g.is (q := (3, 7, 0)) (by decide)) (by decide) e) ?_
  replace ng := neg_su (a := c + 3) (i := 4) (x := c + 16) ng (by omega)
  replace g := Gd.su (a := 3) (i := 4) (x := 16) g (by omega) (by decide)
  generalize su σ (c + 3) 4 (c + 16) = σ at g ng ⊢
  refine Ex2 (fun _ _ e => Ev.aload_n d_FC_init_54 rfl e) ?_
  refine Ex2 (fun _ _ e => Ev.new d_FC_init_55 ln_FC_40 (by decide) e) ?_
  rw [g.1]
  replace z := MZ.mz (a := c + 17) z rfl (fun j => by rw [mu_a (by omega)]; rfl) (by omega) (show c + 17 + 1 = c + 18 by omega)
  replace ng := neg_sn (t := 6) (n := 0) (s := 4) ng (by rw [g.1]; omega)
  replace g := Gd.sn (t := 6) (n := 0) (s := 4) g (by omega) (by omega) (by decide) (show (17 : Int) + 1 = 18 from rfl)
  generalize sn σ 6 0 4 = σ at g ng ⊢
  generalize mz m (c + 17) = m at z ⊢
  refine Ex2 (fun _ _ e => Ev.dup d_FC_init_58 rfl e) ?_
  refine Ex2 (fun _ _ e => Ev.callINv d_FC_init_59 mt_Tp_init lk_FC_42 in_Tp_init rfl rfl rfl (Nat.le_of_ble_eq_true rfl) rfl (Nat.le_of_ble_eq_true rfl) (by decide) (by omega) rfl (c_Tp_init (a := c + 17) (x1 := c + 18) (g.is (q := (17, 6, 0)) (by decide)) g.1) e) ?_
  replace z := MZ.mz (a := c + 18) z rfl (fun j => by rw [mu_a (by omega)]; rfl) (by omega) (show c + 18 + 1 = c + 19 by omega)
  replace ng := neg_sn (t := 102) (n := 80) (s := 80) ng (by rw [g.1]; omega)
  replace g := Gd.sn (t := 102) (n := 80) (s := 80) g (by omega) (by omega) (by decide) (show (18 : Int) + 1 = 19 from rfl)
  replace ng := neg_su (a := c + 17) (i := 0) (x := c + 18) ng (by omega)
  replace g := Gd.su (a := 17) (i := 0) (x := 18) g (by omega) (by decide)
  replace z := MZ.mu (a := c + 17) (i := 2) (x := 0) z (by omega)
  generalize su (sn σ 102 80 80) (c + 17) 0 (c + 18) = σ at g ng ⊢
  generalize mu (mz m (c + 18)) (c + 17) 2 0 = m at z ⊢
  refine Ex2 (fun _ _ e => Ev.pr 5 d_FC_init_62 lf_FC_43 rfl rfl rfl rfl (g.is (q := (3, 7, 0)) (by decide)) (by decide) e) ?_
  replace ng := neg_su (a := c + 3) (i := 5) (x := c + 17) ng (by omega)
  replace g := Gd.su (a := 3) (i := 5) (x := 17) g (by omega) (by decide)
  generalize su σ (c + 3) 5 (c + 17) = σ at g ng ⊢
  refine Ex2 (fun _ _ e => Ev.aload_n d_FC_init_65 rfl e) ?_
  refine Ex2 (fun _ _ e => Ev.new d_FC_init_66 ln_FC_47 (by decide) e) ?_
  rw [g.1]
  replace z := MZ.mz (a := c + 19) z rfl (fun j => by rw [mu_a (by omega), mu_a (by omega)]; rfl) (by omega) (show c + 19 + 1 = c + 20 by omega)
  replace ng := neg_sn (t := 5) (n := 0) (s := 5) ng (by rw [g.1]; omega)
  replace g := Gd.sn (t := 5) (n := 0) (s := 5) g (by omega) (by omega) (by decide) (show (19 : Int) + 1 = 20 from rfl)
  generalize sn σ 5 0 5 = σ at g ng ⊢
  generalize mz m (c + 19) = m at z ⊢
  refine Ex2 (fun _ _ e => Ev.dup d_FC_init_69 rfl e) ?_
  refine Ex2 (fun _ _ e => Ev.callINv d_FC_init_70 mt_Tg_init lk_FC_49 in_Tg_init rfl rfl rfl (Nat.le_of_ble_eq_true rfl) rfl (Nat.le_of_ble_eq_true rfl) (by decide) (by omega) rfl (c_Tg_init (a := c + 19) (x1 := c + 20) (x2 := c + 21) (x3 := c + 22) (g.is (q := (19, 5, 0)) (by decide)) g.1 (by omega) (by omega)) e) ?_
  replace z := MZ.mz (a := c + 20) z rfl (fun j => by rw [mu_a (by omega), mu_a (by omega)]; rfl) (by omega) (show c + 20 + 1 = c + 21 by omega)
  replace ng := neg_sn (t := 100) (n := 73) (s := 73) ng (by rw [g.1]; omega)
  replace g := Gd.sn (t := 100) (n := 73) (s := 73) g (by omega) (by omega) (by decide) (show (20 : Int) + 1 = 21 from rfl)
  replace ng := neg_su (a := c + 19) (i := 0) (x := c + 20) ng (by omega)
  replace g := Gd.su (a := 19) (i := 0) (x := 20) g (by omega) (by decide)
  replace z := MZ.mz (a := c + 21) z rfl (fun j => by rw [mu_a (by omega), mu_a (by omega)]; rfl) (by omega) (show c + 21 + 1 = c + 22 by omega)
  replace ng := neg_sn (t := 101) (n := 803) (s := 803) ng (by rw [g.1]; omega)
  replace g := Gd.sn (t := 101) (n := 803) (s := 803) g (by omega) (by omega) (by decide) (show (21 : Int) + 1 = 22 from rfl)
  replace ng := neg_su (a := c + 19) (i := 1) (x := c + 21) ng (by omega)
  replace g := Gd.su (a := 19) (i := 1) (x := 21) g (by omega) (by decide)
  replace z := MZ.mz (a := c + 22) z rfl (fun j => by rw [mu_a (by omega), mu_a (by omega)]; rfl) (by omega) (show c + 22 + 1 = c + 23 by omega)
  replace ng := neg_sn (t := 100) (n := 7) (s := 7) ng (by rw [g.1]; omega)
  replace g := Gd.sn (t := 100) (n := 7) (s := 7) g (by omega) (by omega) (by decide) (show (22 : Int) + 1 = 23 from rfl)
  replace ng := neg_su (a := c + 19) (i := 2) (x := c + 22) ng (by omega)
  replace g := Gd.su (a := 19) (i := 2) (x := 22) g (by omega) (by decide)
  generalize su (sn (su (sn (su (sn σ 100 73 73) (c + 19) 0 (c + 20)) 101 803 803) (c + 19) 1 (c + 21)) 100 7 7) (c + 19) 2 (c + 22) = σ at g ng ⊢
  generalize mz (mz (mz m (c + 20)) (c + 21)) (c + 22) = m at z ⊢
  refine Ex2 (fun _ _ e => Ev.pr 6 d_FC_init_73 lf_FC_50 rfl rfl rfl rfl (g.is (q := (3, 7, 0)) (by decide)) (by decide) e) ?_
  replace ng := neg_su (a := c + 3) (i := 6) (x := c + 19) ng (by omega)
  replace g := Gd.su (a := 3) (i := 6) (x := 19) g (by omega) (by decide)
  generalize su σ (c + 3) 6 (c + 19) = σ at g ng ⊢
  refine Ex2 (fun _ _ e => Ev.aload_n d_FC_init_76 rfl e) ?_
  refine Ex2 (fun _ _ e => Ev.bipush d_FC_init_77 rfl e) ?_
  refine Ex2 (fun _ _ e => Ev.newarray (t := 101) d_FC_init_79 rfl rfl (by decide) ac_101 (by decide) (by decide) e) ?_
  rw [g.1]
  replace z := MZ.mz (a := c + 23) z rfl (fun j => by rw [mu_a (by omega), mu_a (by omega)]; rfl) (by omega) (show c + 23 + 1 = c + 24 by omega)
  replace ng := neg_sn (t := 101) (n := 8) (s := 8) ng (by rw [g.1]; omega)
  replace g := Gd.sn (t := 101) (n := 8) (s := 8) g (by omega) (by omega) (by decide) (show (23 : Int) + 1 = 24 from rfl)
  generalize sn σ 101 8 8 = σ at g ng ⊢
  generalize mz m (c + 23) = m at z ⊢
  refine Ex2 (fun _ _ e => Ev.pr 7 d_FC_init_81 lf_FC_54 rfl rfl rfl rfl (g.is (q := (3, 7, 0)) (by decide)) (by decide) e) ?_
  replace ng := neg_su (a := c + 3) (i := 7) (x := c + 23) ng (by omega)
  replace g := Gd.su (a := 3) (i := 7) (x := 23) g (by omega) (by decide)
  generalize su σ (c + 3) 7 (c + 23) = σ at g ng ⊢
  refine Ex2 (fun _ _ e => Ev.aload_n d_FC_init_84 rfl e) ?_
  refine Ex2 (fun _ _ e => Ev.iconst d_FC_init_85 e) ?_
  refine Ex2 (fun _ _ e => Ev.anewarray (c := 4) d_FC_init_86 rfl lc_FC_58 ao_Sh (by decide) e) ?_
  rw [g.1]
  replace z := MZ.mz (a := c + 24) z rfl (fun j => by rw [mu_a (by omega), mu_a (by omega)]; rfl) (by omega) (show c + 24 + 1 = c + 25 by omega)
  replace ng := neg_sn (t := 200 + 4) (n := 4) (s := 4) ng (by rw [g.1]; omega)
  replace g := Gd.sn (t := 200 + 4) (n := 4) (s := 4) g (by omega) (by omega) (by decide) (show (24 : Int) + 1 = 25 from rfl)
  generalize sn σ (200 + 4) 4 4 = σ at g ng ⊢
  generalize mz m (c + 24) = m at z ⊢
  refine Ex2 (fun _ _ e => Ev.pr 8 d_FC_init_89 lf_FC_60 rfl rfl rfl rfl (g.is (q := (3, 7, 0)) (by decide)) (by decide) e) ?_
  replace ng := neg_su (a := c + 3) (i := 8) (x := c + 24) ng (by omega)
  replace g := Gd.su (a := 3) (i := 8) (x := 24) g (by omega) (by decide)
  generalize su σ (c + 3) 8 (c + 24) = σ at g ng ⊢
  refine Ex2 (fun _ _ e => Ev.iconst d_FC_init_92 e) ?_
  refine Ex2 (fun _ _ e => Ev.istore_1 d_FC_init_93 rfl e) ?_
  refine Ex2 (fun _ _ e => Ev.iload_n d_FC_init_94 rfl e) ?_
  refine Ex2 (fun _ _ e => Ev.bipush d_FC_init_95 rfl e) ?_
  refine Ex2 (fun _ _ e => Ev.icmp_ge (tgt := 119) d_FC_init_97 rfl (by decide) (by decide) (fun h => absurd h (by decide)) (fun _ => e)) ?_
  refine Ex2 (fun _ _ e => Ev.aload_n d_FC_init_100 rfl e) ?_
  refine Ex2 (fun _ _ e => Ev.gr 0 d_FC_init_101 lf_FC_11 rfl rfl (g.is (q := (3, 7, 0)) (by decide)) (by decide) (show σ.2.2.2.2 (c + 3) 0 = c + 4 from g.rf (q := (3, 0, 4)) (by decide)) e) ?_
  refine Ex2 (fun _ _ e => Ev.iload_n d_FC_init_104 rfl e) ?_
  refine Ex2 (fun _ _ e => Ev.new d_FC_init_105 ln_FC_9 (by decide) e) ?_
  rw [g.1]
  replace z := MZ.mz (a := c + 25) z rfl (fun j => by rw [mu_a (by omega), mu_a (by omega)]; rfl) (by omega) (show c + 25 + 1 = c + 26 by omega)
  replace ng := neg_sn (t := 2) (n := 0) (s := 4) ng (by rw [g.1]; omega)
  replace g := Gd.sn (t := 2) (n := 0) (s := 4) g (by omega) (by omega) (by decide) (show (25 : Int) + 1 = 26 from rfl)
  generalize sn σ 2 0 4 = σ at g ng ⊢
  generalize mz m (c + 25) = m at z ⊢
  refine Ex2 (fun _ _ e => Ev.dup d_FC_init_108 rfl e) ?_
  refine Ex2 (fun _ _ e => Ev.callINv d_FC_init_109 mt_Pic_init lk_FC_15 in_Pic_init rfl rfl rfl (Nat.le_of_ble_eq_true rfl) rfl (Nat.le_of_ble_eq_true rfl) (by decide) (by omega) rfl (c_Pic_init (a := c + 25) (x1 := c + 26) (x2 := c + 27) (g.is (q := (25, 2, 0)) (by decide)) g.1 (by omega)) e) ?_
  replace z := MZ.mu (a := c + 25) (i := 0) (x := 1) z (by omega)
  replace z := MZ.mz (a := c + 26) z rfl (fun j => by rw [mu_a (by omega), mu_a (by omega), mu_a (by omega)]; rfl) (by omega) (show c + 26 + 1 = c + 27 by omega)
  replace ng := neg_sn (t := 100) (n := 24) (s := 24) ng (by rw [g.1]; omega)
  replace g := Gd.sn (t := 100) (n := 24) (s := 24) g (by omega) (by omega) (by decide) (show (26 : Int) + 1 = 27 from rfl)
  replace ng := neg_su (a := c + 25) (i := 2) (x := c + 26) ng (by omega)
  replace g := Gd.su (a := 25) (i := 2) (x := 26) g (by omega) (by decide)
  replace z := MZ.mz (a := c + 27) z rfl (fun j => by rw [mu_a (by omega), mu_a (by omega), mu_a (by omega)]; rfl) (by omega) (show c + 27 + 1 = c + 28 by omega)
  replace ng := neg_sn (t := 100) (n := 4) (s := 4) ng (by rw [g.1]; omega)
  replace g := Gd.sn (t := 100) (n := 4) (s := 4) g (by omega) (by omega) (by decide) (show (27 : Int) + 1 = 28 from rfl)
  replace ng := neg_su (a := c + 25) (i := 3) (x := c + 27) ng (by omega)
  replace g := Gd.su (a := 25) (i := 3) (x := 27) g (by omega) (by decide)
  generalize su (sn (su (sn σ 100 24 24) (c + 25) 2 (c + 26)) 100 4 4) (c + 25) 3 (c + 27) = σ at g ng ⊢
  generalize mz (mz (mu m (c + 25) 0 1) (c + 26)) (c + 27) = m at z ⊢
  refine Ex2 (fun _ _ e => Ev.aastore (c := 2) d_FC_init_112 (show Is _ (c + 4) (200 + 2) 8 from (g.is (q := (4, 202, 8)) (by decide))) (by omega) (by decide) (g.is (q := (25, 2, 0)) (by decide)) (by decide) e) ?_
  replace ng := neg_su (a := c + 4) (i := 0) (x := c + 25) ng (by omega)
  replace g := Gd.su (a := 4) (i := 0) (x := 25) g (by omega) (by decide)
  generalize su σ (c + 4) 0 (c + 25) = σ at g ng ⊢
  refine Ex2 (fun _ _ e => Ev.iinc_1 d_FC_init_113 rfl e) ?_
  rw [show (0 : Int) + 1 = 1 from rfl]
  refine Ex2 (fun _ _ e => Ev.goto (tgt := 94) d_FC_init_116 rfl e) ?_
  refine Ex2 (fun _ _ e => Ev.iload_n d_FC_init_94 rfl e) ?_
  refine Ex2 (fun _ _ e => Ev.bipush d_FC_init_95 rfl e) ?_
  refine Ex2 (fun _ _ e => Ev.icmp_ge (tgt := 119) d_FC_init_97 rfl (by decide) (by decide) (fun h => absurd h (by decide)) (fun _ => e)) ?_
  refine Ex2 (fun _ _ e => Ev.aload_n d_FC_init_100 rfl e) ?_
  refine Ex2 (fun _ _ e => Ev.gr 0 d_FC_init_101 lf_FC_11 rfl rfl (g.is (q := (3, 7, 0)) (by decide)) (by decide) (show σ.2.2.2.2 (c + 3) 0 = c + 4 from g.rf (q := (3, 0, 4)) (by decide)) e) ?_
  refine Ex2 (fun _ _ e => Ev.iload_n d_FC_init_104 rfl e) ?_
  refine Ex2 (fun _ _ e => Ev.new d_FC_init_105 ln_FC_9 (by decide) e) ?_
  rw [g.1]
  replace z := MZ.mz (a := c + 28) z rfl (fun j => by rw [mu_a (by omega), mu_a (by omega), mu_a (by omega)]; rfl) (by omega) (show c + 28 + 1 = c + 29 by omega)
  replace ng := neg_sn (t := 2) (n := 0) (s := 4) ng (by rw [g.1]; omega)
  replace g := Gd.sn (t := 2) (n := 0) (s := 4) g (by omega) (by omega) (by decide) (show (28 : Int) + 1 = 29 from rfl)
  generalize sn σ 2 0 4 = σ at g ng ⊢
  generalize mz m (c + 28) = m at z ⊢
  refine Ex2 (fun _ _ e => Ev.dup d_FC_init_108 rfl e) ?_
  refine Ex2 (fun _ _ e => Ev.callINv d_FC_init_109 mt_Pic_init lk_FC_15 in_Pic_init rfl rfl rfl (Nat.le_of_ble_eq_true rfl) rfl (Nat.le_of_ble_eq_true rfl) (by decide) (by omega) rfl (c_Pic_init (a := c + 28) (x1 := c + 29) (x2 := c + 30) (g.is (q := (28, 2, 0)) (by decide)) g.1 (by omega)) e) ?_
  replace z := MZ.mu (a := c + 28) (i := 0) (x := 1) z (by omega)
  replace z := MZ.mz (a := c + 29) z rfl (fun j => by rw [mu_a (by omega), mu_a (by omega), mu_a (by omega), mu_a (by omega)]; rfl) (by omega) (show c + 29 + 1 = c + 30 by omega)
  replace ng := neg_sn (t := 100) (n := 24) (s := 24) ng (by rw [g.1]; omega)
  replace g := Gd.sn (t := 100) (n := 24) (s := 24) g (by omega) (by omega) (by decide) (show (29 : Int) + 1 = 30 from rfl)
  replace ng := neg_su (a := c + 28) (i := 2) (x := c + 29) ng (by omega)
  replace g := Gd.su (a := 28) (i := 2) (x := 29) g (by omega) (by decide)
  replace z := MZ.mz (a := c + 30) z rfl (fun j => by rw [mu_a (by omega), mu_a (by omega), mu_a (by omega), mu_a (by omega)]; rfl) (by omega) (show c + 30 + 1 = c + 31 by omega)
  replace ng := neg_sn (t := 100) (n := 4) (s := 4) ng (by rw [g.1]; omega)
  replace g := Gd.sn (t := 100) (n := 4) (s := 4) g (by omega) (by omega) (by decide) (show (30 : Int) + 1 = 31 from rfl)
  replace ng := neg_su (a := c + 28) (i := 3) (x := c + 30) ng (by omega)
  replace g := Gd.su (a := 28) (i := 3) (x := 30) g (by omega) (by decide)
  generalize su (sn (su (sn σ 100 24 24) (c + 28) 2 (c + 29)) 100 4 4) (c + 28) 3 (c + 30) = σ at g ng ⊢
  generalize mz (mz (mu m (c + 28) 0 1) (c + 29)) (c + 30) = m at z ⊢
  refine Ex2 (fun _ _ e => Ev.aastore (c := 2) d_FC_init_112 (show Is _ (c + 4) (200 + 2) 8 from (g.is (q := (4, 202, 8)) (by decide))) (by omega) (by decide) (g.is (q := (28, 2, 0)) (by decide)) (by decide) e) ?_
  replace ng := neg_su (a := c + 4) (i := 1) (x := c + 28) ng (by omega)
  replace g := Gd.su (a := 4) (i := 1) (x := 28) g (by omega) (by decide)
  generalize su σ (c + 4) 1 (c + 28) = σ at g ng ⊢
  refine Ex2 (fun _ _ e => Ev.iinc_1 d_FC_init_113 rfl e) ?_
  rw [show (1 : Int) + 1 = 2 from rfl]
  refine Ex2 (fun _ _ e => Ev.goto (tgt := 94) d_FC_init_116 rfl e) ?_
  refine Ex2 (fun _ _ e => Ev.iload_n d_FC_init_94 rfl e) ?_
  refine Ex2 (fun _ _ e => Ev.bipush d_FC_init_95 rfl e) ?_
  refine Ex2 (fun _ _ e => Ev.icmp_ge (tgt := 119) d_FC_init_97 rfl (by decide) (by decide) (fun h => absurd h (by decide)) (fun _ => e)) ?_
  refine Ex2 (fun _ _ e => Ev.aload_n d_FC_init_100 rfl e) ?_
  refine Ex2 (fun _ _ e => Ev.gr 0 d_FC_init_101 lf_FC_11 rfl rfl (g.is (q := (3, 7, 0)) (by decide)) (by decide) (show σ.2.2.2.2 (c + 3) 0 = c + 4 from g.rf (q := (3, 0, 4)) (by decide)) e) ?_
  refine Ex2 (fun _ _ e => Ev.iload_n d_FC_init_104 rfl e) ?_
  refine Ex2 (fun _ _ e => Ev.new d_FC_init_105 ln_FC_9 (by decide) e) ?_
  rw [g.1]
  replace z := MZ.mz (a := c + 31) z rfl (fun j => by rw [mu_a (by omega), mu_a (by omega), mu_a (by omega), mu_a (by omega)]; rfl) (by omega) (show c + 31 + 1 = c + 32 by omega)
  replace ng := neg_sn (t := 2) (n := 0) (s := 4) ng (by rw [g.1]; omega)
  replace g := Gd.sn (t := 2) (n := 0) (s := 4) g (by omega) (by omega) (by decide) (show (31 : Int) + 1 = 32 from rfl)
  generalize sn σ 2 0 4 = σ at g ng ⊢
  generalize mz m (c + 31) = m at z ⊢
  refine Ex2 (fun _ _ e => Ev.dup d_FC_init_108 rfl e) ?_
  refine Ex2 (fun _ _ e => Ev.callINv d_FC_init_109 mt_Pic_init lk_FC_15 in_Pic_init rfl rfl rfl (Nat.le_of_ble_eq_true rfl) rfl (Nat.le_of_ble_eq_true rfl) (by decide) (by omega) rfl (c_Pic_init (a := c + 31) (x1 := c + 32) (x2 := c + 33) (g.is (q := (31, 2, 0)) (by decide)) g.1 (by omega)) e) ?_
  replace z := MZ.mu (a := c + 31) (i := 0) (x := 1) z (by omega)
  replace z := MZ.mz (a := c + 32) z rfl (fun j => by rw [mu_a (by omega), mu_a (by omega), mu_a (by omega), mu_a (by omega), mu_a (by omega)]; rfl) (by omega) (show c + 32 + 1 = c + 33 by omega)
  replace ng := neg_sn (t := 100) (n := 24) (s := 24) ng (by rw [g.1]; omega)
  replace g := Gd.sn (t := 100) (n := 24) (s := 24) g (by omega) (by omega) (by decide) (show (32 : Int) + 1 = 33 from rfl)
  replace ng := neg_su (a := c + 31) (i := 2) (x := c + 32) ng (by omega)
  replace g := Gd.su (a := 31) (i := 2) (x := 32) g (by omega) (by decide)
  replace z := MZ.mz (a := c + 33) z rfl (fun j => by rw [mu_a (by omega), mu_a (by omega), mu_a (by omega), mu_a (by omega), mu_a (by omega)]; rfl) (by omega) (show c + 33 + 1 = c + 34 by omega)
  replace ng := neg_sn (t := 100) (n := 4) (s := 4) ng (by rw [g.1]; omega)
  replace g := Gd.sn (t := 100) (n := 4) (s := 4) g (by omega) (by omega) (by decide) (show (33 : Int) + 1 = 34 from rfl)
  replace ng := neg_su (a := c + 31) (i := 3) (x := c + 33) ng (by omega)
  replace g := Gd.su (a := 31) (i := 3) (x := 33) g (by omega) (by decide)
  generalize su (sn (su (sn σ 100 24 24) (c + 31) 2 (c + 32)) 100 4 4) (c + 31) 3 (c + 33) = σ at g ng ⊢
  generalize mz (mz (mu m (c + 31) 0 1) (c + 32)) (c + 33) = m at z ⊢
  refine Ex2 (fun _ _ e => Ev.aastore (c := 2) d_FC_init_112 (show Is _ (c + 4) (200 + 2) 8 from (g.is (q := (4, 202, 8)) (by decide))) (by omega) (by decide) (g.is (q := (31, 2, 0)) (by decide)) (by decide) e) ?_
  replace ng := neg_su (a := c + 4) (i := 2) (x := c + 31) ng (by omega)
  replace g := Gd.su (a := 4) (i := 2) (x := 31) g (by omega) (by decide)
  generalize su σ (c + 4) 2 (c + 31) = σ at g ng ⊢
  refine Ex2 (fun _ _ e => Ev.iinc_1 d_FC_init_113 rfl e) ?_
  rw [show (2 : Int) + 1 = 3 from rfl]
  refine Ex2 (fun _ _ e => Ev.goto (tgt := 94) d_FC_init_116 rfl e) ?_
  refine Ex2 (fun _ _ e => Ev.iload_n d_FC_init_94 rfl e) ?_
  refine Ex2 (fun _ _ e => Ev.bipush d_FC_init_95 rfl e) ?_
  refine Ex2 (fun _ _ e => Ev.icmp_ge (tgt := 119) d_FC_init_97 rfl (by decide) (by decide) (fun h => absurd h (by decide)) (fun _ => e)) ?_
  refine Ex2 (fun _ _ e => Ev.aload_n d_FC_init_100 rfl e) ?_
  refine Ex2 (fun _ _ e => Ev.gr 0 d_FC_init_101 lf_FC_11 rfl rfl (g.is (q := (3, 7, 0)) (by decide)) (by decide) (show σ.2.2.2.2 (c + 3) 0 = c + 4 from g.rf (q := (3, 0, 4)) (by decide)) e) ?_
  refine Ex2 (fun _ _ e => Ev.iload_n d_FC_init_104 rfl e) ?_
  refine Ex2 (fun _ _ e => Ev.new d_FC_init_105 ln_FC_9 (by decide) e) ?_
  rw [g.1]
  replace z := MZ.mz (a := c + 34) z rfl (fun j => by rw [mu_a (by omega), mu_a (by omega), mu_a (by omega), mu_a (by omega), mu_a (by omega)]; rfl) (by omega) (show c + 34 + 1 = c + 35 by omega)
  replace ng := neg_sn (t := 2) (n := 0) (s := 4) ng (by rw [g.1]; omega)
  replace g := Gd.sn (t := 2) (n := 0) (s := 4) g (by omega) (by omega) (by decide) (show (34 : Int) + 1 = 35 from rfl)
  generalize sn σ 2 0 4 = σ at g ng ⊢
  generalize mz m (c + 34) = m at z ⊢
  refine Ex2 (fun _ _ e => Ev.dup d_FC_init_108 rfl e) ?_
  refine Ex2 (fun _ _ e => Ev.callINv d_FC_init_109 mt_Pic_init lk_FC_15 in_Pic_init rfl rfl rfl (Nat.le_of_ble_eq_true rfl) rfl (Nat.le_of_ble_eq_true rfl) (by decide) (by omega) rfl (c_Pic_init (a := c + 34) (x1 := c + 35) (x2 := c + 36) (g.is (q := (34, 2, 0)) (by decide)) g.1 (by omega)) e) ?_
  replace z := MZ.mu (a := c + 34) (i := 0) (x := 1) z (by omega)
  replace z := MZ.mz (a := c + 35) z rfl (fun j => by rw [mu_a (by omega), mu_a (by omega), mu_a (by omega), mu_a (by omega), mu_a (by omega), mu_a (by omega)]; rfl) (by omega) (show c + 35 + 1 = c + 36 by omega)
  replace ng := neg_sn (t := 100) (n := 24) (s := 24) ng (by rw [g.1]; omega)
  replace g := Gd.sn (t := 100) (n := 24) (s := 24) g (by omega) (by omega) (by decide) (show (35 : Int) + 1 = 36 from rfl)
  replace ng := neg_su (a := c + 34) (i := 2) (x := c + 35) ng (by omega)
  replace g := Gd.su (a := 34) (i := 2) (x := 35) g (by omega) (by decide)
  replace z := MZ.mz (a := c + 36) z rfl (fun j => by rw [mu_a (by omega), mu_a (by omega), mu_a (by omega), mu_a (by omega), mu_a (by omega), mu_a (by omega)]; rfl) (by omega) (show c + 36 + 1 = c + 37 by omega)
  replace ng := neg_sn (t := 100) (n := 4) (s := 4) ng (by rw [g.1]; omega)
  replace g := Gd.sn (t := 100) (n := 4) (s := 4) g (by omega) (by omega) (by decide) (show (36 : Int) + 1 = 37 from rfl)
  replace ng := neg_su (a := c + 34) (i := 3) (x := c + 36) ng (by omega)
  replace g := Gd.su (a := 34) (i := 3) (x := 36) g (by omega) (by decide)
  generalize su (sn (su (sn σ 100 24 24) (c + 34) 2 (c + 35)) 100 4 4) (c + 34) 3 (c + 36) = σ at g ng ⊢
  generalize mz (mz (mu m (c + 34) 0 1) (c + 35)) (c + 36) = m at z ⊢
  refine Ex2 (fun _ _ e => Ev.aastore (c := 2) d_FC_init_112 (show Is _ (c + 4) (200 + 2) 8 from (g.is (q := (4, 202, 8)) (by decide))) (by omega) (by decide) (g.is (q := (34, 2, 0)) (by decide)) (by decide) e) ?_
  replace ng := neg_su (a := c + 4) (i := 3) (x := c + 34) ng (by omega)
  replace g := Gd.su (a := 4) (i := 3) (x := 34) g (by omega) (by decide)
  generalize su σ (c + 4) 3 (c + 34) = σ at g ng ⊢
  refine Ex2 (fun _ _ e => Ev.iinc_1 d_FC_init_113 rfl e) ?_
  rw [show (3 : Int) + 1 = 4 from rfl]
  refine Ex2 (fun _ _ e => Ev.goto (tgt := 94) d_FC_init_116 rfl e) ?_
  refine Ex2 (fun _ _ e => Ev.iload_n d_FC_init_94 rfl e) ?_
  refine Ex2 (fun _ _ e => Ev.bipush d_FC_init_95 rfl e) ?_
  refine Ex2 (fun _ _ e => Ev.icmp_ge (tgt := 119) d_FC_init_97 rfl (by decide) (by decide) (fun h => absurd h (by decide)) (fun _ => e)) ?_
  refine Ex2 (fun _ _ e => Ev.aload_n d_FC_init_100 rfl e) ?_
  refine Ex2 (fun _ _ e => Ev.gr 0 d_FC_init_101 lf_FC_11 rfl rfl (g.is (q := (3, 7, 0)) (by decide)) (by decide) (show σ.2.2.2.2 (c + 3) 0 = c + 4 from g.rf (q := (3, 0, 4)) (by decide)) e) ?_
  refine Ex2 (fun _ _ e => Ev.iload_n d_FC_init_104 rfl e) ?_
  refine Ex2 (fun _ _ e => Ev.new d_FC_init_105 ln_FC_9 (by decide) e) ?_
  rw [g.1]
  replace z := MZ.mz (a := c + 37) z rfl (fun j => by rw [mu_a (by omega), mu_a (by omega), mu_a (by omega), mu_a (by omega), mu_a (by omega), mu_a (by omega)]; rfl) (by omega) (show c + 37 + 1 = c + 38 by omega)
  replace ng := neg_sn (t := 2) (n := 0) (s := 4) ng (by rw [g.1]; omega)
  replace g := Gd.sn (t := 2) (n := 0) (s := 4) g (by omega) (by omega) (by decide) (show (37 : Int) + 1 = 38 from rfl)
  generalize sn σ 2 0 4 = σ at g ng ⊢
  generalize mz m (c + 37) = m at z ⊢
  refine Ex2 (fun _ _ e => Ev.dup d_FC_init_108 rfl e) ?_
  refine Ex2 (fun _ _ e => Ev.callINv d_FC_init_109 mt_Pic_init lk_FC_15 in_Pic_init rfl rfl rfl (Nat.le_of_ble_eq_true rfl) rfl (Nat.le_of_ble_eq_true rfl) (by decide) (by omega) rfl (c_Pic_init (a := c + 37) (x1 := c + 38) (x2 := c + 39) (g.is (q := (37, 2, 0)) (by decide)) g.1 (by omega)) e) ?_
  replace z := MZ.mu (a := c + 37) (i := 0) (x := 1) z (by omega)
  replace z := MZ.mz (a := c + 38) z rfl (fun j => by rw [mu_a (by omega), mu_a (by omega), mu_a (by omega), mu_a (by omega), mu_a (by omega), mu_a (by omega), mu_a (by omega)]; rfl) (by omega) (show c + 38 + 1 = c + 39 by omega)
  replace ng := neg_sn (t := 100) (n := 24) (s := 24) ng (by rw [g.1]; omega)
  replace g := Gd.sn (t := 100) (n := 24) (s := 24) g (by omega) (by omega) (by decide) (show (38 : Int) + 1 = 39 from rfl)
  replace ng := neg_su (a := c + 37) (i := 2) (x := c + 38) ng (by omega)
  replace g := Gd.su (a := 37) (i := 2) (x := 38) g (by omega) (by decide)
  replace z := MZ.mz (a := c + 39) z rfl (fun j => by rw [mu_a (by omega), mu_a (by omega), mu_a (by omega), mu_a (by omega), mu_a (by omega), mu_a (by omega), mu_a (by omega)]; rfl) (by omega) (show c + 39 + 1 = c + 40 by omega)
  replace ng := neg_sn (t := 100) (n := 4) (s := 4) ng (by rw [g.1]; omega)
  replace g := Gd.sn (t := 100) (n := 4) (s := 4) g (by omega) (by omega) (by decide) (show (39 : Int) + 1 = 40 from rfl)
  replace ng := neg_su (a := c + 37) (i := 3) (x := c + 39) ng (by omega)
  replace g := Gd.su (a := 37) (i := 3) (x := 39) g (by omega) (by decide)
  generalize su (sn (su (sn σ 100 24 24) (c + 37) 2 (c + 38)) 100 4 4) (c + 37) 3 (c + 39) = σ at g ng ⊢
  generalize mz (mz (mu m (c + 37) 0 1) (c + 38)) (c + 39) = m at z ⊢
  refine Ex2 (fun _ _ e => Ev.aastore (c := 2) d_FC_init_112 (show Is _ (c + 4) (200 + 2) 8 from (g.is (q := (4, 202, 8)) (by decide))) (by omega) (by decide) (g.is (q := (37, 2, 0)) (by decide)) (by decide) e) ?_
  replace ng := neg_su (a := c + 4) (i := 4) (x := c + 37) ng (by omega)
  replace g := Gd.su (a := 4) (i := 4) (x := 37) g (by omega) (by decide)
  generalize su σ (c + 4) 4 (c + 37) = σ at g ng ⊢
  refine Ex2 (fun _ _ e => Ev.iinc_1 d_FC_init_113 rfl e) ?_
  rw [show (4 : Int) + 1 = 5 from rfl]
  refine Ex2 (fun _ _ e => Ev.goto (tgt := 94) d_FC_init_116 rfl e) ?_
  refine Ex2 (fun _ _ e => Ev.iload_n d_FC_init_94 rfl e) ?_
  refine Ex2 (fun _ _ e => Ev.bipush d_FC_init_95 rfl e) ?_
  refine Ex2 (fun _ _ e => Ev.icmp_ge (tgt := 119) d_FC_init_97 rfl (by decide) (by decide) (fun h => absurd h (by decide)) (fun _ => e)) ?_
  refine Ex2 (fun _ _ e => Ev.aload_n d_FC_init_100 rfl e) ?_
  refine Ex2 (fun _ _ e => Ev.gr 0 d_FC_init_101 lf_FC_11 rfl rfl (g.is (q := (3, 7, 0)) (by decide)) (by decide) (show σ.2.2.2.2 (c + 3) 0 = c + 4 from g.rf (q := (3, 0, 4)) (by decide)) e) ?_
  refine Ex2 (fun _ _ e => Ev.iload_n d_FC_init_104 rfl e) ?_
  refine Ex2 (fun _ _ e => Ev.new d_FC_init_105 ln_FC_9 (by decide) e) ?_
  rw [g.1]
  replace z := MZ.mz (a := c + 40) z rfl (fun j => by rw [mu_a (by omega), mu_a (by omega), mu_a (by omega), mu_a (by omega), mu_a (by omega), mu_a (by omega), mu_a (by omega)]; rfl) (by omega) (show c + 40 + 1 = c + 41 by omega)
  replace ng := neg_sn (t := 2) (n := 0) (s := 4) ng (by rw [g.1]; omega)
  replace g := Gd.sn (t := 2) (n := 0) (s := 4) g (by omega) (by omega) (by decide) (show (40 : Int) + 1 = 41 from rfl)
  generalize sn σ 2 0 4 = σ at g ng ⊢
  generalize mz m (c + 40) = m at z ⊢
  refine Ex2 (fun _ _ e => Ev.dup d_FC_init_108 rfl e) ?_
  refine Ex2 (fun _ _ e => Ev.callINv d_FC_init_109 mt_Pic_init lk_FC_15 in_Pic_init rfl rfl rfl (Nat.le_of_ble_eq_true rfl) rfl (Nat.le_of_ble_eq_true rfl) (by decide) (by omega) rfl (c_Pic_init (a := c + 40) (x1 := c + 41) (x2 := c + 42) (g.is (q := (40, 2, 0)) (by decide)) g.1 (by omega)) e) ?_
  replace z := MZ.mu (a := c + 40) (i := 0) (x := 1) z (by omega)
  replace z := MZ.mz (a := c + 41) z rfl (fun j => by rw [mu_a (by omega), mu_a (by omega), mu_a (by omega), mu_a (by omega), mu_a (by omega), mu_a (by omega), mu_a (by omega), mu_a (by omega)]; rfl) (by omega) (show c + 41 + 1 = c + 42 by omega)
  replace ng := neg_sn (t := 100) (n := 24) (s := 24) ng (by rw [g.1]; omega)
  replace g := Gd.sn (t := 100) (n := 24) (s := 24) g (by omega) (by omega) (by decide) (show (41 : Int) + 1 = 42 from rfl)
  replace ng := neg_su (a := c + 40) (i := 2) (x := c + 41) ng (by omega)
  replace g := Gd.su (a := 40) (i := 2) (x := 41) g (by omega) (by decide)
  replace z := MZ.mz (a := c + 42) z rfl (fun j => by rw [mu_a (by omega), mu_a (by omega), mu_a (by omega), mu_a (by omega), mu_a (by omega), mu_a (by omega), mu_a (by omega), mu_a (by omega)]; rfl) (by omega) (show c + 42 + 1 = c + 43 by omega)
  replace ng := neg_sn (t := 100) (n := 4) (s := 4) ng (by rw [g.1]; omega)
  replace g := Gd.sn (t := 100) (n := 4) (s := 4) g (by omega) (by omega) (by decide) (show (42 : Int) + 1 = 43 from rfl)
  replace ng := neg_su (a := c + 40) (i := 3) (x := c + 42) ng (by omega)
  replace g := Gd.su (a := 40) (i := 3) (x := 42) g (by omega) (by decide)
  generalize su (sn (su (sn σ 100 24 24) (c + 40) 2 (c + 41)) 100 4 4) (c + 40) 3 (c + 42) = σ at g ng ⊢
  generalize mz (mz (mu m (c + 40) 0 1) (c + 41)) (c + 42) = m at z ⊢
  refine Ex2 (fun _ _ e => Ev.aastore (c := 2) d_FC_init_112 (show Is _ (c + 4) (200 + 2) 8 from (g.is (q := (4, 202, 8)) (by decide))) (by omega) (by decide) (g.is (q := (40, 2, 0)) (by decide)) (by decide) e) ?_
  replace ng := neg_su (a := c + 4) (i := 5) (x := c + 40) ng (by omega)
  replace g := Gd.su (a := 4) (i := 5) (x := 40) g (by omega) (by decide)
  generalize su σ (c + 4) 5 (c + 40) = σ at g ng ⊢
  refine Ex2 (fun _ _ e => Ev.iinc_1 d_FC_init_113 rfl e) ?_
  rw [show (5 : Int) + 1 = 6 from rfl]
  refine Ex2 (fun _ _ e => Ev.goto (tgt := 94) d_FC_init_116 rfl e) ?_
  refine Ex2 (fun _ _ e => Ev.iload_n d_FC_init_94 rfl e) ?_
  refine Ex2 (fun _ _ e => Ev.bipush d_FC_init_95 rfl e) ?_
  refine Ex2 (fun _ _ e => Ev.icmp_ge (tgt := 119) d_FC_init_97 rfl (by decide) (by decide) (fun h => absurd h (by decide)) (fun _ => e)) ?_
  refine Ex2 (fun _ _ e => Ev.aload_n d_FC_init_100 rfl e) ?_
  refine Ex2 (fun _ _ e => Ev.gr 0 d_FC_init_101 lf_FC_11 rfl rfl (g.is (q := (3, 7, 0)) (by decide)) (by decide) (show σ.2.2.2.2 (c + 3) 0 = c + 4 from g.rf (q := (3, 0, 4)) (by decide)) e) ?_
  refine Ex2 (fun _ _ e => Ev.iload_n d_FC_init_104 rfl e) ?_
  refine Ex2 (fun _ _ e => Ev.new d_FC_init_105 ln_FC_9 (by decide) e) ?_
  rw [g.1]
  replace z := MZ.mz (a := c + 43) z rfl (fun j => by rw [mu_a (by omega), mu_a (by omega), mu_a (by omega), mu_a (by omega), mu_a (by omega), mu_a (by omega), mu_a (by omega), mu_a (by omega)]; rfl) (by omega) (show c + 43 + 1 = c + 44 by omega)
  replace ng := neg_sn (t := 2) (n := 0) (s := 4) ng (by rw [g.1]; omega)
  replace g := Gd.sn (t := 2) (n := 0) (s := 4) g (by omega) (by omega) (by decide) (show (43 : Int) + 1 = 44 from rfl)
  generalize sn σ 2 0 4 = σ at g ng ⊢
  generalize mz m (c + 43) = m at z ⊢
  refine Ex2 (fun _ _ e => Ev.dup d_FC_init_108 rfl e) ?_
  refine Ex2 (fun _ _ e => Ev.callINv d_FC_init_109 mt_Pic_init lk_FC_15 in_Pic_init rfl rfl rfl (Nat.le_of_ble_eq_true rfl) rfl (Nat.le_of_ble_eq_true rfl) (by decide) (by omega) rfl (c_Pic_init (a := c + 43) (x1 := c + 44) (x2 := c + 45) (g.is (q := (43, 2, 0)) (by decide)) g.1 (by omega)) e) ?_
  replace z := MZ.mu (a := c + 43) (i := 0) (x := 1) z (by omega)
  replace z := MZ.mz (a := c + 44) z rfl (fun j => by rw [mu_a (by omega), mu_a (by omega), mu_a (by omega), mu_a (by omega), mu_a (by omega), mu_a (by omega), mu_a (by omega), mu_a (by omega), mu_a (by omega)]; rfl) (by omega) (show c + 44 + 1 = c + 45 by omega)
  replace ng := neg_sn (t := 100) (n := 24) (s := 24) ng (by rw [g.1]; omega)
  replace g := Gd.sn (t := 100) (n := 24) (s := 24) g (by omega) (by omega) (by decide) (show (44 : Int) + 1 = 45 from rfl)
  replace ng := neg_su (a := c + 43) (i := 2) (x := c + 44) ng (by omega)
  replace g := Gd.su (a := 43) (i := 2) (x := 44) g (by omega) (by decide)
  replace z := MZ.mz (a := c + 45) z rfl (fun j => by rw [mu_a (by omega), mu_a (by omega), mu_a (by omega), mu_a (by omega), mu_a (by omega), mu_a (by omega), mu_a (by omega), mu_a (by omega), mu_a (by omega)]; rfl) (by omega) (show c + 45 + 1 = c + 46 by omega)
  replace ng := neg_sn (t := 100) (n := 4) (s := 4) ng (by rw [g.1]; omega)
  replace g := Gd.sn (t := 100) (n := 4) (s := 4) g (by omega) (by omega) (by decide) (show (45 : Int) + 1 = 46 from rfl)
  replace ng := neg_su (a := c + 43) (i := 3) (x := c + 45) ng (by omega)
  replace g := Gd.su (a := 43) (i := 3) (x := 45) g (by omega) (by decide)
  generalize su (sn (su (sn σ 100 24 24) (c + 43) 2 (c + 44)) 100 4 4) (c + 43) 3 (c + 45) = σ at g ng ⊢
  generalize mz (mz (mu m (c + 43) 0 1) (c + 44)) (c + 45) = m at z ⊢
  refine Ex2 (fun _ _ e => Ev.aastore (c := 2) d_FC_init_112 (show Is _ (c + 4) (200 + 2) 8 from (g.is (q := (4, 202, 8)) (by decide))) (by omega) (by decide) (g.is (q := (43, 2, 0)) (by decide)) (by decide) e) ?_
  replace ng := neg_su (a := c + 4) (i := 6) (x := c + 43) ng (by omega)
  replace g := Gd.su (a := 4) (i := 6) (x := 43) g (by omega) (by decide)
  generalize su σ (c + 4) 6 (c + 43) = σ at g ng ⊢
  refine Ex2 (fun _ _ e => Ev.iinc_1 d_FC_init_113 rfl e) ?_
  rw [show (6 : Int) + 1 = 7 from rfl]
  refine Ex2 (fun _ _ e => Ev.goto (tgt := 94) d_FC_init_116 rfl e) ?_
  refine Ex2 (fun _ _ e => Ev.iload_n d_FC_init_94 rfl e) ?_
  refine Ex2 (fun _ _ e => Ev.bipush d_FC_init_95 rfl e) ?_
  refine Ex2 (fun _ _ e => Ev.icmp_ge (tgt := 119) d_FC_init_97 rfl (by decide) (by decide) (fun h => absurd h (by decide)) (fun _ => e)) ?_
  refine Ex2 (fun _ _ e => Ev.aload_n d_FC_init_100 rfl e) ?_
  refine Ex2 (fun _ _ e => Ev.gr 0 d_FC_init_101 lf_FC_11 rfl rfl (g.is (q := (3, 7, 0)) (by decide)) (by decide) (show σ.2.2.2.2 (c + 3) 0 = c + 4 from g.rf (q := (3, 0, 4)) (by decide)) e) ?_
  refine Ex2 (fun _ _ e => Ev.iload_n d_FC_init_104 rfl e) ?_
  refine Ex2 (fun _ _ e => Ev.new d_FC_init_105 ln_FC_9 (by decide) e) ?_
  rw [g.1]
  replace z := MZ.mz (a := c + 46) z rfl (fun j => by rw [mu_a (by omega), mu_a (by omega), mu_a (by omega), mu_a (by omega), mu_a (by omega), mu_a (by omega), mu_a (by omega), mu_a (by omega), mu_a (by omega)]; rfl) (by omega) (show c + 46 + 1 = c + 47 by omega)
  replace ng := neg_sn (t := 2) (n := 0) (s := 4) ng (by rw [g.1]; omega)
  replace g := Gd.sn (t := 2) (n := 0) (s := 4) g (by omega) (by omega) (by decide) (show (46 : Int) + 1 = 47 from rfl)
  generalize sn σ 2 0 4 = σ at g ng ⊢
  generalize mz m (c + 46) = m at z ⊢
  refine Ex2 (fun _ _ e => Ev.dup d_FC_init_108 rfl e) ?_
  refine Ex2 (fun _ _ e => Ev.callINv d_FC_init_109 mt_Pic_init lk_FC_15 in_Pic_init rfl rfl rfl (Nat.le_of_ble_eq_true rfl) rfl (Nat.le_of_ble_eq_true rfl) (by decide) (by omega) rfl (c_Pic_init (a := c + 46) (x1 := c + 47) (x2 := c + 48) (g.is (q := (46, 2, 0)) (by decide)) g.1 (by omega)) e) ?_
  replace z := MZ.mu (a := c + 46) (i := 0) (x := 1) z (by omega)
  replace z := MZ.mz (a := c + 47) z rfl (fun j => by rw [mu_a (by omega), mu_a (by omega), mu_a (by omega), mu_a (by omega), mu_a (by omega), mu_a (by omega), mu_a (by omega), mu_a (by omega), mu_a (by omega), mu_a (by omega)]; rfl) (by omega) (show c + 47 + 1 = c + 48 by omega)
  replace ng := neg_sn (t := 100) (n := 24) (s := 24) ng (by rw [g.1]; omega)
  replace g := Gd.sn (t := 100) (n := 24) (s := 24) g (by omega) (by omega) (by decide) (show (47 : Int) + 1 = 48 from rfl)
  replace ng := neg_su (a := c + 46) (i := 2) (x := c + 47) ng (by omega)
  replace g := Gd.su (a := 46) (i := 2) (x := 47) g (by omega) (by decide)
  replace z := MZ.mz (a := c + 48) z rfl (fun j => by rw [mu_a (by omega), mu_a (by omega), mu_a (by omega), mu_a (by omega), mu_a (by omega), mu_a (by omega), mu_a (by omega), mu_a (by omega), mu_a (by omega), mu_a (by omega)]; rfl) (by omega) (show c + 48 + 1 = c + 49 by omega)
  replace ng := neg_sn (t := 100) (n := 4) (s := 4) ng (by rw [g.1]; omega)
  replace g := Gd.sn (t := 100) (n := 4) (s := 4) g (by omega) (by omega) (by decide) (show (48 : Int) + 1 = 49 from rfl)
  replace ng := neg_su (a := c + 46) (i := 3) (x := c + 48) ng (by omega)
  replace g := Gd.su (a := 46) (i := 3) (x := 48) g (by omega) (by decide)
  generalize su (sn (su (sn σ 100 24 24) (c + 46) 2 (c + 47)) 100 4 4) (c + 46) 3 (c + 48) = σ at g ng ⊢
  generalize mz (mz (mu m (c + 46) 0 1) (c + 47)) (c + 48) = m at z ⊢
  refine Ex2 (fun _ _ e => Ev.aastore (c := 2) d_FC_init_112 (show Is _ (c + 4) (200 + 2) 8 from (g.is (q := (4, 202, 8)) (by decide))) (by omega) (by decide) (g.is (q := (46, 2, 0)) (by decide)) (by decide) e) ?_
  replace ng := neg_su (a := c + 4) (i := 7) (x := c + 46) ng (by omega)
  replace g := Gd.su (a := 4) (i := 7) (x := 46) g (by omega) (by decide)
  generalize su σ (c + 4) 7 (c + 46) = σ at g ng ⊢
  refine Ex2 (fun _ _ e => Ev.iinc_1 d_FC_init_113 rfl e) ?_
  rw [show (7 : Int) + 1 = 8 from rfl]
  refine Ex2 (fun _ _ e => Ev.goto (tgt := 94) d_FC_init_116 rfl e) ?_
  refine Ex2 (fun _ _ e => Ev.iload_n d_FC_init_94 rfl e) ?_
  refine Ex2 (fun _ _ e => Ev.bipush d_FC_init_95 rfl e) ?_
  refine Ex2 (fun _ _ e => Ev.icmp_ge (tgt := 119) d_FC_init_97 rfl (by decide) (by decide) (fun _ => e) (fun h => absurd h (by decide))) ?_
  refine Ex2 (fun _ _ e => Ev.iconst d_FC_init_119 e) ?_
  refine Ex2 (fun _ _ e => Ev.istore_1 d_FC_init_120 rfl e) ?_
  refine Ex2 (fun _ _ e => Ev.iload_n d_FC_init_121 rfl e) ?_
  refine Ex2 (fun _ _ e => Ev.iconst d_FC_init_122 e) ?_
  refine Ex2 (fun _ _ e => Ev.icmp_ge (tgt := 145) d_FC_init_123 rfl (by decide) (by decide) (fun h => absurd h (by decide)) (fun _ => e)) ?_
  refine Ex2 (fun _ _ e => Ev.aload_n d_FC_init_126 rfl e) ?_
  refine Ex2 (fun _ _ e => Ev.gr 8 d_FC_init_127 lf_FC_60 rfl rfl (g.is (q := (3, 7, 0)) (by decide)) (by decide) (show σ.2.2.2.2 (c + 3) 8 = c + 24 from g.rf (q := (3, 8, 24)) (by decide)) e) ?_
  refine Ex2 (fun _ _ e => Ev.iload_n d_FC_init_130 rfl e) ?_
  refine Ex2 (fun _ _ e => Ev.new d_FC_init_131 ln_FC_58 (by decide) e) ?_
  rw [g.1]
  replace z := MZ.mz (a := c + 49) z rfl (fun j => by rw [mu_a (by omega), mu_a (by omega), mu_a (by omega), mu_a (by omega), mu_a (by omega), mu_a (by omega), mu_a (by omega), mu_a (by omega), mu_a (by omega), mu_a (by omega)]; rfl) (by omega) (show c + 49 + 1 = c + 50 by omega)
  replace ng := neg_sn (t := 4) (n := 0) (s := 3) ng (by rw [g.1]; omega)
  replace g := Gd.sn (t := 4) (n := 0) (s := 3) g (by omega) (by omega) (by decide) (show (49 : Int) + 1 = 50 from rfl)
  generalize sn σ 4 0 3 = σ at g ng ⊢
  generalize mz m (c + 49) = m at z ⊢
  refine Ex2 (fun _ _ e => Ev.dup d_FC_init_134 rfl e) ?_
  refine Ex2 (fun _ _ e => Ev.callINv d_FC_init_135 mt_Sh_init lk_FC_64 in_Sh_init rfl rfl rfl (Nat.le_of_ble_eq_true rfl) rfl (Nat.le_of_ble_eq_true rfl) (by decide) (by omega) rfl (c_Sh_init (a := c + 49) (x1 := c + 50) (g.is (q := (49, 4, 0)) (by decide)) g.1) e) ?_
  replace z := MZ.mz (a := c + 50) z rfl (fun j => by rw [mu_a (by omega), mu_a (by omega), mu_a (by omega), mu_a (by omega), mu_a (by omega), mu_a (by omega), mu_a (by omega), mu_a (by omega), mu_a (by omega), mu_a (by omega)]; rfl) (by omega) (show c + 50 + 1 = c + 51 by omega)
  replace ng := neg_sn (t := 100) (n := 60) (s := 60) ng (by rw [g.1]; omega)
  replace g := Gd.sn (t := 100) (n := 60) (s := 60) g (by omega) (by omega) (by decide) (show (50 : Int) + 1 = 51 from rfl)
  replace ng := neg_su (a := c + 49) (i := 0) (x := c + 50) ng (by omega)
  replace g := Gd.su (a := 49) (i := 0) (x := 50) g (by omega) (by decide)
  replace z := MZ.mu (a := c + 49) (i := 1) (x := (-1)) z (by omega)
  generalize su (sn σ 100 60 60) (c + 49) 0 (c + 50) = σ at g ng ⊢
  generalize mu (mz m (c + 50)) (c + 49) 1 (-1) = m at z ⊢
  refine Ex2 (fun _ _ e => Ev.aastore (c := 4) d_FC_init_138 (show Is _ (c + 24) (200 + 4) 4 from (g.is (q := (24, 204, 4)) (by decide))) (by omega) (by decide) (g.is (q := (49, 4, 0)) (by decide)) (by decide) e) ?_
  replace ng := neg_su (a := c + 24) (i := 0) (x := c + 49) ng (by omega)
  replace g := Gd.su (a := 24) (i := 0) (x := 49) g (by omega) (by decide)
  generalize su σ (c + 24) 0 (c + 49) = σ at g ng ⊢
  refine Ex2 (fun _ _ e => Ev.iinc_1 d_FC_init_139 rfl e) ?_
  rw [show (0 : Int) + 1 = 1 from rfl]
  refine Ex2 (fun _ _ e => Ev.goto (tgt := 121) d_FC_init_142 rfl e) ?_
  refine Ex2 (fun _ _ e => Ev.iload_n d_FC_init_121 rfl e) ?_
  refine Ex2 (fun _ _ e => Ev.iconst d_FC_init_122 e) ?_
  refine Ex2 (fun _ _ e => Ev.icmp_ge (tgt := 145) d_FC_init_123 rfl (by decide) (by decide) (fun h => absurd h (by decide)) (fun _ => e)) ?_
  refine Ex2 (fun _ _ e => Ev.aload_n d_FC_init_126 rfl e) ?_
  refine Ex2 (fun _ _ e => Ev.gr 8 d_FC_init_127 lf_FC_60 rfl rfl (g.is (q := (3, 7, 0)) (by decide)) (by decide) (show σ.2.2.2.2 (c + 3) 8 = c + 24 from g.rf (q := (3, 8, 24)) (by decide)) e) ?_
  refine Ex2 (fun _ _ e => Ev.iload_n d_FC_init_130 rfl e) ?_
  refine Ex2 (fun _ _ e => Ev.new d_FC_init_131 ln_FC_58 (by decide) e) ?_
  rw [g.1]
  replace z := MZ.mz (a := c + 51) z rfl (fun j => by rw [mu_a (by omega), mu_a (by omega), mu_a (by omega), mu_a (by omega), mu_a (by omega), mu_a (by omega), mu_a (by omega), mu_a (by omega), mu_a (by omega), mu_a (by omega), mu_a (by omega)]; rfl) (by omega) (show c + 51 + 1 = c + 52 by omega)
  replace ng := neg_sn (t := 4) (n := 0) (s := 3) ng (by rw [g.1]; omega)
  replace g := Gd.sn (t := 4) (n := 0) (s := 3) g (by omega) (by omega) (by decide) (show (51 : Int) + 1 = 52 from rfl)
  generalize sn σ 4 0 3 = σ at g ng ⊢
  generalize mz m (c + 51) = m at z ⊢
  refine Ex2 (fun _ _ e => Ev.dup d_FC_init_134 rfl e) ?_
  refine Ex2 (fun _ _ e => Ev.callINv d_FC_init_135 mt_Sh_init lk_FC_64 in_Sh_init rfl rfl rfl (Nat.le_of_ble_eq_true rfl) rfl (Nat.le_of_ble_eq_true rfl) (by decide) (by omega) rfl (c_Sh_init (a := c + 51) (x1 := c + 52) (g.is (q := (51, 4, 0)) (by decide)) g.1) e) ?_
  replace z := MZ.mz (a := c + 52) z rfl (fun j => by rw [mu_a (by omega), mu_a (by omega), mu_a (by omega), mu_a (by omega), mu_a (by omega), mu_a (by omega), mu_a (by omega), mu_a (by omega), mu_a (by omega), mu_a (by omega), mu_a (by omega)]; rfl) (by omega) (show c + 52 + 1 = c + 53 by omega)
  replace ng := neg_sn (t := 100) (n := 60) (s := 60) ng (by rw [g.1]; omega)
  replace g := Gd.sn (t := 100) (n := 60) (s := 60) g (by omega) (by omega) (by decide) (show (52 : Int) + 1 = 53 from rfl)
  replace ng := neg_su (a := c + 51) (i := 0) (x := c + 52) ng (by omega)
  replace g := Gd.su (a := 51) (i := 0) (x := 52) g (by omega) (by decide)
  replace z := MZ.mu (a := c + 51) (i := 1) (x := (-1)) z (by omega)
  generalize su (sn σ 100 60 60) (c + 51) 0 (c + 52) = σ at g ng ⊢
  generalize mu (mz m (c + 52)) (c + 51) 1 (-1) = m at z ⊢
  refine Ex2 (fun _ _ e => Ev.aastore (c := 4) d_FC_init_138 (show Is _ (c + 24) (200 + 4) 4 from (g.is (q := (24, 204, 4)) (by decide))) (by omega) (by decide) (g.is (q := (51, 4, 0)) (by decide)) (by decide) e) ?_
  replace ng := neg_su (a := c + 24) (i := 1) (x := c + 51) ng (by omega)
  replace g := Gd.su (a := 24) (i := 1) (x := 51) g (by omega) (by decide)
  generalize su σ (c + 24) 1 (c + 51) = σ at g ng ⊢
  refine Ex2 (fun _ _ e => Ev.iinc_1 d_FC_init_139 rfl e) ?_
  rw [show (1 : Int) + 1 = 2 from rfl]
  refine Ex2 (fun _ _ e => Ev.goto (tgt := 121) d_FC_init_142 rfl e) ?_
  refine Ex2 (fun _ _ e => Ev.iload_n d_FC_init_121 rfl e) ?_
  refine Ex2 (fun _ _ e => Ev.iconst d_FC_init_122 e) ?_
  refine Ex2 (fun _ _ e => Ev.icmp_ge (tgt := 145) d_FC_init_123 rfl (by decide) (by decide) (fun h => absurd h (by decide)) (fun _ => e)) ?_
  refine Ex2 (fun _ _ e => Ev.aload_n d_FC_init_126 rfl e) ?_
  refine Ex2 (fun _ _ e => Ev.gr 8 d_FC_init_127 lf_FC_60 rfl rfl (g.is (q := (3, 7, 0)) (by decide)) (by decide) (show σ.2.2.2.2 (c + 3) 8 = c + 24 from g.rf (q := (3, 8, 24)) (by decide)) e) ?_
  refine Ex2 (fun _ _ e => Ev.iload_n d_FC_init_130 rfl e) ?_
  refine Ex2 (fun _ _ e => Ev.new d_FC_init_131 ln_FC_58 (by decide) e) ?_
  rw [g.1]
  replace z := MZ.mz (a := c + 53) z rfl (fun j => by rw [mu_a (by omega), mu_a (by omega), mu_a (by omega), mu_a (by omega), mu_a (by omega), mu_a (by omega), mu_a (by omega), mu_a (by omega), mu_a (by omega), mu_a (by omega), mu_a (by omega), mu_a (by omega)]; rfl) (by omega) (show c + 53 + 1 = c + 54 by omega)
  replace ng := neg_sn (t := 4) (n := 0) (s := 3) ng (by rw [g.1]; omega)
  replace g := Gd.sn (t := 4) (n := 0) (s := 3) g (by omega) (by omega) (by decide) (show (53 : Int) + 1 = 54 from rfl)
  generalize sn σ 4 0 3 = σ at g ng ⊢
  generalize mz m (c + 53) = m at z ⊢
  refine Ex2 (fun _ _ e => Ev.dup d_FC_init_134 rfl e) ?_
  refine Ex2 (fun _ _ e => Ev.callINv d_FC_init_135 mt_Sh_init lk_FC_64 in_Sh_init rfl rfl rfl (Nat.le_of_ble_eq_true rfl) rfl (Nat.le_of_ble_eq_true rfl) (by decide) (by omega) rfl (c_Sh_init (a := c + 53) (x1 := c + 54) (g.is (q := (53, 4, 0)) (by decide)) g.1) e) ?_
  replace z := MZ.mz (a := c + 54) z rfl (fun j => by rw [mu_a (by omega), mu_a (by omega), mu_a (by omega), mu_a (by omega), mu_a (by omega), mu_a (by omega), mu_a (by omega), mu_a (by omega), mu_a (by omega), mu_a (by omega), mu_a (by omega), mu_a (by omega)]; rfl) (by omega) (show c + 54 + 1 = c + 55 by omega)
  replace ng := neg_sn (t := 100) (n := 60) (s := 60) ng (by rw [g.1]; omega)
  replace g := Gd.sn (t := 100) (n := 60) (s := 60) g (by omega) (by omega) (by decide) (show (54 : Int) + 1 = 55 from rfl)
  replace ng := neg_su (a := c + 53) (i := 0) (x := c + 54) ng (by omega)
  replace g := Gd.su (a := 53) (i := 0) (x := 54) g (by omega) (by decide)
  replace z := MZ.mu (a := c + 53) (i := 1) (x := (-1)) z (by omega)
  generalize su (sn σ 100 60 60) (c + 53) 0 (c + 54) = σ at g ng ⊢
  generalize mu (mz m (c + 54)) (c + 53) 1 (-1) = m at z ⊢
  refine Ex2 (fun _ _ e => Ev.aastore (c := 4) d_FC_init_138 (show Is _ (c + 24) (200 + 4) 4 from (g.is (q := (24, 204, 4)) (by decide))) (by omega) (by decide) (g.is (q := (53, 4, 0)) (by decide)) (by decide) e) ?_
  replace ng := neg_su (a := c + 24) (i := 2) (x := c + 53) ng (by omega)
  replace g := Gd.su (a := 24) (i := 2) (x := 53) g (by omega) (by decide)
  generalize su σ (c + 24) 2 (c + 53) = σ at g ng ⊢
  refine Ex2 (fun _ _ e => Ev.iinc_1 d_FC_init_139 rfl e) ?_
  rw [show (2 : Int) + 1 = 3 from rfl]
  refine Ex2 (fun _ _ e => Ev.goto (tgt := 121) d_FC_init_142 rfl e) ?_
  refine Ex2 (fun _ _ e => Ev.iload_n d_FC_init_121 rfl e) ?_
  refine Ex2 (fun _ _ e => Ev.iconst d_FC_init_122 e) ?_
  refine Ex2 (fun _ _ e => Ev.icmp_ge (tgt := 145) d_FC_init_123 rfl (by decide) (by decide) (fun h => absurd h (by decide)) (fun _ => e)) ?_
  refine Ex2 (fun _ _ e => Ev.aload_n d_FC_init_126 rfl e) ?_
  refine Ex2 (fun _ _ e => Ev.gr 8 d_FC_init_127 lf_FC_60 rfl rfl (g.is (q := (3, 7, 0)) (by decide)) (by decide) (show σ.2.2.2.2 (c + 3) 8 = c + 24 from g.rf (q := (3, 8, 24)) (by decide)) e) ?_
  refine Ex2 (fun _ _ e => Ev.iload_n d_FC_init_130 rfl e) ?_
  refine Ex2 (fun _ _ e => Ev.new d_FC_init_131 ln_FC_58 (by decide) e) ?_
  rw [g.1]
  replace z := MZ.mz (a := c + 55) z rfl (fun j => by rw [mu_a (by omega), mu_a (by omega), mu_a (by omega), mu_a (by omega), mu_a (by omega), mu_a (by omega), mu_a (by omega), mu_a (by omega), mu_a (by omega), mu_a (by omega), mu_a (by omega), mu_a (by omega), mu_a (by omega)]; rfl) (by omega) (show c + 55 + 1 = c + 56 by omega)
  replace ng := neg_sn (t := 4) (n := 0) (s := 3) ng (by rw [g.1]; omega)
  replace g := Gd.sn (t := 4) (n := 0) (s := 3) g (by omega) (by omega) (by decide) (show (55 : Int) + 1 = 56 from rfl)
  generalize sn σ 4 0 3 = σ at g ng ⊢
  generalize mz m (c + 55) = m at z ⊢
  refine Ex2 (fun _ _ e => Ev.dup d_FC_init_134 rfl e) ?_
  refine Ex2 (fun _ _ e => Ev.callINv d_FC_init_135 mt_Sh_init lk_FC_64 in_Sh_init rfl rfl rfl (Nat.le_of_ble_eq_true rfl) rfl (Nat.le_of_ble_eq_true rfl) (by decide) (by omega) rfl (c_Sh_init (a := c + 55) (x1 := c + 56) (g.is (q := (55, 4, 0)) (by decide)) g.1) e) ?_
  replace z := MZ.mz (a := c + 56) z rfl (fun j => by rw [mu_a (by omega), mu_a (by omega), mu_a (by omega), mu_a (by omega), mu_a (by omega), mu_a (by omega), mu_a (by omega), mu_a (by omega), mu_a (by omega), mu_a (by omega), mu_a (by omega), mu_a (by omega), mu_a (by omega)]; rfl) (by omega) (show c + 56 + 1 = c + 57 by omega)
  replace ng := neg_sn (t := 100) (n := 60) (s := 60) ng (by rw [g.1]; omega)
  replace g := Gd.sn (t := 100) (n := 60) (s := 60) g (by omega) (by omega) (by decide) (show (56 : Int) + 1 = 57 from rfl)
  replace ng := neg_su (a := c + 55) (i := 0) (x := c + 56) ng (by omega)
  replace g := Gd.su (a := 55) (i := 0) (x := 56) g (by omega) (by decide)
  replace z := MZ.mu (a := c + 55) (i := 1) (x := (-1)) z (by omega)
  generalize su (sn σ 100 60 60) (c + 55) 0 (c + 56) = σ at g ng ⊢
  generalize mu (mz m (c + 56)) (c + 55) 1 (-1) = m at z ⊢
  refine Ex2 (fun _ _ e => Ev.aastore (c := 4) d_FC_init_138 (show Is _ (c + 24) (200 + 4) 4 from (g.is (q := (24, 204, 4)) (by decide))) (by omega) (by decide) (g.is (q := (55, 4, 0)) (by decide)) (by decide) e) ?_
  replace ng := neg_su (a := c + 24) (i := 3) (x := c + 55) ng (by omega)
  replace g := Gd.su (a := 24) (i := 3) (x := 55) g (by omega) (by decide)
  generalize su σ (c + 24) 3 (c + 55) = σ at g ng ⊢
  refine Ex2 (fun _ _ e => Ev.iinc_1 d_FC_init_139 rfl e) ?_
  rw [show (3 : Int) + 1 = 4 from rfl]
  refine Ex2 (fun _ _ e => Ev.goto (tgt := 121) d_FC_init_142 rfl e) ?_
  refine Ex2 (fun _ _ e => Ev.iload_n d_FC_init_121 rfl e) ?_
  refine Ex2 (fun _ _ e => Ev.iconst d_FC_init_122 e) ?_
  refine Ex2 (fun _ _ e => Ev.icmp_ge (tgt := 145) d_FC_init_123 rfl (by decide) (by decide) (fun _ => e) (fun h => absurd h (by decide))) ?_
  exact ⟨σ, m, Ev.return d_FC_init_145 rfl, ⟨_, g, by omega⟩, z, ng⟩
theorem c_Mo_init {σ0 : Sg} {m0 : Mm} (hc : 0 ≤ c) (g : Gd (c + 57) c σ0 [(57, 8, 0)] [] 58 C σ) (z : MZ (c + 57) (c + 58) m0 zf m) : ∃ σ' m', Call 1 m_Mo_init [vr (c + 57)] σ m none σ' m' ∧ (∃ C', Gd (c + 57) c σ0 [(87, 100, 240), (86, 100, 4), (85, 100, 4), (84, 101, 8), (83, 100, 12), (82, 101, 1100), (81, 100, 1200), (80, 100, 100), (79, 100, 100), (78, 100, 12), (77, 100, 12), (76, 100, 80), (75, 101, 1295), (74, 100, 35), (73, 101, 35), (72, 101, 35), (71, 103, 35), (70, 100, 24), (69, 101, 60000), (68, 100, 10), (67, 100, 10), (66, 100, 10), (65, 100, 10), (64, 101, 37), (63, 101, 37), (62, 100, 54), (61, 100, 54), (60, 100, 54), (59, 100, 9), (58, 100, 9), (57, 8, 0)] [(57, 38, 87), (57, 37, 86), (57, 36, 85), (57, 35, 84), (57, 34, 83), (57, 31, 82), (57, 30, 81), (57, 29, 80), (57, 28, 79), (57, 26, 78), (57, 25, 77), (57, 21, 76), (57, 20, 75), (57, 19, 74), (57, 18, 73), (57, 17, 72), (57, 16, 71), (57, 15, 70), (57, 14, 69), (57, 12, 68), (57, 11, 67), (57, 10, 66), (57, 9, 65), (57, 7, 64), (57, 6, 63), (57, 5, 62), (57, 4, 61), (57, 3, 60), (57, 2, 59), (57, 1, 58)] 88 C' σ' ∧ C' ≤ C + 70000) ∧ MZ (c + 57) (c + 88) m0 (mu (mu (mu (mu zf (c + 85) 0 (-4)) (c + 85) 1 (-4)) (c + 85) 2 (-4)) (c + 85) 3 (-4)) m' := by
  show ∃ σ' m', Ev 1 m_Mo_init 0 [some (vr (c + 57))] [] σ m none σ' m' ∧ _
  refine Ex2 (fun _ _ e => Ev.aload_n d_Mo_init_0 rfl e) ?_
  refine Ex2 (fun _ _ e => Ev.objInit d_Mo_init_1 lk_Mo_1 in_obj cd_obj (by omega) rfl (Nat.le_of_ble_eq_true rfl) (by decide) e) ?_
  refine Ex2 (fun _ _ e => Ev.aload_n d_Mo_init_4 rfl e) ?_
  refine Ex2 (fun _ _ e => Ev.bipush d_Mo_init_5 rfl e) ?_
  refine Ex2 (fun _ _ e => Ev.newarray (t := 100) d_Mo_init_7 rfl rfl (by decide) ac_100 (by decide) (by decide) e) ?_
  rw [g.1]
  replace z := MZ.mz (a := c + 58) z rfl (fun j => rfl) (by omega) (show c + 58 + 1 = c + 59 by omega)
  replace g := Gd.sn (t := 100) (n := 9) (s := 9) g (by omega) (by omega) (by decide) (show (58 : Int) + 1 = 59 from rfl)
  generalize sn σ 100 9 9 = σ at g ⊢
  generalize mz m (c + 58) = m at z ⊢
  refine Ex2 (fun _ _ e => Ev.pr 1 d_Mo_init_9 lf_Mo_7 rfl rfl rfl rfl (g.is (q := (57, 8, 0)) (by decide)) (by decide) e) ?_
  replace g := Gd.su (a := 57) (i := 1) (x := 58) g (by omega) (by decide)
  generalize su σ (c + 57) 1 (c + 58) = σ at g ⊢
  refine Ex2 (fun _ _ e => Ev.aload_n d_Mo_init_12 rfl e) ?_
  refine Ex2 (fun _ _ e => Ev.bipush d_Mo_init_13 rfl e) ?_
  refine Ex2 (fun _ _ e => Ev.newarray (t := 100) d_Mo_init_15 rfl rfl (by decide) ac_100 (by decide) (by decide) e) ?_
  rw [g.1]
  replace z := MZ.mz (a := c + 59) z rfl (fun j => rfl) (by omega) (show c + 59 + 1 = c + 60 by omega)
  replace g := Gd.sn (t := 100) (n := 9) (s := 9) g (by omega) (by omega) (by decide) (show (59 : Int) + 1 = 60 from rfl)
  generalize sn σ 100 9 9 = σ at g ⊢
  generalize mz m (c + 59) = m at z ⊢
  refine Ex2 (fun _ _ e => Ev.pr 2 d_Mo_init_17 lf_Mo_13 rfl rfl rfl rfl (g.is (q := (57, 8, 0)) (by decide)) (by decide) e) ?_
  replace g := Gd.su (a := 57) (i := 2) (x := 59) g (by omega) (by decide)
  generalize su σ (c + 57) 2 (c + 59) = σ at g ⊢
  refine Ex2 (fun _ _ e => Ev.aload_n d_Mo_init_20 rfl e) ?_
  refine Ex2 (fun _ _ e => Ev.bipush d_Mo_init_21 rfl e) ?_
  refine Ex2 (fun _ _ e => Ev.newarray (t := 100) d_Mo_init_23 rfl rfl (by decide) ac_100 (by decide) (by decide) e) ?_
  rw [g.1]
  replace z := MZ.mz (a := c + 60) z rfl (fun j => rfl) (by omega) (show c + 60 + 1 = c + 61 by omega)
  replace g := Gd.sn (t := 100) (n := 54) (s := 54) g (by omega) (by omega) (by decide) (show (60 : Int) + 1 = 61 from rfl)
  generalize sn σ 100 54 54 = σ at g ⊢
  generalize mz m (c + 60) = m at z ⊢
  refine Ex2 (fun _ _ e => Ev.pr 3 d_Mo_init_25 lf_Mo_16 rfl rfl rfl rfl (g.is (q := (57, 8, 0)) (by decide)) (by decide) e) ?_
  replace g := Gd.su (a := 57) (i := 3) (x := 60) g (by omega) (by decide)
  generalize su σ (c + 57) 3 (c + 60) = σ at g ⊢
  refine Ex2 (fun _ _ e => Ev.aload_n d_Mo_init_28 rfl e) ?_
  refine Ex2 (fun _ _ e => Ev.bipush d_Mo_init_29 rfl e) ?_
  refine Ex2 (fun _ _ e => Ev.newarray (t := 100) d_Mo_init_31 rfl rfl (by decide) ac_100 (by decide) (by decide) e) ?_
  rw [g.1]
  replace z := MZ.mz (a := c + 61) z rfl (fun j => rfl) (by omega) (show c + 61 + 1 = c + 62 by omega)
  replace g := Gd.sn (t := 100) (n := 54) (s := 54) g (by omega) (by omega) (by decide) (show (61 : Int) + 1 = 62 from rfl)
  generalize sn σ 100 54 54 = σ at g ⊢
  generalize mz m (c + 61) = m at z ⊢
  refine Ex2 (fun _ _ e => Ev.pr 4 d_Mo_init_33 lf_Mo_19 rfl rfl rfl rfl (g.is (q := (57, 8, 0)) (by decide)) (by decide) e) ?_
  replace g := Gd.su (a := 57) (i := 4) (x := 61) g (by omega) (by decide)
  generalize su σ (c + 57) 4 (c + 61) = σ at g ⊢
  refine Ex2 (fun _ _ e => Ev.aload_n d_Mo_init_36 rfl e) ?_
  refine Ex2 (fun _ _ e => Ev.bipush d_Mo_init_37 rfl e) ?_
  refine Ex2 (fun _ _ e => Ev.newarray (t := 100) d_Mo_init_39 rfl rfl (by decide) ac_100 (by decide) (by decide) e) ?_
  rw [g.1]
  replace z := MZ.mz (a := c + 62) z rfl (fun j => rfl) (by omega) (show c + 62 + 1 = c + 63 by omega)
  replace g := Gd.sn (t := 100) (n := 54) (s := 54) g (by omega) (by omega) (by decide) (show (62 : Int) + 1 = 63 from rfl)
  generalize sn σ 100 54 54 = σ at g ⊢
  generalize mz m (c + 62) = m at z ⊢
  refine Ex2 (fun _ _ e => Ev.pr 5 d_Mo_init_41 lf_Mo_22 rfl rfl rfl rfl (g.is (q := (57, 8, 0)) (by decide)) (by decide) e) ?_
  replace g := Gd.su (a := 57) (i := 5) (x := 62) g (by omega) (by decide)
  generalize su σ (c + 57) 5 (c + 62) = σ at g ⊢
  refine Ex2 (fun _ _ e => Ev.aload_n d_Mo_init_44 rfl e) ?_
  refine Ex2 (fun _ _ e => Ev.bipush d_Mo_init_45 rfl e) ?_
  refine Ex2 (fun _ _ e => Ev.newarray (t := 101) d_Mo_init_47 rfl rfl (by decide) ac_101 (by decide) (by decide) e) ?_
  rw [g.1]
  replace z := MZ.mz (a := c + 63) z rfl (fun j => rfl) (by omega) (show c + 63 + 1 = c + 64 by omega)
  replace g := Gd.sn (t := 101) (n := 37) (s := 37) g (by omega) (by omega) (by decide) (show (63 : Int) + 1 = 64 from rfl)
  generalize sn σ 101 37 37 = σ at g ⊢
  generalize mz m (c + 63) = m at z ⊢
  refine Ex2 (fun _ _ e => Ev.pr 6 d_Mo_init_49 lf_Mo_25 rfl rfl rfl rfl (g.is (q := (57, 8, 0)) (by decide)) (by decide) e) ?_
  replace g := Gd.su (a := 57) (i := 6) (x := 63) g (by omega) (by decide)
  generalize su σ (c + 57) 6 (c + 63) = σ at g ⊢
  refine Ex2 (fun _ _ e => Ev.aload_n d_Mo_init_52 rfl e) ?_
  refine Ex2 (fun _ _ e => Ev.bipush d_Mo_init_53 rfl e) ?_
  refine Ex2 (fun _ _ e => Ev.newarray (t := 101) d_Mo_init_55 rfl rfl (by decide) ac_101 (by decide) (by decide) e) ?_
  rw [g.1]
  replace z := MZ.mz (a := c + 64) z rfl (fun j => rfl) (by omega) (show c + 64 + 1 = c + 65 by omega)
  replace g := Gd.sn (t := 101) (n := 37) (s := 37) g (by omega) (by omega) (by decide) (show (64 : Int) + 1 = 65 from rfl)
  generalize sn σ 101 37 37 = σ at g ⊢
  generalize mz m (c + 64) = m at z ⊢
  refine Ex2 (fun _ _ e => Ev.pr 7 d_Mo_init_57 lf_Mo_29 rfl rfl rfl rfl (g.is (q := (57, 8, 0)) (by decide)) (by decide) e) ?_
  replace g := Gd.su (a := 57) (i := 7) (x := 64) g (by omega) (by decide)
  generalize su σ (c + 57) 7 (c + 64) = σ at g ⊢
  refine Ex2 (fun _ _ e => Ev.aload_n d_Mo_init_60 rfl e) ?_
  refine Ex2 (fun _ _ e => Ev.bipush d_Mo_init_61 rfl e) ?_
  refine Ex2 (fun _ _ e => Ev.newarray (t := 100) d_Mo_init_63 rfl rfl (by decide) ac_100 (by decide) (by decide) e) ?_
  rw [g.1]
  replace z := MZ.mz (a := c + 65) z rfl (fun j => rfl) (by omega) (show c + 65 + 1 = c + 66 by omega)
  replace g := Gd.sn (t := 100) (n := 10) (s := 10) g (by omega) (by omega) (by decide) (show (65 : Int) + 1 = 66 from rfl)
  generalize sn σ 100 10 10 = σ at g ⊢
  generalize mz m (c + 65) = m at z ⊢
  refine Ex2 (fun _ _ e => Ev.pr 9 d_Mo_init_65 lf_Mo_32 rfl rfl rfl rfl (g.is (q := (57, 8, 0)) (by decide)) (by decide) e) ?_
  replace g := Gd.su (a := 57) (i := 9) (x := 65) g (by omega) (by decide)
  generalize su σ (c + 57) 9 (c + 65) = σ at g ⊢
  refine Ex2 (fun _ _ e => Ev.aload_n d_Mo_init_68 rfl e) ?_
  refine Ex2 (fun _ _ e => Ev.bipush d_Mo_init_69 rfl e) ?_
  refine Ex2 (fun _ _ e => Ev.newarray (t := 100) d_Mo_init_71 rfl rfl (by decide) ac_100 (by decide) (by decide) e) ?_
  rw [g.1]
  replace z := MZ.mz (a := c + 66) z rfl (fun j => rfl) (by omega) (show c + 66 + 1 = c + 67 by omega)
  replace g := Gd.sn (t := 100) (n := 10) (s := 10) g (by omega) (by omega) (by decide) (show (66 : Int) + 1 = 67 from rfl)
  generalize sn σ 100 10 10 = σ at g ⊢
  generalize mz m (c + 66) = m at z ⊢
  refine Ex2 (fun _ _ e => Ev.pr 10 d_Mo_init_73 lf_Mo_35 rfl rfl rfl rfl (g.is (q := (57, 8, 0)) (by decide)) (by decide) e) ?_
  replace g := Gd.su (a := 57) (i := 10) (x := 66) g (by omega) (by decide)
  generalize su σ (c + 57) 10 (c + 66) = σ at g ⊢
  refine Ex2 (fun _ _ e => Ev.aload_n d_Mo_init_76 rfl e) ?_
  refine Ex2 (fun _ _ e => Ev.bipush d_Mo_init_77 rfl e) ?_
  refine Ex2 (fun _ _ e => Ev.newarray (t := 100) d_Mo_init_79 rfl rfl (by decide) ac_100 (by decide) (by decide) e) ?_
  rw [g.1]
  replace z := MZ.mz (a := c + 67) z rfl (fun j => rfl) (by omega) (show c + 67 + 1 = c + 68 by omega)
  replace g := Gd.sn (t := 100) (n := 10) (s := 10) g (by omega) (by omega) (by decide) (show (67 : Int) + 1 = 68 from rfl)
  generalize sn σ 100 10 10 = σ at g ⊢
  generalize mz m (c + 67) = m at z ⊢
  refine Ex2 (fun _ _ e => Ev.pr 11 d_Mo_init_81 lf_Mo_38 rfl rfl rfl rfl (g.is (q := (57, 8, 0)) (by decide)) (by decide) e) ?_
  replace g := Gd.su (a := 57) (i := 11) (x := 67) g (by omega) (by decide)
  generalize su σ (c + 57) 11 (c + 67) = σ at g ⊢
  refine Ex2 (fun _ _ e => Ev.aload_n d_Mo_init_84 rfl e) ?_
  refine Ex2 (fun _ _ e => Ev.bipush d_Mo_init_85 rfl e) ?_
  refine Ex2 (fun _ _ e => Ev.newarray (t := 100) d_Mo_init_87 rfl rfl (by decide) ac_100 (by decide) (by decide) e) ?_
  rw [g.1]
  replace z := MZ.mz (a := c + 68) z rfl (fun j => rfl) (by omega) (show c + 68 + 1 = c + 69 by omega)
  replace g := Gd.sn (t := 100) (n := 10) (s := 10) g (by omega) (by omega) (by decide) (show (68 : Int) + 1 = 69 from rfl)
  generalize sn σ 100 10 10 = σ at g ⊢
  generalize mz m (c + 68) = m at z ⊢
  refine Ex2 (fun _ _ e => Ev.pr 12 d_Mo_init_89 lf_Mo_41 rfl rfl rfl rfl (g.is (q := (57, 8, 0)) (by decide)) (by decide) e) ?_
  replace g := Gd.su (a := 57) (i := 12) (x := 68) g (by omega) (by decide)
  generalize su σ (c + 57) 12 (c + 68) = σ at g ⊢
  refine Ex2 (fun _ _ e => Ev.aload_n d_Mo_init_92 rfl e) ?_
  refine Ex2 (fun _ _ e => Ev.ldc (x := 60000) d_Mo_init_93 ki_Mo_44 e) ?_
  refine Ex2 (fun _ _ e => Ev.newarray (t := 101) d_Mo_init_95 rfl rfl (by decide) ac_101 (by decide) (by decide) e) ?_
  rw [g.1]
  replace z := MZ.mz (a := c + 69) z rfl (fun j => rfl) (by omega) (show c + 69 + 1 = c + 70 by omega)
  replace g := Gd.sn (t := 101) (n := 60000) (s := 60000) g (by omega) (by omega) (by decide) (show (69 : Int) + 1 = 70 from rfl)
  generalize sn σ 101 60000 60000 = σ at g ⊢
  generalize mz m (c + 69) = m at z ⊢
  refine Ex2 (fun _ _ e => Ev.pr 14 d_Mo_init_97 lf_Mo_45 rfl rfl rfl rfl (g.is (q := (57, 8, 0)) (by decide)) (by decide) e) ?_
  replace g := Gd.su (a := 57) (i := 14) (x := 69) g (by omega) (by decide)
  generalize su σ (c + 57) 14 (c + 69) = σ at g ⊢
  refine Ex2 (fun _ _ e => Ev.aload_n d_Mo_init_100 rfl e) ?_
  refine Ex2 (fun _ _ e => Ev.bipush d_Mo_init_101 rfl e) ?_
  refine Ex2 (fun _ _ e => Ev.newarray (t := 100) d_Mo_init_103 rfl rfl (by decide) ac_100 (by decide) (by decide) e) ?_
  rw [g.1]
  replace z := MZ.mz (a := c + 70) z rfl (fun j => rfl) (by omega) (show c + 70 + 1 = c + 71 by omega)
  replace g := Gd.sn (t := 100) (n := 24) (s := 24) g (by omega) (by omega) (by decide) (show (70 : Int) + 1 = 71 from rfl)
  generalize sn σ 100 24 24 = σ at g ⊢
  generalize mz m (c + 70) = m at z ⊢
  refine Ex2 (fun _ _ e => Ev.pr 15 d_Mo_init_105 lf_Mo_48 rfl rfl rfl rfl (g.is (q := (57, 8, 0)) (by decide)) (by decide) e) ?_
  replace g := Gd.su (a := 57) (i := 15) (x := 70) g (by omega) (by decide)
  generalize su σ (c + 57) 15 (c + 70) = σ at g ⊢
  refine Ex2 (fun _ _ e => Ev.aload_n d_Mo_init_108 rfl e) ?_
  refine Ex2 (fun _ _ e => Ev.bipush d_Mo_init_109 rfl e) ?_
  refine Ex2 (fun _ _ e => Ev.newarray (t := 103) d_Mo_init_111 rfl rfl (by decide) ac_103 (by decide) (by decide) e) ?_
  rw [g.1]
  replace z := MZ.mz (a := c + 71) z rfl (fun j => rfl) (by omega) (show c + 71 + 1 = c + 72 by omega)
  replace g := Gd.sn (t := 103) (n := 35) (s := 35) g (by omega) (by omega) (by decide) (show (71 : Int) + 1 = 72 from rfl)
  generalize sn σ 103 35 35 = σ at g ⊢
  generalize mz m (c + 71) = m at z ⊢
  refine Ex2 (fun _ _ e => Ev.pr 16 d_Mo_init_113 lf_Mo_51 rfl rfl rfl rfl (g.is (q := (57, 8, 0)) (by decide)) (by decide) e) ?_
  replace g := Gd.su (a := 57) (i := 16) (x := 71) g (by omega) (by decide)
  generalize su σ (c + 57) 16 (c + 71) = σ at g ⊢
  refine Ex2 (fun _ _ e => Ev.aload_n d_Mo_init_116 rfl e) ?_
  refine Ex2 (fun _ _ e => Ev.bipush d_Mo_init_117 rfl e) ?_
  refine Ex2 (fun _ _ e => Ev.newarray (t := 101) d_Mo_init_119 rfl rfl (by decide) ac_101 (by decide) (by decide) e) ?_
  rw [g.1]
  replace z := MZ.mz (a := c + 72) z rfl (fun j => rfl) (by omega) (show c + 72 + 1 = c + 73 by omega)
  replace g := Gd.sn (t := 101) (n := 35) (s := 35) g (by omega) (by omega) (by decide) (show (72 : Int) + 1 = 73 from rfl)
  generalize sn σ 101 35 35 = σ at g ⊢
  generalize mz m (c + 72) = m at z ⊢
  refine Ex2 (fun _ _ e => Ev.pr 17 d_Mo_init_121 lf_Mo_55 rfl rfl rfl rfl (g.is (q := (57, 8, 0)) (by decide)) (by decide) e) ?_
  replace g := Gd.su (a := 57) (i := 17) (x := 72) g (by omega) (by decide)
  generalize su σ (c + 57) 17 (c + 72) = σ at g ⊢
  refine Ex2 (fun _ _ e => Ev.aload_n d_Mo_init_124 rfl e) ?_
  refine Ex2 (fun _ _ e => Ev.bipush d_Mo_init_125 rfl e) ?_
  refine Ex2 (fun _ _ e => Ev.newarray (t := 101) d_Mo_init_127 rfl rfl (by decide) ac_101 (by decide) (by decide) e) ?_
  rw [g.1]
  replace z := MZ.mz (a := c + 73) z rfl (fun j => rfl) (by omega) (show c + 73 + 1 = c + 74 by omega)
  replace g := Gd.sn (t := 101) (n := 35) (s := 35) g (by omega) (by omega) (by decide) (show (73 : Int) + 1 = 74 from rfl)
  generalize sn σ 101 35 35 = σ at g ⊢
  generalize mz m (c + 73) = m at z ⊢
  refine Ex2 (fun _ _ e => Ev.pr 18 d_Mo_init_129 lf_Mo_58 rfl rfl rfl rfl (g.is (q := (57, 8, 0)) (by decide)) (by decide) e) ?_
  replace g := Gd.su (a := 57) (i := 18) (x := 73) g (by omega) (by decide)
  generalize su σ (c + 57) 18 (c + 73) = σ at g ⊢
  refine Ex2 (fun _ _ e => Ev.aload_n d_Mo_init_132 rfl e) ?_
  refine Ex2 (fun _ _ e => Ev.bipush d_Mo_init_133 rfl e) ?_
  refine Ex2 (fun _ _ e => Ev.newarray (t := 100) d_Mo_init_135 rfl rfl (by decide) ac_100 (by decide) (by decide) e) ?_
  rw [g.1]
  replace z := MZ.mz (a := c + 74) z rfl (fun j => rfl) (by omega) (show c + 74 + 1 = c + 75 by omega)
  replace g := Gd.sn (t := 100) (n := 35) (s := 35) g (by omega) (by omega) (by decide) (show (74 : Int) + 1 = 75 from rfl)
  generalize sn σ 100 35 35 = σ at g ⊢
  generalize mz m (c + 74) = m at z ⊢
  refine Ex2 (fun _ _ e => Ev.pr 19 d_Mo_init_137 lf_Mo_61 rfl rfl rfl rfl (g.is (q := (57, 8, 0)) (by decide)) (by decide) e) ?_
  replace g := Gd.su (a := 57) (i := 19) (x := 74) g (by omega) (by decide)
  generalize su σ (c + 57) 19 (c + 74) = σ at g ⊢
  refine Ex2 (fun _ _ e => Ev.aload_n d_Mo_init_140 rfl e) ?_
  refine Ex2 (fun _ _ e => Ev.sipush d_Mo_init_141 rfl e) ?_
  refine Ex2 (fun _ _ e => Ev.newarray (t := 101) d_Mo_init_144 rfl rfl (by decide) ac_101 (by decide) (by decide) e) ?_
  rw [g.1]
  replace z := MZ.mz (a := c + 75) z rfl (fun j => rfl) (by omega) (show c + 75 + 1 = c + 76 by omega)
  replace g := Gd.sn (t := 101) (n := 1295) (s := 1295) g (by omega) (by omega) (by decide) (show (75 : Int) + 1 = 76 from rfl)
  generalize sn σ 101 1295 1295 = σ at g ⊢
  generalize mz m (c + 75) = m at z ⊢
  refine Ex2 (fun _ _ e => Ev.pr 20 d_Mo_init_146 lf_Mo_64 rfl rfl rfl rfl (g.is (q := (57, 8, 0)) (by decide)) (by decide) e) ?_
  replace g := Gd.su (a := 57) (i := 20) (x := 75) g (by omega) (by decide)
  generalize su σ (c + 57) 20 (c + 75) = σ at g ⊢
  refine Ex2 (fun _ _ e => Ev.aload_n d_Mo_init_149 rfl e) ?_
  refine Ex2 (fun _ _ e => Ev.bipush d_Mo_init_150 rfl e) ?_
  refine Ex2 (fun _ _ e => Ev.newarray (t := 100) d_Mo_init_152 rfl rfl (by decide) ac_100 (by decide) (by decide) e) ?_
  rw [g.1]
  replace z := MZ.mz (a := c + 76) z rfl (fun j => rfl) (by omega) (show c + 76 + 1 = c + 77 by omega)
  replace g := Gd.sn (t := 100) (n := 80) (s := 80) g (by omega) (by omega) (by decide) (show (76 : Int) + 1 = 77 from rfl)
  generalize sn σ 100 80 80 = σ at g ⊢
  generalize mz m (c + 76) = m at z ⊢
  refine Ex2 (fun _ _ e => Ev.pr 21 d_Mo_init_154 lf_Mo_67 rfl rfl rfl rfl (g.is (q := (57, 8, 0)) (by decide)) (by decide) e) ?_
  replace g := Gd.su (a := 57) (i := 21) (x := 76) g (by omega) (by decide)
  generalize su σ (c + 57) 21 (c + 76) = σ at g ⊢
  refine Ex2 (fun _ _ e => Ev.aload_n d_Mo_init_157 rfl e) ?_
  refine Ex2 (fun _ _ e => Ev.bipush d_Mo_init_158 rfl e) ?_
  refine Ex2 (fun _ _ e => Ev.newarray (t := 100) d_Mo_init_160 rfl rfl (by decide) ac_100 (by decide) (by decide) e) ?_
  rw [g.1]
  replace z := MZ.mz (a := c + 77) z rfl (fun j => rfl) (by omega) (show c + 77 + 1 = c + 78 by omega)
  replace g := Gd.sn (t := 100) (n := 12) (s := 12) g (by omega) (by omega) (by decide) (show (77 : Int) + 1 = 78 from rfl)
  generalize sn σ 100 12 12 = σ at g ⊢
  generalize mz m (c + 77) = m at z ⊢
  refine Ex2 (fun _ _ e => Ev.pr 25 d_Mo_init_162 lf_Mo_70 rfl rfl rfl rfl (g.is (q := (57, 8, 0)) (by decide)) (by decide) e) ?_
  replace g := Gd.su (a := 57) (i := 25) (x := 77) g (by omega) (by decide)
  generalize su σ (c + 57) 25 (c + 77) = σ at g ⊢
  refine Ex2 (fun _ _ e => Ev.aload_n d_Mo_init_165 rfl e) ?_
  refine Ex2 (fun _ _ e => Ev.bipush d_Mo_init_166 rfl e) ?_
  refine Ex2 (fun _ _ e => Ev.newarray (t := 100) d_Mo_init_168 rfl rfl (by decide) ac_100 (by decide) (by decide) e) ?_
  rw [g.1]
  replace z := MZ.mz (a := c + 78) z rfl (fun j => rfl) (by omega) (show c + 78 + 1 = c + 79 by omega)
  replace g := Gd.sn (t := 100) (n := 12) (s := 12) g (by omega) (by omega) (by decide) (show (78 : Int) + 1 = 79 from rfl)
  generalize sn σ 100 12 12 = σ at g ⊢
  generalize mz m (c + 78) = m at z ⊢
  refine Ex2 (fun _ _ e => Ev.pr 26 d_Mo_init_170 lf_Mo_73 rfl rfl rfl rfl (g.is (q := (57, 8, 0)) (by decide)) (by decide) e) ?_
  replace g := Gd.su (a := 57) (i := 26) (x := 78) g (by omega) (by decide)
  generalize su σ (c + 57) 26 (c + 78) = σ at g ⊢
  refine Ex2 (fun _ _ e => Ev.aload_n d_Mo_init_173 rfl e) ?_
  refine Ex2 (fun _ _ e => Ev.bipush d_Mo_init_174 rfl e) ?_
  refine Ex2 (fun _ _ e => Ev.newarray (t := 100) d_Mo_init_176 rfl rfl (by decide) ac_100 (by decide) (by decide) e) ?_
  rw [g.1]
  replace z := MZ.mz (a := c + 79) z rfl (fun j => rfl) (by omega) (show c + 79 + 1 = c + 80 by omega)
  replace g := Gd.sn (t := 100) (n := 100) (s := 100) g (by omega) (by omega) (by decide) (show (79 : Int) + 1 = 80 from rfl)
  generalize sn σ 100 100 100 = σ at g ⊢
  generalize mz m (c + 79) = m at z ⊢
  refine Ex2 (fun _ _ e => Ev.pr 28 d_Mo_init_178 lf_Mo_76 rfl rfl rfl rfl (g.is (q := (57, 8, 0)) (by decide)) (by decide) e) ?_
  replace g := Gd.su (a := 57) (i := 28) (x := 79) g (by omega) (by decide)
  generalize su σ (c + 57) 28 (c + 79) = σ at g ⊢
  refine Ex2 (fun _ _ e => Ev.aload_n d_Mo_init_181 rfl e) ?_
  refine Ex2 (fun _ _ e => Ev.bipush d_Mo_init_182 rfl e) ?_
  refine Ex2 (fun _ _ e => Ev.newarray (t := 100) d_Mo_init_184 rfl rfl (by decide) ac_100 (by decide) (by decide) e) ?_
  rw [g.1]
  replace z := MZ.mz (a := c + 80) z rfl (fun j => rfl) (by omega) (show c + 80 + 1 = c + 81 by omega)
  replace g := Gd.sn (t := 100) (n := 100) (s := 100) g (by omega) (by omega) (by decide) (show (80 : Int) + 1 = 81 from rfl)
  generalize sn σ 100 100 100 = σ at g ⊢
  generalize mz m (c + 80) = m at z ⊢
  refine Ex2 (fun _ _ e => Ev.pr 29 d_Mo_init_186 lf_Mo_79 rfl rfl rfl rfl (g.is (q := (57, 8, 0)) (by decide)) (by decide) e) ?_
  replace g := Gd.su (a := 57) (i := 29) (x := 80) g (by omega) (by decide)
  generalize su σ (c + 57) 29 (c + 80) = σ at g ⊢
  refine Ex2 (fun _ _ e => Ev.aload_n d_Mo_init_189 rfl e) ?_
  refine Ex2 (fun _ _ e => Ev.sipush d_Mo_init_190 rfl e) ?_
  refine Ex2 (fun _ _ e => Ev.newarray (t := 100) d_Mo_init_193 rfl rfl (by decide) ac_100 (by decide) (by decide) e) ?_
  rw [g.1]
  replace z := MZ.mz (a := c + 81) z rfl (fun j => rfl) (by omega) (show c + 81 + 1 = c + 82 by omega)
  replace g := Gd.sn (t := 100) (n := 1200) (s := 1200) g (by omega) (by omega) (by decide) (show (81 : Int) + 1 = 82 from rfl)
  generalize sn σ 100 1200 1200 = σ at g ⊢
  generalize mz m (c + 81) = m at z ⊢
  refine Ex2 (fun _ _ e => Ev.pr 30 d_Mo_init_195 lf_Mo_82 rfl rfl rfl rfl (g.is (q := (57, 8, 0)) (by decide)) (by decide) e) ?_
  replace g := Gd.su (a := 57) (i := 30) (x := 81) g (by omega) (by decide)
  generalize su σ (c + 57) 30 (c + 81) = σ at g ⊢
  refine Ex2 (fun _ _ e => Ev.aload_n d_Mo_init_198 rfl e) ?_
  refine Ex2 (fun _ _ e => Ev.sipush d_Mo_init_199 rfl e) ?_
  refine Ex2 (fun _ _ e => Ev.newarray (t := 101) d_Mo_init_202 rfl rfl (by decide) ac_101 (by decide) (by decide) e) ?_
  rw [g.1]
  replace z := MZ.mz (a := c + 82) z rfl (fun j => rfl) (by omega) (show c + 82 + 1 = c + 83 by omega)
  replace g := Gd.sn (t := 101) (n := 1100) (s := 1100) g (by omega) (by omega) (by decide) (show (82 : Int) + 1 = 83 from rfl)
  generalize sn σ 101 1100 1100 = σ at g ⊢
  generalize mz m (c + 82) = m at z ⊢
  refine Ex2 (fun _ _ e => Ev.pr 31 d_Mo_init_204 lf_Mo_85 rfl rfl rfl rfl (g.is (q := (57, 8, 0)) (by decide)) (by decide) e) ?_
  replace g := Gd.su (a := 57) (i := 31) (x := 82) g (by omega) (by decide)
  generalize su σ (c + 57) 31 (c + 82) = σ at g ⊢
  refine Ex2 (fun _ _ e => Ev.aload_n d_Mo_init_207 rfl e) ?_
  refine Ex2 (fun _ _ e => Ev.bipush d_Mo_init_208 rfl e) ?_
  refine Ex2 (fun _ _ e => Ev.newarray (t := 100) d_Mo_init_210 rfl rfl (by decide) ac_100 (by decide) (by decide) e) ?_
  rw [g.1]
  replace z := MZ.mz (a := c + 83) z rfl (fun j => rfl) (by omega) (show c + 83 + 1 = c + 84 by omega)
  replace g := Gd.sn (t := 100) (n := 12) (s := 12) g (by omega) (by omega) (by decide) (show (83 : Int) + 1 = 84 from rfl)
  generalize sn σ 100 12 12 = σ at g ⊢
  generalize mz m (c + 83) = m at z ⊢
  refine Ex2 (fun _ _ e => Ev.pr 34 d_Mo_init_212 lf_Mo_88 rfl rfl rfl rfl (g.is (q := (57, 8, 0)) (by decide)) (by decide) e) ?_
  replace g := Gd.su (a := 57) (i := 34) (x := 83) g (by omega) (by decide)
  generalize su σ (c + 57) 34 (c + 83) = σ at g ⊢
  refine Ex2 (fun _ _ e => Ev.aload_n d_Mo_init_215 rfl e) ?_
  refine Ex2 (fun _ _ e => Ev.bipush d_Mo_init_216 rfl e) ?_
  refine Ex2 (fun _ _ e => Ev.newarray (t := 101) d_Mo_init_218 rfl rfl (by decide) ac_101 (by decide) (by decide) e) ?_
  rw [g.1]
  replace z := MZ.mz (a := c + 84) z rfl (fun j => rfl) (by omega) (show c + 84 + 1 = c + 85 by omega)
  replace g := Gd.sn (t := 101) (n := 8) (s := 8) g (by omega) (by omega) (by decide) (show (84 : Int) + 1 = 85 from rfl)
  generalize sn σ 101 8 8 = σ at g ⊢
  generalize mz m (c + 84) = m at z ⊢
  refine Ex2 (fun _ _ e => Ev.pr 35 d_Mo_init_220 lf_Mo_91 rfl rfl rfl rfl (g.is (q := (57, 8, 0)) (by decide)) (by decide) e) ?_
  replace g := Gd.su (a := 57) (i := 35) (x := 84) g (by omega) (by decide)
  generalize su σ (c + 57) 35 (c + 84) = σ at g ⊢
  refine Ex2 (fun _ _ e => Ev.aload_n d_Mo_init_223 rfl e) ?_
  refine Ex2 (fun _ _ e => Ev.iconst d_Mo_init_224 e) ?_
  refine Ex2 (fun _ _ e => Ev.newarray (t := 100) d_Mo_init_225 rfl rfl (by decide) ac_100 (by decide) (by decide) e) ?_
  rw [g.1]
  replace z := MZ.mz (a := c + 85) z rfl (fun j => rfl) (by omega) (show c + 85 + 1 = c + 86 by omega)
  replace g := Gd.sn (t := 100) (n := 4) (s := 4) g (by omega) (by omega) (by decide) (show (85 : Int) + 1 = 86 from rfl)
  generalize sn σ 100 4 4 = σ at g ⊢
  generalize mz m (c + 85) = m at z ⊢
  refine Ex2 (fun _ _ e => Ev.dup d_Mo_init_227 rfl e) ?_
  refine Ex2 (fun _ _ e => Ev.iconst d_Mo_init_228 e) ?_
  refine Ex2 (fun _ _ e => Ev.bipush d_Mo_init_229 rfl e) ?_
  refine Ex2 (fun _ _ e => Ev.iastore d_Mo_init_231 (g.is (q := (85, 100, 4)) (by decide)) (by omega) (by decide) e) ?_
  replace z := MZ.mu (a := c + 85) (i := 0) (x := (-4)) z (by omega)
  generalize mu m (c + 85) 0 (-4) = m at z ⊢
  refine Ex2 (fun _ _ e => Ev.dup d_Mo_init_232 rfl e) ?_
  refine Ex2 (fun _ _ e => Ev.iconst d_Mo_init_233 e) ?_
  refine Ex2 (fun _ _ e => Ev.bipush d_Mo_init_234 rfl e) ?_
  refine Ex2 (fun _ _ e => Ev.iastore d_Mo_init_236 (g.is (q := (85, 100, 4)) (by decide)) (by omega) (by decide) e) ?_
  replace z := MZ.mu (a := c + 85) (i := 1) (x := (-4)) z (by omega)
  generalize mu m (c + 85) 1 (-4) = m at z ⊢
  refine Ex2 (fun _ _ e => Ev.dup d_Mo_init_237 rfl e) ?_
  refine Ex2 (fun _ _ e => Ev.iconst d_Mo_init_238 e) ?_
  refine Ex2 (fun _ _ e => Ev.bipush d_Mo_init_239 rfl e) ?_
  refine Ex2 (fun _ _ e => Ev.iastore d_Mo_init_241 (g.is (q := (85, 100, 4)) (by decide)) (by omega) (by decide) e) ?_
  replace z := MZ.mu (a := c + 85) (i := 2) (x := (-4)) z (by omega)
  generalize mu m (c + 85) 2 (-4) = m at z ⊢
  refine Ex2 (fun _ _ e => Ev.dup d_Mo_init_242 rfl e) ?_
  refine Ex2 (fun _ _ e => Ev.iconst d_Mo_init_243 e) ?_
  refine Ex2 (fun _ _ e => Ev.bipush d_Mo_init_244 rfl e) ?_
  refine Ex2 (fun _ _ e => Ev.iastore d_Mo_init_246 (g.is (q := (85, 100, 4)) (by decide)) (by omega) (by decide) e) ?_
  replace z := MZ.mu (a := c + 85) (i := 3) (x := (-4)) z (by omega)
  generalize mu m (c + 85) 3 (-4) = m at z ⊢
  refine Ex2 (fun _ _ e => Ev.pr 36 d_Mo_init_247 lf_Mo_94 rfl rfl rfl rfl (g.is (q := (57, 8, 0)) (by decide)) (by decide) e) ?_
  replace g := Gd.su (a := 57) (i := 36) (x := 85) g (by omega) (by decide)
  generalize su σ (c + 57) 36 (c + 85) = σ at g ⊢
  refine Ex2 (fun _ _ e => Ev.aload_n d_Mo_init_250 rfl e) ?_
  refine Ex2 (fun _ _ e => Ev.iconst d_Mo_init_251 e) ?_
  refine Ex2 (fun _ _ e => Ev.newarray (t := 100) d_Mo_init_252 rfl rfl (by decide) ac_100 (by decide) (by decide) e) ?_
  rw [g.1]
  replace z := MZ.mz (a := c + 86) z rfl (fun j => by rw [mu_a (by omega), mu_a (by omega), mu_a (by omega), mu_a (by omega)]; rfl) (by omega) (show c + 86 + 1 = c + 87 by omega)
  replace g := Gd.sn (t := 100) (n := 4) (s := 4) g (by omega) (by omega) (by decide) (show (86 : Int) + 1 = 87 from rfl)
  generalize sn σ 100 4 4 = σ at g ⊢
  generalize mz m (c + 86) = m at z ⊢
  refine Ex2 (fun _ _ e => Ev.pr 37 d_Mo_init_254 lf_Mo_97 rfl rfl rfl rfl (g.is (q := (57, 8, 0)) (by decide)) (by decide) e) ?_
  replace g := Gd.su (a := 57) (i := 37) (x := 86) g (by omega) (by decide)
  generalize su σ (c + 57) 37 (c + 86) = σ at g ⊢
  refine Ex2 (fun _ _ e => Ev.aload_n d_Mo_init_257 rfl e) ?_
  refine Ex2 (fun _ _ e => Ev.sipush d_Mo_init_258 rfl e) ?_
  refine Ex2 (fun _ _ e => Ev.newarray (t := 100) d_Mo_init_261 rfl rfl (by decide) ac_100 (by decide) (by decide) e) ?_
  rw [g.1]
  replace z := MZ.mz (a := c + 87) z rfl (fun j => by rw [mu_a (by omega), mu_a (by omega), mu_a (by omega), mu_a (by omega)]; rfl) (by omega) (show c + 87 + 1 = c + 88 by omega)
  replace g := Gd.sn (t := 100) (n := 240) (s := 240) g (by omega) (by omega) (by decide) (show (87 : Int) + 1 = 88 from rfl)
  generalize sn σ 100 240 240 = σ at g ⊢
  generalize mz m (c + 87) = m at z ⊢
  refine Ex2 (fun _ _ e => Ev.pr 38 d_Mo_init_263 lf_Mo_100 rfl rfl rfl rfl (g.is (q := (57, 8, 0)) (by decide)) (by decide) e) ?_
  replace g := Gd.su (a := 57) (i := 38) (x := 87) g (by omega) (by decide)
  generalize su σ (c + 57) 38 (c + 87) = σ at g ⊢
  exact ⟨σ, m, Ev.return d_Mo_init_266 rfl, ⟨_, g, by omega⟩, z⟩
end
