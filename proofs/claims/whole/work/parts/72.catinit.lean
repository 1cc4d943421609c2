/-! a catalogue made -/
section
variable {σ : Sg} {m : Mm}
theorem c_Cat_init {c d C : Int} {σ0 : Sg} {m0 : Mm} (hc : 88 ≤ c) (hd : 1 ≤ d ∧ d ≤ 4) (hR : SR σ m0) (hlt : c < σ0.1 + 1) (g : Gd c c σ0 [(0, 0, 0)] [] 1 C σ) (z : MZ c (c + 1) m0 zf m) : ∃ σ' m', Call 89 m_Cat_init [vr (c + 0), vi d] σ m none σ' m' ∧ CatS σ' c ∧ CatM m' c d (RL d) ∧ σ'.1 = c + 18 ∧ σ'.2.1 ≤ C + 1000 ∧ (∀ b, b < c → σ'.2.2.1 b = σ0.2.2.1 b ∧ σ'.2.2.2.1 b = σ0.2.2.2.1 b ∧ ∀ i, σ'.2.2.2.2 b i = σ0.2.2.2.2 b i) ∧ (∀ b j, b < c → m' b j = m0 b j) := by
  show ∃ σ' m', Ev 89 m_Cat_init 0 [some (vr (c + 0)), some (vi d)] [] σ m none σ' m' ∧ _
  have hR1 := hR.1
  have hR2 := hR.2.1
  have hT1 : σ.2.2.1 1 = 100 ∧ σ.2.2.2.1 1 = 6 := ⟨hR.1.2.2.1, hR.1.2.2.2⟩
  have hT2 : σ.2.2.1 2 = 100 ∧ σ.2.2.2.1 2 = 6 := ⟨hR.2.1.2.2.1, hR.2.1.2.2.2⟩
  have o1 := g.2.2.2.2 1 (by omega)
  have o2 := g.2.2.2.2 2 (by omega)
  rw [hT1.1, hT1.2] at o1
  rw [hT2.1, hT2.2] at o2
  have hR3 := hR.2.2.1
  have hR4 := hR.2.2.2
  clear hR hR1 hR2 hT1 hT2
  refine Ex2 (fun _ _ e => Ev.aload_n d_Cat_init_0 rfl e) ?_
  refine Ex2 (fun _ _ e => Ev.objInit d_Cat_init_1 lk_Cat_3 in_obj cd_obj (by omega) rfl (Nat.le_of_ble_eq_true rfl) (by decide) e) ?_
  refine Ex2 (fun _ _ e => Ev.aload_n d_Cat_init_4 rfl e) ?_
  refine Ex2 (fun _ _ e => Ev.new d_Cat_init_5 ln_Cat_9 (by decide) e) ?_
  rw [g.1]
  replace z := MZ.mz (a := c + 1) z rfl (fun j => rfl) (by omega) (show c + 1 + 1 = c + 2 by omega)
  replace g := Gd.sn (t := 2) (n := 0) (s := 4) g (by omega) (by omega) (by decide) (show (1 : Int) + 1 = 2 from rfl)
  generalize sn σ 2 0 4 = σ at g ⊢
  generalize mz m (c + 1) = m at z ⊢
  refine Ex2 (fun _ _ e => Ev.dup d_Cat_init_8 rfl e) ?_
  refine Ex2 (fun _ _ e => Ev.callINv d_Cat_init_9 mt_Pic_init lk_Cat_11 in_Pic_init rfl rfl rfl (Nat.le_of_ble_eq_true rfl) rfl (Nat.le_of_ble_eq_true rfl) (by decide) (by omega) rfl (c_Pic_init (a := c + 1) (x1 := c + 2) (x2 := c + 3) (g.is (q := (1, 2, 0)) (by decide)) g.1 (by omega)) e) ?_
  replace z := MZ.mu (a := c + 1) (i := 0) (x := 1) z (by omega)
  replace z := MZ.mz (a := c + 2) z rfl (fun j => by rw [mu_a (by omega)]; rfl) (by omega) (show c + 2 + 1 = c + 3 by omega)
  replace g := Gd.sn (t := 100) (n := 24) (s := 24) g (by omega) (by omega) (by decide) (show (2 : Int) + 1 = 3 from rfl)
  replace g := Gd.su (a := 1) (i := 2) (x := 2) g (by omega) (by decide)
  replace z := MZ.mz (a := c + 3) z rfl (fun j => by rw [mu_a (by omega)]; rfl) (by omega) (show c + 3 + 1 = c + 4 by omega)
  replace g := Gd.sn (t := 100) (n := 4) (s := 4) g (by omega) (by omega) (by decide) (show (3 : Int) + 1 = 4 from rfl)
  replace g := Gd.su (a := 1) (i := 3) (x := 3) g (by omega) (by decide)
  generalize su (sn (su (sn σ 100 24 24) (c + 1) 2 (c + 2)) 100 4 4) (c + 1) 3 (c + 3) = σ at g ⊢
  generalize mz (mz (mu m (c + 1) 0 1) (c + 2)) (c + 3) = m at z ⊢
  refine Ex2 (fun _ _ e => Ev.pr 1 d_Cat_init_12 lf_Cat_12 rfl rfl rfl rfl (g.is (q := (0, 0, 0)) (by decide)) (by decide) e) ?_
  replace g := Gd.su (a := 0) (i := 1) (x := 1) g (by omega) (by decide)
  generalize su σ (c + 0) 1 (c + 1) = σ at g ⊢
  refine Ex2 (fun _ _ e => Ev.aload_n d_Cat_init_15 rfl e) ?_
  refine Ex2 (fun _ _ e => Ev.new d_Cat_init_16 ln_Cat_18 (by decide) e) ?_
  rw [g.1]
  replace z := MZ.mz (a := c + 4) z rfl (fun j => by rw [mu_a (by omega)]; rfl) (by omega) (show c + 4 + 1 = c + 5 by omega)
  replace g := Gd.sn (t := 1) (n := 0) (s := 7) g (by omega) (by omega) (by decide) (show (4 : Int) + 1 = 5 from rfl)
  generalize sn σ 1 0 7 = σ at g ⊢
  generalize mz m (c + 4) = m at z ⊢
  refine Ex2 (fun _ _ e => Ev.dup d_Cat_init_19 rfl e) ?_
  refine Ex2 (fun _ _ e => Ev.callINv d_Cat_init_20 mt_Mk_init lk_Cat_20 in_Mk_init rfl rfl rfl (Nat.le_of_ble_eq_true rfl) rfl (Nat.le_of_ble_eq_true rfl) (by decide) (by omega) rfl (c_Mk_init (a := c + 4) (x1 := c + 5) (x2 := c + 6) (x3 := c + 7) (x4 := c + 8) (g.is (q := (4, 1, 0)) (by decide)) g.1 (by omega) (by omega) (by omega)) e) ?_
  replace z := MZ.mz (a := c + 5) z rfl (fun j => by rw [mu_a (by omega)]; rfl) (by omega) (show c + 5 + 1 = c + 6 by omega)
  replace g := Gd.sn (t := 100) (n := 10) (s := 10) g (by omega) (by omega) (by decide) (show (5 : Int) + 1 = 6 from rfl)
  replace g := Gd.su (a := 4) (i := 0) (x := 5) g (by omega) (by decide)
  replace z := MZ.mz (a := c + 6) z rfl (fun j => by rw [mu_a (by omega)]; rfl) (by omega) (show c + 6 + 1 = c + 7 by omega)
  replace g := Gd.sn (t := 100) (n := 10) (s := 10) g (by omega) (by omega) (by decide) (show (6 : Int) + 1 = 7 from rfl)
  replace g := Gd.su (a := 4) (i := 1) (x := 6) g (by omega) (by decide)
  replace z := MZ.mz (a := c + 7) z rfl (fun j => by rw [mu_a (by omega)]; rfl) (by omega) (show c + 7 + 1 = c + 8 by omega)
  replace g := Gd.sn (t := 100) (n := 10) (s := 10) g (by omega) (by omega) (by decide) (show (7 : Int) + 1 = 8 from rfl)
  replace g := Gd.su (a := 4) (i := 2) (x := 7) g (by omega) (by decide)
  replace z := MZ.mz (a := c + 8) z rfl (fun j => by rw [mu_a (by omega)]; rfl) (by omega) (show c + 8 + 1 = c + 9 by omega)
  replace g := Gd.sn (t := 100) (n := 4) (s := 4) g (by omega) (by omega) (by decide) (show (8 : Int) + 1 = 9 from rfl)
  replace g := Gd.su (a := 4) (i := 3) (x := 8) g (by omega) (by decide)
  generalize su (sn (su (sn (su (sn (su (sn σ 100 10 10) (c + 4) 0 (c + 5)) 100 10 10) (c + 4) 1 (c + 6)) 100 10 10) (c + 4) 2 (c + 7)) 100 4 4) (c + 4) 3 (c + 8) = σ at g ⊢
  generalize mz (mz (mz (mz m (c + 5)) (c + 6)) (c + 7)) (c + 8) = m at z ⊢
  refine Ex2 (fun _ _ e => Ev.pr 2 d_Cat_init_23 lf_Cat_21 rfl rfl rfl rfl (g.is (q := (0, 0, 0)) (by decide)) (by decide) e) ?_
  replace g := Gd.su (a := 0) (i := 2) (x := 4) g (by omega) (by decide)
  generalize su σ (c + 0) 2 (c + 4) = σ at g ⊢
  refine Ex2 (fun _ _ e => Ev.aload_n d_Cat_init_26 rfl e) ?_
  refine Ex2 (fun _ _ e => Ev.new d_Cat_init_27 ln_Cat_25 (by decide) e) ?_
  rw [g.1]
  replace z := MZ.mz (a := c + 9) z rfl (fun j => by rw [mu_a (by omega)]; rfl) (by omega) (show c + 9 + 1 = c + 10 by omega)
  replace g := Gd.sn (t := 3) (n := 0) (s := 3) g (by omega) (by omega) (by decide) (show (9 : Int) + 1 = 10 from rfl)
  generalize sn σ 3 0 3 = σ at g ⊢
  generalize mz m (c + 9) = m at z ⊢
  refine Ex2 (fun _ _ e => Ev.dup d_Cat_init_30 rfl e) ?_
  refine Ex2 (fun _ _ e => Ev.callINv d_Cat_init_31 mt_Pow_init lk_Cat_27 in_Pow_init rfl rfl rfl (Nat.le_of_ble_eq_true rfl) rfl (Nat.le_of_ble_eq_true rfl) (by decide) (by omega) rfl (c_Pow_init (a := c + 9) (x1 := c + 10) (x2 := c + 11) (g.is (q := (9, 3, 0)) (by decide)) g.1 (by omega)) e) ?_
  replace z := MZ.mz (a := c + 10) z rfl (fun j => by rw [mu_a (by omega)]; rfl) (by omega) (show c + 10 + 1 = c + 11 by omega)
  replace g := Gd.sn (t := 101) (n := 37) (s := 37) g (by omega) (by omega) (by decide) (show (10 : Int) + 1 = 11 from rfl)
  replace g := Gd.su (a := 9) (i := 0) (x := 10) g (by omega) (by decide)
  replace z := MZ.mz (a := c + 11) z rfl (fun j => by rw [mu_a (by omega)]; rfl) (by omega) (show c + 11 + 1 = c + 12 by omega)
  replace g := Gd.sn (t := 101) (n := 37) (s := 37) g (by omega) (by omega) (by decide) (show (11 : Int) + 1 = 12 from rfl)
  replace g := Gd.su (a := 9) (i := 1) (x := 11) g (by omega) (by decide)
  generalize su (sn (su (sn σ 101 37 37) (c + 9) 0 (c + 10)) 101 37 37) (c + 9) 1 (c + 11) = σ at g ⊢
  generalize mz (mz m (c + 10)) (c + 11) = m at z ⊢
  refine Ex2 (fun _ _ e => Ev.pr 3 d_Cat_init_34 lf_Cat_28 rfl rfl rfl rfl (g.is (q := (0, 0, 0)) (by decide)) (by decide) e) ?_
  replace g := Gd.su (a := 0) (i := 3) (x := 9) g (by omega) (by decide)
  generalize su σ (c + 0) 3 (c + 9) = σ at g ⊢
  refine Ex2 (fun _ _ e => Ev.aload_n d_Cat_init_37 rfl e) ?_
  refine Ex2 (fun _ _ e => Ev.bipush d_Cat_init_38 rfl e) ?_
  refine Ex2 (fun _ _ e => Ev.newarray (t := 101) d_Cat_init_40 rfl rfl (by decide) ac_101 (by decide) (by decide) e) ?_
  rw [g.1]
  replace z := MZ.mz (a := c + 12) z rfl (fun j => by rw [mu_a (by omega)]; rfl) (by omega) (show c + 12 + 1 = c + 13 by omega)
  replace g := Gd.sn (t := 101) (n := 61) (s := 61) g (by omega) (by omega) (by decide) (show (12 : Int) + 1 = 13 from rfl)
  generalize sn σ 101 61 61 = σ at g ⊢
  generalize mz m (c + 12) = m at z ⊢
  refine Ex2 (fun _ _ e => Ev.pr 4 d_Cat_init_42 lf_Cat_32 rfl rfl rfl rfl (g.is (q := (0, 0, 0)) (by decide)) (by decide) e) ?_
  replace g := Gd.su (a := 0) (i := 4) (x := 12) g (by omega) (by decide)
  generalize su σ (c + 0) 4 (c + 12) = σ at g ⊢
  refine Ex2 (fun _ _ e => Ev.aload_n d_Cat_init_45 rfl e) ?_
  refine Ex2 (fun _ _ e => Ev.bipush d_Cat_init_46 rfl e) ?_
  refine Ex2 (fun _ _ e => Ev.newarray (t := 100) d_Cat_init_48 rfl rfl (by decide) ac_100 (by decide) (by decide) e) ?_
  rw [g.1]
  replace z := MZ.mz (a := c + 13) z rfl (fun j => by rw [mu_a (by omega)]; rfl) (by omega) (show c + 13 + 1 = c + 14 by omega)
  replace g := Gd.sn (t := 100) (n := 61) (s := 61) g (by omega) (by omega) (by decide) (show (13 : Int) + 1 = 14 from rfl)
  generalize sn σ 100 61 61 = σ at g ⊢
  generalize mz m (c + 13) = m at z ⊢
  refine Ex2 (fun _ _ e => Ev.pr 5 d_Cat_init_50 lf_Cat_36 rfl rfl rfl rfl (g.is (q := (0, 0, 0)) (by decide)) (by decide) e) ?_
  replace g := Gd.su (a := 0) (i := 5) (x := 13) g (by omega) (by decide)
  generalize su σ (c + 0) 5 (c + 13) = σ at g ⊢
  refine Ex2 (fun _ _ e => Ev.aload_n d_Cat_init_53 rfl e) ?_
  refine Ex2 (fun _ _ e => Ev.bipush d_Cat_init_54 rfl e) ?_
  refine Ex2 (fun _ _ e => Ev.newarray (t := 100) d_Cat_init_56 rfl rfl (by decide) ac_100 (by decide) (by decide) e) ?_
  rw [g.1]
  replace z := MZ.mz (a := c + 14) z rfl (fun j => by rw [mu_a (by omega)]; rfl) (by omega) (show c + 14 + 1 = c + 15 by omega)
  replace g := Gd.sn (t := 100) (n := 7) (s := 7) g (by omega) (by omega) (by decide) (show (14 : Int) + 1 = 15 from rfl)
  generalize sn σ 100 7 7 = σ at g ⊢
  generalize mz m (c + 14) = m at z ⊢
  refine Ex2 (fun _ _ e => Ev.pr 6 d_Cat_init_58 lf_Cat_40 rfl rfl rfl rfl (g.is (q := (0, 0, 0)) (by decide)) (by decide) e) ?_
  replace g := Gd.su (a := 0) (i := 6) (x := 14) g (by omega) (by decide)
  generalize su σ (c + 0) 6 (c + 14) = σ at g ⊢
  refine Ex2 (fun _ _ e => Ev.aload_n d_Cat_init_61 rfl e) ?_
  refine Ex2 (fun _ _ e => Ev.bipush d_Cat_init_62 rfl e) ?_
  refine Ex2 (fun _ _ e => Ev.newarray (t := 101) d_Cat_init_64 rfl rfl (by decide) ac_101 (by decide) (by decide) e) ?_
  rw [g.1]
  replace z := MZ.mz (a := c + 15) z rfl (fun j => by rw [mu_a (by omega)]; rfl) (by omega) (show c + 15 + 1 = c + 16 by omega)
  replace g := Gd.sn (t := 101) (n := 7) (s := 7) g (by omega) (by omega) (by decide) (show (15 : Int) + 1 = 16 from rfl)
  generalize sn σ 101 7 7 = σ at g ⊢
  generalize mz m (c + 15) = m at z ⊢
  refine Ex2 (fun _ _ e => Ev.pr 7 d_Cat_init_66 lf_Cat_43 rfl rfl rfl rfl (g.is (q := (0, 0, 0)) (by decide)) (by decide) e) ?_
  replace g := Gd.su (a := 0) (i := 7) (x := 15) g (by omega) (by decide)
  generalize su σ (c + 0) 7 (c + 15) = σ at g ⊢
  refine Ex2 (fun _ _ e => Ev.aload_n d_Cat_init_69 rfl e) ?_
  refine Ex2 (fun _ _ e => Ev.bipush d_Cat_init_70 rfl e) ?_
  refine Ex2 (fun _ _ e => Ev.newarray (t := 101) d_Cat_init_72 rfl rfl (by decide) ac_101 (by decide) (by decide) e) ?_
  rw [g.1]
  replace z := MZ.mz (a := c + 16) z rfl (fun j => by rw [mu_a (by omega)]; rfl) (by omega) (show c + 16 + 1 = c + 17 by omega)
  replace g := Gd.sn (t := 101) (n := 7) (s := 7) g (by omega) (by omega) (by decide) (show (16 : Int) + 1 = 17 from rfl)
  generalize sn σ 101 7 7 = σ at g ⊢
  generalize mz m (c + 16) = m at z ⊢
  refine Ex2 (fun _ _ e => Ev.pr 8 d_Cat_init_74 lf_Cat_46 rfl rfl rfl rfl (g.is (q := (0, 0, 0)) (by decide)) (by decide) e) ?_
  replace g := Gd.su (a := 0) (i := 8) (x := 16) g (by omega) (by decide)
  generalize su σ (c + 0) 8 (c + 16) = σ at g ⊢
  refine Ex2 (fun _ _ e => Ev.aload_n d_Cat_init_77 rfl e) ?_
  refine Ex2 (fun _ _ e => Ev.sipush d_Cat_init_78 rfl e) ?_
  refine Ex2 (fun _ _ e => Ev.newarray (t := 101) d_Cat_init_81 rfl rfl (by decide) ac_101 (by decide) (by decide) e) ?_
  rw [g.1]
  replace z := MZ.mz (a := c + 17) z rfl (fun j => by rw [mu_a (by omega)]; rfl) (by omega) (show c + 17 + 1 = c + 18 by omega)
  replace g := Gd.sn (t := 101) (n := 259) (s := 259) g (by omega) (by omega) (by decide) (show (17 : Int) + 1 = 18 from rfl)
  generalize sn σ 101 259 259 = σ at g ⊢
  generalize mz m (c + 17) = m at z ⊢
  refine Ex2 (fun _ _ e => Ev.pr 9 d_Cat_init_83 lf_Cat_49 rfl rfl rfl rfl (g.is (q := (0, 0, 0)) (by decide)) (by decide) e) ?_
  replace g := Gd.su (a := 0) (i := 9) (x := 17) g (by omega) (by decide)
  generalize su σ (c + 0) 9 (c + 17) = σ at g ⊢
  refine Ex2 (fun _ _ e => Ev.aload_n d_Cat_init_86 rfl e) ?_
  refine Ex2 (fun _ _ e => Ev.iload_n d_Cat_init_87 rfl e) ?_
  refine Ex2 (fun _ _ e => Ev.pf 0 d_Cat_init_88 lf_Cat_52 rfl rfl rfl rfl (g.is (q := (0, 0, 0)) (by decide)) (by decide) e) ?_
  replace z := MZ.mu (a := c + 0) (i := 0) (x := d) z (by omega)
  generalize mu m (c + 0) 0 d = m at z ⊢
  have hs1 : SR σ m := ⟨⟨by decide, by rw [g.1]; omega, (g.2.2.2.2 1 (by omega)).1.trans o1.1.symm, (g.2.2.2.2 1 (by omega)).2.1.trans o1.2.1.symm⟩, ⟨by decide, by rw [g.1]; omega, (g.2.2.2.2 2 (by omega)).1.trans o2.1.symm, (g.2.2.2.2 2 (by omega)).2.1.trans o2.2.1.symm⟩, fun j a b => (z.1 1 j (by omega)).trans (hR3 j a b), fun j a b => (z.1 2 j (by omega)).trans (hR4 j a b)⟩
  have hC : CatS σ c := ⟨⟨by omega, (by have := (show Is σ (c + 0) 0 0 from g.is (q := (0, 0, 0)) (by decide)); rwa [Int.add_zero] at this)⟩, ⟨⟨by omega, (show Is σ (c + 1) 2 0 from g.is (q := (1, 2, 0)) (by decide)), (by rw [show c + 1 + 1 = c + 2 by omega]; exact (show Is σ (c + 2) 100 24 from g.is (q := (2, 100, 24)) (by decide))), (by rw [show c + 1 + 2 = c + 3 by omega]; exact (show Is σ (c + 3) 100 4 from g.is (q := (3, 100, 4)) (by decide))), (by rw [show c + 1 + 1 = c + 2 by omega]; exact (show σ.2.2.2.2 (c + 1) 2 = c + 2 from g.rf (q := (1, 2, 2)) (by decide))), (by rw [show c + 1 + 2 = c + 3 by omega]; exact (show σ.2.2.2.2 (c + 1) 3 = c + 3 from g.rf (q := (1, 3, 3)) (by decide)))⟩, ⟨by omega, (show Is σ (c + 4) 1 0 from g.is (q := (4, 1, 0)) (by decide)), (by rw [show c + 4 + 1 = c + 5 by omega]; exact (show Is σ (c + 5) 100 10 from g.is (q := (5, 100, 10)) (by decide))), (by rw [show c + 4 + 2 = c + 6 by omega]; exact (show Is σ (c + 6) 100 10 from g.is (q := (6, 100, 10)) (by decide))), (by rw [show c + 4 + 3 = c + 7 by omega]; exact (show Is σ (c + 7) 100 10 from g.is (q := (7, 100, 10)) (by decide))), (by rw [show c + 4 + 4 = c + 8 by omega]; exact (show Is σ (c + 8) 100 4 from g.is (q := (8, 100, 4)) (by decide))), (by rw [show c + 4 + 1 = c + 5 by omega]; exact (show σ.2.2.2.2 (c + 4) 0 = c + 5 from g.rf (q := (4, 0, 5)) (by decide))), (by rw [show c + 4 + 2 = c + 6 by omega]; exact (show σ.2.2.2.2 (c + 4) 1 = c + 6 from g.rf (q := (4, 1, 6)) (by decide))), (by rw [show c + 4 + 3 = c + 7 by omega]; exact (show σ.2.2.2.2 (c + 4) 2 = c + 7 from g.rf (q := (4, 2, 7)) (by decide))), (by rw [show c + 4 + 4 = c + 8 by omega]; exact (show σ.2.2.2.2 (c + 4) 3 = c + 8 from g.rf (q := (4, 3, 8)) (by decide)))⟩, ⟨by omega, (show Is σ (c + 9) 3 0 from g.is (q := (9, 3, 0)) (by decide)), (by rw [show c + 9 + 1 = c + 10 by omega]; exact (show Is σ (c + 10) 101 37 from g.is (q := (10, 101, 37)) (by decide))), (by rw [show c + 9 + 2 = c + 11 by omega]; exact (show Is σ (c + 11) 101 37 from g.is (q := (11, 101, 37)) (by decide))), (by rw [show c + 9 + 1 = c + 10 by omega]; exact (show σ.2.2.2.2 (c + 9) 0 = c + 10 from g.rf (q := (9, 0, 10)) (by decide))), (by rw [show c + 9 + 2 = c + 11 by omega]; exact (show σ.2.2.2.2 (c + 9) 1 = c + 11 from g.rf (q := (9, 1, 11)) (by decide)))⟩⟩, ⟨(show Is σ (c + 12) 101 61 from g.is (q := (12, 101, 61)) (by decide)), (show Is σ (c + 13) 100 61 from g.is (q := (13, 100, 61)) (by decide)), (show Is σ (c + 14) 100 7 from g.is (q := (14, 100, 7)) (by decide)), (show Is σ (c + 15) 101 7 from g.is (q := (15, 101, 7)) (by decide)), (show Is σ (c + 16) 101 7 from g.is (q := (16, 101, 7)) (by decide)), (show Is σ (c + 17) 101 259 from g.is (q := (17, 101, 259)) (by decide))⟩, ⟨(by have := (show σ.2.2.2.2 (c + 0) 1 = c + 1 from g.rf (q := (0, 1, 1)) (by decide)); rwa [Int.add_zero] at this), (by have := (show σ.2.2.2.2 (c + 0) 2 = c + 4 from g.rf (q := (0, 2, 4)) (by decide)); rwa [Int.add_zero] at this), (by have := (show σ.2.2.2.2 (c + 0) 3 = c + 9 from g.rf (q := (0, 3, 9)) (by decide)); rwa [Int.add_zero] at this)⟩, ⟨(by have := (show σ.2.2.2.2 (c + 0) 4 = c + 12 from g.rf (q := (0, 4, 12)) (by decide)); rwa [Int.add_zero] at this), (by have := (show σ.2.2.2.2 (c + 0) 5 = c + 13 from g.rf (q := (0, 5, 13)) (by decide)); rwa [Int.add_zero] at this), (by have := (show σ.2.2.2.2 (c + 0) 6 = c + 14 from g.rf (q := (0, 6, 14)) (by decide)); rwa [Int.add_zero] at this), (by have := (show σ.2.2.2.2 (c + 0) 7 = c + 15 from g.rf (q := (0, 7, 15)) (by decide)); rwa [Int.add_zero] at this), (by have := (show σ.2.2.2.2 (c + 0) 8 = c + 16 from g.rf (q := (0, 8, 16)) (by decide)); rwa [Int.add_zero] at this), (by have := (show σ.2.2.2.2 (c + 0) 9 = c + 17 from g.rf (q := (0, 9, 17)) (by decide)); rwa [Int.add_zero] at this)⟩⟩
  have zz : ∀ b j : Int, c + 13 ≤ b → b < c + 18 → m b j = 0 := fun b j x y => by
    rw [z.2 b j (by omega) (by omega), mu_a (by omega), mu_a (by omega)]; rfl
  have z0 : m c 0 = d := by
    rw [z.2 c 0 (by omega) (by omega)]
    show mu _ (c + 0) 0 d c 0 = d
    rw [Int.add_zero, mu_s]
  have z10 : m c 10 = 0 := by
    rw [z.2 c 10 (by omega) (by omega), mu_n (Or.inr (by decide)), mu_a (by omega)]; rfl
  obtain ⟨m1, q1, q2, q3⟩ := c_Pic_clear (m := m) hC.2.1.1 hd
  have hs2 : SR σ m1 := SR_fr hs1 (fun b j h => q3 b j (by omega) (by omega) (by omega))
  have hM : CatM m1 c d [] := CatM_fr (m := m) ⟨z0, z10, fun i hi => absurd hi (Nat.not_lt_zero i), fun n x y => ⟨(zz _ _ (by omega) (by omega)).trans rfl, (zz _ _ (by omega) (by omega)).trans rfl, (zz _ _ (by omega) (by omega)).trans rfl, fun j a b => (zz _ _ (by omega) (by omega)).trans rfl⟩⟩ (fun b j h => q3 b j (by omega) (by omega) (by omega))
  have hRL := ef_RL hd
  have h61 : (RL d).length ≤ 61 := dcase (p := fun d => (RL d).length ≤ 61) hd (by decide +kernel) (by decide +kernel) (by decide +kernel) (by decide +kernel)
  obtain ⟨m2, k1, k2, k3, k4⟩ := c_Cat_fill hC hd 24 0 [] [] m1 rfl (by decide) hs2 hM q2 (fun x h => by rw [hRL] at h; exact h) (by rw [hRL, List.length_nil]; omega)
  rw [hRL, List.nil_append] at k2
  refine ⟨σ, m2, ?_, hC, k2, g.1, by rw [g.2.1]; omega, g.2.2.2.2, fun b j x => ?_⟩
  rotate_left
  · rw [k4 b j (by omega), q3 b j (by omega) (by omega) (by omega)]; exact z.1 b j x
  rw [Int.add_zero]
  refine Ev.aload_n d_Cat_init_91 rfl ?_
  refine Ev.gr 1 d_Cat_init_92 lf_Cat_12 rfl rfl hC.1.2 (by decide) hC.2.2.2.1.1 ?_
  refine Ev.iload_n d_Cat_init_95 rfl ?_
  refine Ev.callVv d_Cat_init_96 mt_Pic_clear lk_Cat_56 in_Pic_clear se_Pic_clear rfl (Nat.le_of_ble_eq_true rfl) rfl (Nat.le_of_ble_eq_true rfl) (by decide) hC.2.1.1.2.1 (by decide) rfl rfl q1 ?_
  refine Ev.aload_n d_Cat_init_99 rfl ?_
  refine Ev.iconst d_Cat_init_100 ?_
  refine Ev.callVv d_Cat_init_101 mt_Cat_fillFrom lk_Cat_60 in_Cat_fillFrom se_Cat_fillFrom rfl (Nat.le_of_ble_eq_true rfl) rfl (Nat.le_of_ble_eq_true rfl) (by decide) hC.1.2 (by decide) rfl rfl k1 ?_
  exact Ev.to (Ev.return d_Cat_init_104 rfl) rfl rfl
end
