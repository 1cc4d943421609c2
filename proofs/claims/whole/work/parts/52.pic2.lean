/-! what a picture tells: mult, sign, parts, its packed row -/
section
variable {σ : Sg} {m : Mm}
def Gm (s a : Int) : Int := a * (wS s * wS s)
def Fm (x n a : Int) : Int := itn (Gm x) n.toNat a
theorem gfold_mul : ∀ (l : List Int) (a : Int), gfold Gm l a = a * mulL l
  | [], a => by simp [gfold, mulL]
  | s :: t, a => by
    simp only [gfold, mulL]
    rw [gfold_mul t, Gm, Int.mul_assoc]
theorem lpi_Pic_mult {a d : Int} {l : List Int} (hP : PicS σ a) (hm : PicM m a d l) (h6 : l.length ≤ 6) {x : Int} (hx : 0 ≤ x ∧ x < 24) {r : Option AV} {mF : Mm} : ∀ (q : Nat) (s acc : Int), s + q = cn x l → 0 ≤ s → Ev 2 m_Pic_mult 40 [some (vr a), some (vi (itn (Gm x) q acc)), some (vi x), some (vi (cn x l))] [] σ m r σ mF → Ev 2 m_Pic_mult 12 [some (vr a), some (vi acc), some (vi x), some (vi s)] [] σ m r σ mF
  | 0, s, acc, hs, h0, c => by
    have e2 := hm.2.2.1 x hx.1 hx.2
    have b := cn_b x l
    have e : s = cn x l := by omega
    simp only [itn] at c
    refine Ev.iload_n d_Pic_mult_12 rfl ?_
    refine Ev.aload_n d_Pic_mult_13 rfl ?_
    refine Ev.gr 2 d_Pic_mult_14 lf_Pic_15 rfl rfl hP.2.1 (by decide) hP.2.2.2.2.1 ?_
    refine Ev.iload_n d_Pic_mult_17 rfl ?_
    refine Ev.iaload d_Pic_mult_18 hP.2.2.1 (by first | omega | (simp [mu]; done) | (simp [mu]; omega)) ?_
    rw [e2]
    refine Ev.icmp_ge (tgt := 40) d_Pic_mult_19 rfl (by first | omega | (simp [mu]; done) | (simp [mu]; omega)) (by first | omega | (simp [mu]; done) | (simp [mu]; omega)) (fun hb19 => ?_) (fun hb19 => by exfalso; first | omega | simp at hb19 | contradiction)
    rw [e]
    exact c
  | q + 1, s, acc, hs, h0, c => by
    have e2 := hm.2.2.1 x hx.1 hx.2
    have b := cn_b x l
    refine Ev.iload_n d_Pic_mult_12 rfl ?_
    refine Ev.aload_n d_Pic_mult_13 rfl ?_
    refine Ev.gr 2 d_Pic_mult_14 lf_Pic_15 rfl rfl hP.2.1 (by decide) hP.2.2.2.2.1 ?_
    refine Ev.iload_n d_Pic_mult_17 rfl ?_
    refine Ev.iaload d_Pic_mult_18 hP.2.2.1 (by first | omega | (simp [mu]; done) | (simp [mu]; omega)) ?_
    rw [e2]
    refine Ev.icmp_ge (tgt := 40) d_Pic_mult_19 rfl (by first | omega | (simp [mu]; done) | (simp [mu]; omega)) (by first | omega | (simp [mu]; done) | (simp [mu]; omega)) (fun hb19 => by exfalso; first | omega | simp at hb19 | contradiction) (fun hb19 => ?_)
    refine Ev.iload_n d_Pic_mult_22 rfl ?_
    refine Ev.iload_n d_Pic_mult_23 rfl ?_
    refine Ev.callSN d_Pic_mult_24 mt_FC_weightOf lk_Pic_58 st_FC_weightOf rfl (Nat.le_of_ble_eq_true rfl) rfl (Nat.le_of_ble_eq_true rfl) (by decide) rfl (c_FC_weightOf hx) ?_
    refine Ev.iload_n d_Pic_mult_27 rfl ?_
    refine Ev.callSN d_Pic_mult_28 mt_FC_weightOf lk_Pic_58 st_FC_weightOf rfl (Nat.le_of_ble_eq_true rfl) rfl (Nat.le_of_ble_eq_true rfl) (by decide) rfl (c_FC_weightOf hx) ?_
    refine Ev.imul d_Pic_mult_31 ?_
    refine Ev.imul d_Pic_mult_32 ?_
    refine Ev.istore_1 d_Pic_mult_33 rfl ?_
    refine Ev.iinc_3 d_Pic_mult_34 rfl ?_
    refine Ev.goto (tgt := 12) d_Pic_mult_37 rfl ?_
    exact lpi_Pic_mult hP hm h6 hx q (s + 1) _ (by omega) (by omega) c
theorem lp_Pic_mult {a d : Int} {l : List Int} (hP : PicS σ a) (hm : PicM m a d l) (h6 : l.length ≤ 6) : ∀ (q : Nat) (x acc : Int) (x3 : Option AV), x + q = 24 → 0 ≤ x → Ev 2 m_Pic_mult 4 [some (vr a), some (vi acc), some (vi x), x3] [] σ m (some (vi (spf Fm l q x acc))) σ m
  | 0, x, acc, x3, hx, h0 => by
    simp only [spf]
    refine Ev.iload_n d_Pic_mult_4 rfl ?_
    refine Ev.bipush d_Pic_mult_5 rfl ?_
    refine Ev.icmp_ge (tgt := 46) d_Pic_mult_7 rfl (by first | omega | (simp [mu]; done) | (simp [mu]; omega)) (by first | omega | (simp [mu]; done) | (simp [mu]; omega)) (fun hb7 => ?_) (fun hb7 => by exfalso; first | omega | simp at hb7 | contradiction)
    refine Ev.iload_n d_Pic_mult_46 rfl ?_
    exact Ev.to (Ev.ireturn d_Pic_mult_47 rfl) rfl rfl
  | q + 1, x, acc, x3, hx, h0 => by
    have b := cn_b x l
    simp only [spf]
    refine Ev.iload_n d_Pic_mult_4 rfl ?_
    refine Ev.bipush d_Pic_mult_5 rfl ?_
    refine Ev.icmp_ge (tgt := 46) d_Pic_mult_7 rfl (by first | omega | (simp [mu]; done) | (simp [mu]; omega)) (by first | omega | (simp [mu]; done) | (simp [mu]; omega)) (fun hb7 => by exfalso; first | omega | simp at hb7 | contradiction) (fun hb7 => ?_)
    refine Ev.iconst d_Pic_mult_10 ?_
    refine Ev.istore_3 d_Pic_mult_11 rfl ?_
    refine lpi_Pic_mult hP hm h6 (by omega) (cn x l).toNat 0 acc (by omega) (by decide) ?_
    refine Ev.iinc_2 d_Pic_mult_40 rfl ?_
    refine Ev.goto (tgt := 4) d_Pic_mult_43 rfl ?_
    exact lp_Pic_mult hP hm h6 q (x + 1) _ _ (by omega) (by omega)
theorem c_Pic_mult {a d : Int} {l : List Int} (hP : PicS σ a) (hm : PicM m a d l) (hK : PK d l) : Call 2 m_Pic_mult [vr a] σ m (some (vi (mulL l))) σ m := by
  have e : mulL l = spf Fm l 24 0 1 := by
    rw [spf_fold Fm Gm (fun x n a => by simp [Fm]) 24 0 l 1 hK.2.2.1 (fun y hy => by have := hK.2.2.2 y hy; omega), gfold_mul, Int.one_mul]
  rw [e]
  show Ev 2 m_Pic_mult 0 [some (vr a), none, none, none] [] σ m _ σ m
  refine Ev.iconst d_Pic_mult_0 ?_
  refine Ev.istore_1 d_Pic_mult_1 rfl ?_
  refine Ev.iconst d_Pic_mult_2 ?_
  refine Ev.istore_2 d_Pic_mult_3 rfl ?_
  exact lp_Pic_mult hP hm hK.2.1 24 0 1 none rfl (by decide)
def Gs (s a : Int) : Int := if wS s % 2 = 0 then 0 else a
def Fs (x n a : Int) : Int := if 0 < n ∧ wS x % 2 = 0 then 0 else a
theorem gfold_sg : ∀ (l : List Int) (a : Int), gfold Gs l a = sgL a l
  | [], _ => rfl
  | s :: t, a => gfold_sg t (Gs s a)
theorem itn_Gs (x : Int) : ∀ (n : Nat) (a : Int), Fs x n a = itn (Gs x) n a
  | 0, a => by simp [Fs, itn]
  | n + 1, a => by
    simp only [itn]
    rw [← itn_Gs x n]
    unfold Fs Gs
    by_cases h : wS x % 2 = 0
    · rw [if_pos ⟨by omega, h⟩, if_pos h]; split <;> rfl
    · rw [if_neg (fun z => h z.2), if_neg h, if_neg (fun z => h z.2)]
theorem spf_Fs0 (l : List Int) : ∀ (q : Nat) (x : Int), spf Fs l q x 0 = 0
  | 0, _ => rfl
  | q + 1, x => by
    simp only [spf]
    rw [show Fs x (cn x l) 0 = 0 by unfold Fs; split <;> rfl]
    exact spf_Fs0 l q (x + 1)
theorem lp_Pic_sign {a d : Int} {l : List Int} (hP : PicS σ a) (hm : PicM m a d l) (h6 : l.length ≤ 6) : ∀ (q : Nat) (x : Int), x + q = 24 → 0 ≤ x → Ev 2 m_Pic_sign 2 [some (vr a), some (vi x)] [] σ m (some (vi (spf Fs l q x 1))) σ m
  | 0, x, hx, h0 => by
    simp only [spf]
    refine Ev.iload_n d_Pic_sign_2 rfl ?_
    refine Ev.bipush d_Pic_sign_3 rfl ?_
    refine Ev.icmp_ge (tgt := 34) d_Pic_sign_5 rfl (by first | omega | (simp [mu]; done) | (simp [mu]; omega)) (by first | omega | (simp [mu]; done) | (simp [mu]; omega)) (fun hb5 => ?_) (fun hb5 => by exfalso; first | omega | simp at hb5 | contradiction)
    refine Ev.iconst d_Pic_sign_34 ?_
    exact Ev.to (Ev.ireturn d_Pic_sign_35 rfl) rfl rfl
  | q + 1, x, hx, h0 => by
    have e2 := hm.2.2.1 x h0 (by omega)
    have b := cn_b x l
    have bw := wS_b x
    simp only [spf]
    by_cases hc : 0 < cn x l ∧ wS x % 2 = 0
    · rw [show Fs x (cn x l) 1 = 0 from if_pos hc, spf_Fs0]
      refine Ev.iload_n d_Pic_sign_2 rfl ?_
      refine Ev.bipush d_Pic_sign_3 rfl ?_
      refine Ev.icmp_ge (tgt := 34) d_Pic_sign_5 rfl (by first | omega | (simp [mu]; done) | (simp [mu]; omega)) (by first | omega | (simp [mu]; done) | (simp [mu]; omega)) (fun hb5 => by exfalso; first | omega | simp at hb5 | contradiction) (fun hb5 => ?_)
      refine Ev.aload_n d_Pic_sign_8 rfl ?_
      refine Ev.gr 2 d_Pic_sign_9 lf_Pic_15 rfl rfl hP.2.1 (by decide) hP.2.2.2.2.1 ?_
      refine Ev.iload_n d_Pic_sign_12 rfl ?_
      refine Ev.iaload d_Pic_sign_13 hP.2.2.1 (by first | omega | (simp [mu]; done) | (simp [mu]; omega)) ?_
      rw [e2]
      refine Ev.if_le (tgt := 28) d_Pic_sign_14 rfl (by first | omega | (simp [mu]; done) | (simp [mu]; omega)) (fun hb14 => by exfalso; first | omega | simp at hb14 | contradiction) (fun hb14 => ?_)
      refine Ev.iload_n d_Pic_sign_17 rfl ?_
      refine Ev.callSN d_Pic_sign_18 mt_FC_weightOf lk_Pic_58 st_FC_weightOf rfl (Nat.le_of_ble_eq_true rfl) rfl (Nat.le_of_ble_eq_true rfl) (by decide) rfl (c_FC_weightOf (by omega)) ?_
      refine Ev.iconst d_Pic_sign_21 ?_
      refine Ev.irem d_Pic_sign_22 (by first | omega | (simp [mu]; done) | (simp [mu]; omega)) (by first | omega | (simp [mu]; done) | (simp [mu]; omega)) ?_
      refine Ev.if_ne (tgt := 28) d_Pic_sign_23 rfl (by first | omega | (simp [mu]; done) | (simp [mu]; omega)) (fun hb23 => by exfalso; first | omega | simp at hb23 | contradiction) (fun hb23 => ?_)
      refine Ev.iconst d_Pic_sign_26 ?_
      exact Ev.to (Ev.ireturn d_Pic_sign_27 rfl) rfl rfl
    · rw [show Fs x (cn x l) 1 = 1 from if_neg hc]
      refine Ev.iload_n d_Pic_sign_2 rfl ?_
      refine Ev.bipush d_Pic_sign_3 rfl ?_
      refine Ev.icmp_ge (tgt := 34) d_Pic_sign_5 rfl (by first | omega | (simp [mu]; done) | (simp [mu]; omega)) (by first | omega | (simp [mu]; done) | (simp [mu]; omega)) (fun hb5 => by exfalso; first | omega | simp at hb5 | contradiction) (fun hb5 => ?_)
      refine Ev.aload_n d_Pic_sign_8 rfl ?_
      refine Ev.gr 2 d_Pic_sign_9 lf_Pic_15 rfl rfl hP.2.1 (by decide) hP.2.2.2.2.1 ?_
      refine Ev.iload_n d_Pic_sign_12 rfl ?_
      refine Ev.iaload d_Pic_sign_13 hP.2.2.1 (by first | omega | (simp [mu]; done) | (simp [mu]; omega)) ?_
      rw [e2]
      refine Ev.if_le (tgt := 28) d_Pic_sign_14 rfl (by first | omega | (simp [mu]; done) | (simp [mu]; omega)) (fun hb14 => ?_) (fun hb14 => ?_)
      · refine Ev.iinc_1 d_Pic_sign_28 rfl ?_
        refine Ev.goto (tgt := 2) d_Pic_sign_31 rfl ?_
        exact lp_Pic_sign hP hm h6 q (x + 1) (by omega) (by omega)
      · refine Ev.iload_n d_Pic_sign_17 rfl ?_
        refine Ev.callSN d_Pic_sign_18 mt_FC_weightOf lk_Pic_58 st_FC_weightOf rfl (Nat.le_of_ble_eq_true rfl) rfl (Nat.le_of_ble_eq_true rfl) (by decide) rfl (c_FC_weightOf (by omega)) ?_
        refine Ev.iconst d_Pic_sign_21 ?_
        refine Ev.irem d_Pic_sign_22 (by first | omega | (simp [mu]; done) | (simp [mu]; omega)) (by first | omega | (simp [mu]; done) | (simp [mu]; omega)) ?_
        refine Ev.if_ne (tgt := 28) d_Pic_sign_23 rfl (by first | omega | (simp [mu]; done) | (simp [mu]; omega)) (fun hb23 => ?_) (fun hb23 => by exfalso; first | omega | simp at hb23 | contradiction)
        refine Ev.iinc_1 d_Pic_sign_28 rfl ?_
        refine Ev.goto (tgt := 2) d_Pic_sign_31 rfl ?_
        exact lp_Pic_sign hP hm h6 q (x + 1) (by omega) (by omega)
theorem c_Pic_sign {a d : Int} {l : List Int} (hP : PicS σ a) (hm : PicM m a d l) (hK : PK d l) : Call 2 m_Pic_sign [vr a] σ m (some (vi (sgL 1 l))) σ m := by
  have e : sgL 1 l = spf Fs l 24 0 1 := by
    rw [spf_fold Fs Gs itn_Gs 24 0 l 1 hK.2.2.1 (fun y hy => by have := hK.2.2.2 y hy; omega), gfold_sg]
  rw [e]
  show Ev 2 m_Pic_sign 0 [some (vr a), none] [] σ m _ σ m
  refine Ev.iconst d_Pic_sign_0 ?_
  refine Ev.istore_1 d_Pic_sign_1 rfl ?_
  exact lp_Pic_sign hP hm hK.2.1 24 0 rfl (by decide)
def Gp (t M : Nat) : Nat := if M &&& t = 0 then M else M ||| t
theorem Gp_id (t M : Nat) : Gp t (Gp t M) = Gp t M := by
  unfold Gp
  by_cases h : M &&& t = 0
  · rw [if_pos h, if_pos h]
  · rw [if_neg h]
    split
    · rfl
    · rw [Nat.or_assoc, Nat.or_self]
def Fp (tw : Int → Nat) (x n : Int) (M : Nat) : Nat := if 0 < n then Gp (tw x) M else M
theorem itn_Gp (tw : Int → Nat) (x : Int) : ∀ (n : Nat) (M : Nat), Fp tw x n M = itn (fun M => Gp (tw x) M) n M
  | 0, M => by simp [Fp, itn]
  | n + 1, M => by
    simp only [itn]
    rw [← itn_Gp tw x n]
    unfold Fp
    rw [if_pos (by omega)]
    split
    · rw [Gp_id]
    · rfl
theorem gfold_pass : ∀ (l : List Int) (M : Nat), gfold (fun s M => Gp (two s) M) l M = pass l M
  | [], _ => rfl
  | s :: t, M => gfold_pass t _
theorem pass_spf {d : Int} {l : List Int} (hK : PK d l) (M : Nat) : spf (Fp two) l 24 0 M = pass l M := by
  rw [spf_fold (Fp two) (fun s M => Gp (two s) M) (itn_Gp two) 24 0 l M hK.2.2.1 (fun y hy => by have := hK.2.2.2 y hy; omega), gfold_pass]
def twoP (k : Int) : Nat := 2 ^ (pF k).toNat ||| 2 ^ (pT k).toNat
theorem two_P {s : Int} (h : 0 ≤ s ∧ s < 24) : two s = twoP (s / 4) := by
  unfold two twoP
  rw [(pF_s h).1, (pF_s h).2]
theorem gfold_map : ∀ (l : List Int) (M : Nat), (∀ y ∈ l, 0 ≤ y ∧ y < 24) → gfold (fun s M => Gp (twoP s) M) (l.map (fun s => s / 4)) M = pass l M
  | [], _, _ => rfl
  | s :: t, M, h => by
    simp only [List.map_cons, gfold]
    rw [gfold_map t _ (fun y hy => h y (List.mem_cons_of_mem _ hy)), ← two_P (h s List.mem_cons_self)]
    rfl
def ppB (c0 c1 c2 c3 c4 c5 : Bool) (M : Nat) : Nat :=
  let f := fun (c : Bool) (k : Int) (M : Nat) => if c = true then Gp (twoP k) M else M
  f c5 5 (f c4 4 (f c3 3 (f c2 2 (f c1 1 (f c0 0 M)))))
def itB (c0 c1 c2 c3 c4 c5 : Bool) : Nat → Nat → Nat
  | 0, M => M
  | r + 1, M => itB c0 c1 c2 c3 c4 c5 r (ppB c0 c1 c2 c3 c4 c5 M)
def itOk (c0 c1 c2 c3 c4 c5 : Bool) (d f : Nat) : Bool := !((!c0 || decide (1 < d)) && (!(c1 || c3) || decide (2 < d)) && (!(c2 || c4 || c5) || decide (3 < d))) || (itB c0 c1 c2 c3 c4 c5 (d - 1) (2 ^ f) == itB c0 c1 c2 c3 c4 c5 4 (2 ^ f))
theorem itB_ok : ∀ c0 c1 c2 c3 c4 c5 : Bool, ∀ d, d < 5 → ∀ f, f < d → itOk c0 c1 c2 c3 c4 c5 d f = true := by
  intro c0 c1 c2 c3 c4 c5
  cases c0 <;> cases c1 <;> cases c2 <;> cases c3 <;> cases c4 <;> cases c5 <;> decide +kernel
theorem itB_st (c0 c1 c2 c3 c4 c5 : Bool) (d : Nat) (hd : d < 5) (f : Nat) (hf : f < d) (h0 : c0 = true → 1 < d) (h1 : (c1 || c3) = true → 2 < d) (h2 : (c2 || c4 || c5) = true → 3 < d) : itB c0 c1 c2 c3 c4 c5 (d - 1) (2 ^ f) = itB c0 c1 c2 c3 c4 c5 4 (2 ^ f) := by
  have h := itB_ok c0 c1 c2 c3 c4 c5 d hd f hf
  unfold itOk at h
  have e0 : (!c0 || decide (1 < d)) = true := by
    cases hc : c0
    · rfl
    · simpa using h0 hc
  have e1 : (!(c1 || c3) || decide (2 < d)) = true := by
    cases hc : (c1 || c3)
    · rfl
    · simpa using h1 hc
  have e2 : (!(c2 || c4 || c5) || decide (3 < d)) = true := by
    cases hc : (c2 || c4 || c5)
    · rfl
    · simpa using h2 hc
  rw [e0, e1, e2] at h
  simpa using h
def hasP (l : List Int) (k : Int) : Bool := decide (0 < cn k (l.map (fun s => s / 4)))
theorem pass_B {d : Int} {l : List Int} (hK : PK d l) (M : Nat) : pass l M = ppB (hasP l 0) (hasP l 1) (hasP l 2) (hasP l 3) (hasP l 4) (hasP l 5) M := by
  have hr : ∀ y ∈ l, 0 ≤ y ∧ y < 24 := fun y hy => by have := hK.2.2.2 y hy; omega
  rw [← gfold_map l M hr, ← spf_fold (Fp twoP) (fun s M => Gp (twoP s) M) (itn_Gp twoP) 6 0 _ M (List.Pairwise.map _ (fun a b h => by omega) hK.2.2.1) (fun y hy => by
    obtain ⟨z, hz, rfl⟩ := List.mem_map.mp hy
    have := hr z hz
    omega)]
  simp only [spf, Fp, ppB, hasP, decide_eq_true_eq]
  rfl
theorem itp_B {d : Int} {l : List Int} (hK : PK d l) : ∀ (r M : Nat), itp l r M = itB (hasP l 0) (hasP l 1) (hasP l 2) (hasP l 3) (hasP l 4) (hasP l 5) r M
  | 0, _ => rfl
  | r + 1, M => by
    simp only [itp, itB]
    rw [pass_B hK M]
    exact itp_B hK r _
theorem hasP_lt {d : Int} {l : List Int} (hK : PK d l) {k : Int} (h : hasP l k = true) : pT k < d := by
  have h1 := cn_mem.mpr (of_decide_eq_true h)
  obtain ⟨z, hz, e⟩ := List.mem_map.mp h1
  have hz2 := hK.2.2.2 z hz
  rw [← e, (pF_s ⟨hz2.1, hz2.2.1⟩).2]
  exact hz2.2.2
theorem itp_stab {d : Int} {l : List Int} (hK : PK d l) {f : Nat} (hf : (f : Int) < d) : itp l (d - 1).toNat (2 ^ f) = itp l 4 (2 ^ f) := by
  have hd := hK.1
  rw [itp_B hK, itp_B hK, show (d - 1).toNat = d.toNat - 1 by omega]
  refine itB_st _ _ _ _ _ _ d.toNat (by omega) f (by omega) (fun h => ?_) (fun h => ?_) (fun h => ?_)
  · have := hasP_lt hK h
    have e : pT 0 = 1 := rfl
    omega
  · rcases Bool.or_eq_true _ _ |>.mp h with h | h
    · have := hasP_lt hK h
      have e : pT 1 = 2 := rfl
      omega
    · have := hasP_lt hK h
      have e : pT 3 = 2 := rfl
      omega
  · rcases Bool.or_eq_true _ _ |>.mp h with h | h
    · rcases Bool.or_eq_true _ _ |>.mp h with h | h
      · have := hasP_lt hK h
        have e : pT 2 = 3 := rfl
        omega
      · have := hasP_lt hK h
        have e : pT 4 = 3 := rfl
        omega
    · have := hasP_lt hK h
      have e : pT 5 = 3 := rfl
      omega
theorem Fp_lt {x n : Int} {M : Nat} (h : M < 16) : Fp two x n M < 16 := by
  unfold Fp Gp
  split
  · split
    · exact h
    · exact Nat.or_lt_two_pow (n := 4) h (two_lt x)
  · exact h
theorem lps_Pic_hang (hS : SR σ m) {a d : Int} {l : List Int} (hP : PicS σ a) (hm : PicM m a d l) (h6 : l.length ≤ 6) {f rd : Int} {r : Option AV} {mF : Mm} : ∀ (q : Nat) (x : Int) (M : Nat) (x5 : Option AV), x + q = 24 → 0 ≤ x → M < 16 → (∀ x5 : Option AV, Ev 2 m_Pic_hangingTogetherWith 69 [some (vr a), some (vi f), some (vi (spf (Fp two) l q x M : Nat)), some (vi rd), some (vi 24), x5] [] σ m r σ mF) → Ev 2 m_Pic_hangingTogetherWith 17 [some (vr a), some (vi f), some (vi (M : Nat)), some (vi rd), some (vi x), x5] [] σ m r σ mF
  | 0, x, M, x5, hx, h0, hM, c => by
    have e : x = 24 := by omega
    subst e
    simp only [spf] at c
    refine Ev.iload d_Pic_hangingTogetherWith_17 rfl ?_
    refine Ev.bipush d_Pic_hangingTogetherWith_19 rfl ?_
    refine Ev.icmp_ge (tgt := 69) d_Pic_hangingTogetherWith_21 rfl (by first | omega | (simp [mu]; done) | (simp [mu]; omega)) (by first | omega | (simp [mu]; done) | (simp [mu]; omega)) (fun hb21 => ?_) (fun hb21 => by exfalso; first | omega | simp at hb21 | contradiction)
    exact c _
  | q + 1, x, M, x5, hx, h0, hM, c => by
    have e2 := hm.2.2.1 x h0 (by omega)
    have b := cn_b x l
    have d1 := fS_b x
    have d2 := tS_b x
    have hT := two_lt x
    have hMT : M &&& two x ≤ M := Nat.and_le_left
    have hor : M ||| two x < 16 := Nat.or_lt_two_pow (n := 4) hM hT
    simp only [spf] at c
    have hs : (0 ≤ x ∧ x < 24) := by omega
    refine Ev.iload d_Pic_hangingTogetherWith_17 rfl ?_
    refine Ev.bipush d_Pic_hangingTogetherWith_19 rfl ?_
    refine Ev.icmp_ge (tgt := 69) d_Pic_hangingTogetherWith_21 rfl (by first | omega | (simp [mu]; done) | (simp [mu]; omega)) (by first | omega | (simp [mu]; done) | (simp [mu]; omega)) (fun hb21 => by exfalso; first | omega | simp at hb21 | contradiction) (fun hb21 => ?_)
    refine Ev.iconst d_Pic_hangingTogetherWith_24 ?_
    refine Ev.iload d_Pic_hangingTogetherWith_25 rfl ?_
    refine Ev.callSN d_Pic_hangingTogetherWith_27 mt_FC_fromOf lk_Pic_54 st_FC_fromOf rfl (Nat.le_of_ble_eq_true rfl) rfl (Nat.le_of_ble_eq_true rfl) (by decide) rfl (c_FC_fromOf hS hs) ?_
    refine Ev.ishl d_Pic_hangingTogetherWith_30 (by first | omega | (simp [mu]; done) | (simp [mu]; omega)) ?_
    rw [show (1 : Int) * 2 ^ (fS x).toNat = ((2 ^ (fS x).toNat : Nat) : Int) by rw [Int.one_mul, q_pow]]
    refine Ev.iconst d_Pic_hangingTogetherWith_31 ?_
    refine Ev.iload d_Pic_hangingTogetherWith_32 rfl ?_
    refine Ev.callSN d_Pic_hangingTogetherWith_34 mt_FC_toOf lk_Pic_61 st_FC_toOf rfl (Nat.le_of_ble_eq_true rfl) rfl (Nat.le_of_ble_eq_true rfl) (by decide) rfl (c_FC_toOf hS hs) ?_
    refine Ev.ishl d_Pic_hangingTogetherWith_37 (by first | omega | (simp [mu]; done) | (simp [mu]; omega)) ?_
    rw [show (1 : Int) * 2 ^ (tS x).toNat = ((2 ^ (tS x).toNat : Nat) : Int) by rw [Int.one_mul, q_pow]]
    refine Ev.ior d_Pic_hangingTogetherWith_38 (Int.natCast_nonneg _) (Int.natCast_nonneg _) ?_
    simp only [Int.toNat_natCast]
    rw [show ((2 ^ (fS x).toNat ||| 2 ^ (tS x).toNat : Nat) : Int) = ((two x : Nat) : Int) from rfl]
    refine Ev.istore_5 d_Pic_hangingTogetherWith_39 rfl ?_
    refine Ev.aload_n d_Pic_hangingTogetherWith_41 rfl ?_
    refine Ev.gr 2 d_Pic_hangingTogetherWith_42 lf_Pic_15 rfl rfl hP.2.1 (by decide) hP.2.2.2.2.1 ?_
    refine Ev.iload d_Pic_hangingTogetherWith_45 rfl ?_
    refine Ev.iaload d_Pic_hangingTogetherWith_47 hP.2.2.1 (by first | omega | (simp [mu]; done) | (simp [mu]; omega)) ?_
    rw [e2]
    refine Ev.if_le (tgt := 63) d_Pic_hangingTogetherWith_48 rfl (by first | omega | (simp [mu]; done) | (simp [mu]; omega)) (fun hb48 => ?_) (fun hb48 => ?_)
    · refine Ev.iinc_4 d_Pic_hangingTogetherWith_63 rfl ?_
      refine Ev.goto (tgt := 17) d_Pic_hangingTogetherWith_66 rfl ?_
      rw [show Fp two x (cn x l) M = M from if_neg (by omega)] at c
      exact lps_Pic_hang hS hP hm h6 q (x + 1) M _ (by omega) (by omega) hM c
    · refine Ev.iload_n d_Pic_hangingTogetherWith_51 rfl ?_
      refine Ev.iload d_Pic_hangingTogetherWith_52 rfl ?_
      refine Ev.iand d_Pic_hangingTogetherWith_54 (by first | omega | (simp [mu]; done) | (simp [mu]; omega)) (by first | omega | (simp [mu]; done) | (simp [mu]; omega)) ?_
      simp only [Int.toNat_natCast]
      refine Ev.if_eq (tgt := 63) d_Pic_hangingTogetherWith_55 rfl (by first | omega | (simp [mu]; done) | (simp [mu]; omega)) (fun hb55 => ?_) (fun hb55 => ?_)
      · refine Ev.iinc_4 d_Pic_hangingTogetherWith_63 rfl ?_
        refine Ev.goto (tgt := 17) d_Pic_hangingTogetherWith_66 rfl ?_
        rw [show Fp two x (cn x l) M = M from (if_pos (by omega)).trans (if_pos (by omega))] at c
        exact lps_Pic_hang hS hP hm h6 q (x + 1) M _ (by omega) (by omega) hM c
      · refine Ev.iload_n d_Pic_hangingTogetherWith_58 rfl ?_
        refine Ev.iload d_Pic_hangingTogetherWith_59 rfl ?_
        refine Ev.ior d_Pic_hangingTogetherWith_61 (by first | omega | (simp [mu]; done) | (simp [mu]; omega)) (by first | omega | (simp [mu]; done) | (simp [mu]; omega)) ?_
        simp only [Int.toNat_natCast]
        refine Ev.istore_2 d_Pic_hangingTogetherWith_62 rfl ?_
        refine Ev.iinc_4 d_Pic_hangingTogetherWith_63 rfl ?_
        refine Ev.goto (tgt := 17) d_Pic_hangingTogetherWith_66 rfl ?_
        rw [show Fp two x (cn x l) M = M ||| two x from (if_pos (by omega)).trans (if_neg (by omega))] at c
        exact lps_Pic_hang hS hP hm h6 q (x + 1) _ _ (by omega) (by omega) hor c
theorem lpr_Pic_hang (hS : SR σ m) {a d : Int} {l : List Int} (hP : PicS σ a) (hm : PicM m a d l) (hK : PK d l) {f : Int} : ∀ (q : Nat) (rd : Int) (M : Nat) (x4 x5 : Option AV), rd + q = d → 1 ≤ rd → M < 16 → Ev 2 m_Pic_hangingTogetherWith 6 [some (vr a), some (vi f), some (vi (M : Nat)), some (vi rd), x4, x5] [] σ m (some (vi (itp l q M : Nat))) σ m
  | 0, rd, M, x4, x5, hr, h1, hM => by
    have e0 := hm.1
    have hd := hK.1
    simp only [itp]
    refine Ev.iload_n d_Pic_hangingTogetherWith_6 rfl ?_
    refine Ev.aload_n d_Pic_hangingTogetherWith_7 rfl ?_
    refine Ev.gf 0 d_Pic_hangingTogetherWith_8 lf_Pic_9 rfl rfl hP.2.1 (by decide) ?_
    rw [e0]
    refine Ev.icmp_ge (tgt := 75) d_Pic_hangingTogetherWith_11 rfl (by first | omega | (simp [mu]; done) | (simp [mu]; omega)) (by first | omega | (simp [mu]; done) | (simp [mu]; omega)) (fun hb11 => ?_) (fun hb11 => by exfalso; first | omega | simp at hb11 | contradiction)
    refine Ev.iload_n d_Pic_hangingTogetherWith_75 rfl ?_
    exact Ev.to (Ev.ireturn d_Pic_hangingTogetherWith_76 rfl) rfl rfl
  | q + 1, rd, M, x4, x5, hr, h1, hM => by
    have e0 := hm.1
    have hd := hK.1
    simp only [itp]
    refine Ev.iload_n d_Pic_hangingTogetherWith_6 rfl ?_
    refine Ev.aload_n d_Pic_hangingTogetherWith_7 rfl ?_
    refine Ev.gf 0 d_Pic_hangingTogetherWith_8 lf_Pic_9 rfl rfl hP.2.1 (by decide) ?_
    rw [e0]
    refine Ev.icmp_ge (tgt := 75) d_Pic_hangingTogetherWith_11 rfl (by first | omega | (simp [mu]; done) | (simp [mu]; omega)) (by first | omega | (simp [mu]; done) | (simp [mu]; omega)) (fun hb11 => by exfalso; first | omega | simp at hb11 | contradiction) (fun hb11 => ?_)
    refine Ev.iconst d_Pic_hangingTogetherWith_14 ?_
    refine Ev.istore_4 d_Pic_hangingTogetherWith_15 rfl ?_
    refine lps_Pic_hang hS hP hm hK.2.1 24 0 M _ rfl (by decide) hM (fun y5 => ?_)
    rw [pass_spf hK]
    refine Ev.iinc_3 d_Pic_hangingTogetherWith_69 rfl ?_
    refine Ev.goto (tgt := 6) d_Pic_hangingTogetherWith_72 rfl ?_
    exact lpr_Pic_hang hS hP hm hK q (rd + 1) _ _ _ (by omega) (by omega) (pass_lt l M hM)
theorem c_Pic_hang (hS : SR σ m) {a d : Int} {l : List Int} (hP : PicS σ a) (hm : PicM m a d l) (hK : PK d l) {f : Nat} (hf : (f : Int) < d) : Call 2 m_Pic_hangingTogetherWith [vr a, vi (f : Nat)] σ m (some (vi (itp l 4 (2 ^ f) : Nat))) σ m := by
  have hd := hK.1
  have ef : ((f : Nat) : Int).toNat = f := by omega
  have hlt : 2 ^ f < 16 := Nat.pow_lt_pow_right (n := 4) (by decide) (by omega)
  rw [← itp_stab hK hf]
  show Ev 2 m_Pic_hangingTogetherWith 0 [some (vr a), some (vi (f : Nat)), none, none, none, none] [] σ m _ σ m
  refine Ev.iconst d_Pic_hangingTogetherWith_0 ?_
  refine Ev.iload_n d_Pic_hangingTogetherWith_1 rfl ?_
  refine Ev.ishl d_Pic_hangingTogetherWith_2 (by first | omega | (simp [mu]; done) | (simp [mu]; omega)) ?_
  rw [show (1 : Int) * 2 ^ ((f : Nat) : Int).toNat = ((2 ^ f : Nat) : Int) by rw [ef, Int.one_mul, q_pow]]
  refine Ev.istore_2 d_Pic_hangingTogetherWith_3 rfl ?_
  refine Ev.iconst d_Pic_hangingTogetherWith_4 ?_
  refine Ev.istore_3 d_Pic_hangingTogetherWith_5 rfl ?_
  exact lpr_Pic_hang hS hP hm hK (d - 1).toNat 1 _ _ _ (by omega) (by decide) hlt
theorem lp_Pic_parts (hS : SR σ m) {a d : Int} {l : List Int} (hP : PicS σ a) (hm : PicM m a d l) (hK : PK d l) : ∀ (q f seen : Nat) (c : Int), (f : Int) + q = d → seen < 16 → Ev 3 m_Pic_parts 6 [some (vr a), some (vi c), some (vi (seen : Nat)), some (vi (f : Nat))] [] σ m (some (vi (prt l q f seen c))) σ m
  | 0, f, seen, c, hf, hs => by
    have e0 := hm.1
    have hd := hK.1
    simp only [prt]
    refine Ev.iload_n d_Pic_parts_6 rfl ?_
    refine Ev.aload_n d_Pic_parts_7 rfl ?_
    refine Ev.gf 0 d_Pic_parts_8 lf_Pic_9 rfl rfl hP.2.1 (by decide) ?_
    rw [e0]
    refine Ev.icmp_ge (tgt := 39) d_Pic_parts_11 rfl (by first | omega | (simp [mu]; done) | (simp [mu]; omega)) (by first | omega | (simp [mu]; done) | (simp [mu]; omega)) (fun hb11 => ?_) (fun hb11 => by exfalso; first | omega | simp at hb11 | contradiction)
    refine Ev.iload_n d_Pic_parts_39 rfl ?_
    exact Ev.to (Ev.ireturn d_Pic_parts_40 rfl) rfl rfl
  | q + 1, f, seen, c, hf, hs => by
    have e0 := hm.1
    have hd := hK.1
    have ef : ((f : Nat) : Int).toNat = f := by omega
    have hf4 : f < 4 := by omega
    have e2 : (seen : Int) / 2 ^ ((f : Nat) : Int).toNat % 2 ^ 1 = ((seen / 2 ^ f % 2 : Nat) : Int) := by
      rw [ef, ← q_pow, ← q_pow, ← Int.natCast_ediv, ← Int.natCast_emod]
    have hlt : 2 ^ f < 16 := Nat.pow_lt_pow_right (n := 4) (by decide) hf4
    have hor : seen ||| itp l 4 (2 ^ f) < 16 := Nat.or_lt_two_pow (n := 4) hs (itp_lt l 4 _ hlt)
    refine Ev.iload_n d_Pic_parts_6 rfl ?_
    refine Ev.aload_n d_Pic_parts_7 rfl ?_
    refine Ev.gf 0 d_Pic_parts_8 lf_Pic_9 rfl rfl hP.2.1 (by decide) ?_
    rw [e0]
    refine Ev.icmp_ge (tgt := 39) d_Pic_parts_11 rfl (by first | omega | (simp [mu]; done) | (simp [mu]; omega)) (by first | omega | (simp [mu]; done) | (simp [mu]; omega)) (fun hb11 => by exfalso; first | omega | simp at hb11 | contradiction) (fun hb11 => ?_)
    refine Ev.iload_n d_Pic_parts_14 rfl ?_
    refine Ev.iload_n d_Pic_parts_15 rfl ?_
    refine Ev.ishr d_Pic_parts_16 (by first | omega | (simp [mu]; done) | (simp [mu]; omega)) (by first | omega | (simp [mu]; done) | (simp [mu]; omega)) ?_
    refine Ev.iconst d_Pic_parts_17 ?_
    refine Ev.iandm 1 d_Pic_parts_18 (by decide) rfl ?_
    rw [e2]
    refine Ev.if_ne (tgt := 33) d_Pic_parts_19 rfl (by first | omega | (simp [mu]; done) | (simp [mu]; omega)) (fun hb19 => ?_) (fun hb19 => ?_)
    · refine Ev.iinc_3 d_Pic_parts_33 rfl ?_
      refine Ev.goto (tgt := 6) d_Pic_parts_36 rfl ?_
      exact Ev.to (lp_Pic_parts hS hP hm hK q (f + 1) seen c (by omega) hs) (by rw [prt, if_neg (by omega)]) rfl
    · refine Ev.iload_n d_Pic_parts_22 rfl ?_
      refine Ev.aload_n d_Pic_parts_23 rfl ?_
      refine Ev.iload_n d_Pic_parts_24 rfl ?_
      refine Ev.callV d_Pic_parts_25 mt_Pic_hangingTogetherWith lk_Pic_67 in_Pic_hangingTogetherWith se_Pic_hangingTogetherWith rfl (Nat.le_of_ble_eq_true rfl) rfl (Nat.le_of_ble_eq_true rfl) (by decide) hP.2.1 (by decide) rfl rfl (c_Pic_hang hS hP hm hK (by omega)) ?_
      refine Ev.ior d_Pic_parts_28 (by first | omega | (simp [mu]; done) | (simp [mu]; omega)) (by first | omega | (simp [mu]; done) | (simp [mu]; omega)) ?_
      simp only [Int.toNat_natCast]
      refine Ev.istore_2 d_Pic_parts_29 rfl ?_
      refine Ev.iinc_1 d_Pic_parts_30 rfl ?_
      refine Ev.iinc_3 d_Pic_parts_33 rfl ?_
      refine Ev.goto (tgt := 6) d_Pic_parts_36 rfl ?_
      exact Ev.to (lp_Pic_parts hS hP hm hK q (f + 1) _ (c + 1) (by omega) hor) (by rw [prt, if_pos (by omega)]) rfl
theorem c_Pic_parts (hS : SR σ m) {a d : Int} {l : List Int} (hP : PicS σ a) (hm : PicM m a d l) (hK : PK d l) : Call 3 m_Pic_parts [vr a] σ m (some (vi (prt l d.toNat 0 0 0))) σ m := by
  have hd := hK.1
  show Ev 3 m_Pic_parts 0 [some (vr a), none, none, none] [] σ m _ σ m
  refine Ev.iconst d_Pic_parts_0 ?_
  refine Ev.istore_1 d_Pic_parts_1 rfl ?_
  refine Ev.iconst d_Pic_parts_2 ?_
  refine Ev.istore_2 d_Pic_parts_3 rfl ?_
  refine Ev.iconst d_Pic_parts_4 ?_
  refine Ev.istore_3 d_Pic_parts_5 rfl ?_
  exact lp_Pic_parts hS hP hm hK d.toNat 0 0 0 (by omega) (by decide)
def pkS (l : List Int) : Nat → Int → Int → Int
  | 0, _, r => r
  | q + 1, x, r => pkS l q (x + 1) (r * 2 ^ 2 + cn x l % 2 ^ 2)
def pk (l : List Int) : Int := pkS l 24 0 0
theorem lp_Pic_pack {a d : Int} {l : List Int} (hP : PicS σ a) (hm : PicM m a d l) (h6 : l.length ≤ 6) : ∀ (q : Nat) (x r : Int), x + q = 24 → 0 ≤ x → Ev 1 m_Pic_pack 4 [some (vr a), some (vl r), none, some (vi x)] [] σ m (some (vl (pkS l q x r))) σ m
  | 0, x, r, hx, h0 => by
    simp only [pkS]
    refine Ev.iload_n d_Pic_pack_4 rfl ?_
    refine Ev.bipush d_Pic_pack_5 rfl ?_
    refine Ev.icmp_ge (tgt := 32) d_Pic_pack_7 rfl (by first | omega | (simp [mu]; done) | (simp [mu]; omega)) (by first | omega | (simp [mu]; done) | (simp [mu]; omega)) (fun hb7 => ?_) (fun hb7 => by exfalso; first | omega | simp at hb7 | contradiction)
    refine Ev.lload_n d_Pic_pack_32 rfl ?_
    exact Ev.to (Ev.lreturn d_Pic_pack_33 rfl) rfl rfl
  | q + 1, x, r, hx, h0 => by
    have e2 := hm.2.2.1 x h0 (by omega)
    have b := cn_b x l
    simp only [pkS]
    refine Ev.iload_n d_Pic_pack_4 rfl ?_
    refine Ev.bipush d_Pic_pack_5 rfl ?_
    refine Ev.icmp_ge (tgt := 32) d_Pic_pack_7 rfl (by first | omega | (simp [mu]; done) | (simp [mu]; omega)) (by first | omega | (simp [mu]; done) | (simp [mu]; omega)) (fun hb7 => by exfalso; first | omega | simp at hb7 | contradiction) (fun hb7 => ?_)
    refine Ev.lload_n d_Pic_pack_10 rfl ?_
    refine Ev.iconst d_Pic_pack_11 ?_
    refine Ev.lshl d_Pic_pack_12 (by first | omega | (simp [mu]; done) | (simp [mu]; omega)) ?_
    refine Ev.aload_n d_Pic_pack_13 rfl ?_
    refine Ev.gr 2 d_Pic_pack_14 lf_Pic_15 rfl rfl hP.2.1 (by decide) hP.2.2.2.2.1 ?_
    refine Ev.iload_n d_Pic_pack_17 rfl ?_
    refine Ev.iaload d_Pic_pack_18 hP.2.2.1 (by first | omega | (simp [mu]; done) | (simp [mu]; omega)) ?_
    rw [e2]
    refine Ev.i2l d_Pic_pack_19 (by first | omega | (simp [mu]; done) | (simp [mu]; omega)) ?_
    refine Ev.ldc2 (x := 3) d_Pic_pack_20 kl_Pic_70 ?_
    refine Ev.landm 2 d_Pic_pack_23 (by decide) rfl ?_
    rw [show ((2 : Int).toNat) = 2 from rfl]
    refine Ev.lors 2 d_Pic_pack_24 (by decide) (by first | omega | (simp [mu]; done) | (simp [mu]; omega)) ?_
    refine Ev.lstore_1 d_Pic_pack_25 rfl ?_
    refine Ev.iinc_3 d_Pic_pack_26 rfl ?_
    refine Ev.goto (tgt := 4) d_Pic_pack_29 rfl ?_
    exact lp_Pic_pack hP hm h6 q (x + 1) _ (by omega) (by omega)
theorem c_Pic_pack {a d : Int} {l : List Int} (hP : PicS σ a) (hm : PicM m a d l) (hK : PK d l) : Call 1 m_Pic_pack [vr a] σ m (some (vl (pk l))) σ m := by
  show Ev 1 m_Pic_pack 0 [some (vr a), none, none, none] [] σ m _ σ m
  refine Ev.lconst (x := 0) d_Pic_pack_0 rfl ?_
  refine Ev.lstore_1 d_Pic_pack_1 rfl ?_
  refine Ev.iconst d_Pic_pack_2 ?_
  refine Ev.istore_3 d_Pic_pack_3 rfl ?_
  exact lp_Pic_pack hP hm hK.2.1 24 0 0 rfl (by decide)
theorem cn_count (x : Int) : ∀ l : List Int, cn x l = (l.count x : Int)
  | [] => rfl
  | s :: t => by
    simp only [cn, cn_count x t, List.count_cons, beq_iff_eq]
    split <;> simp <;> omega
theorem outL_perm {f : Int} {l l' : List Int} (h : l.Perm l') : outL f l = outL f l' := by
  induction h with
  | nil => rfl
  | cons x _ ih => simp only [outL, ih]
  | swap x y t => simp only [outL]; omega
  | trans _ _ ih1 ih2 => exact ih1.trans ih2
theorem PicM_perm {a d : Int} {l l' : List Int} (hm : PicM m a d l) (h : l.Perm l') : PicM m a d l' := ⟨hm.1, by rw [hm.2.1, h.length_eq], fun s x y => by rw [hm.2.2.1 s x y, cn_count, cn_count, h.count_eq], fun f x y => by rw [hm.2.2.2 f x y, outL_perm h]⟩
def bl (l : List Int) : Nat → List Int
  | 0 => []
  | x + 1 => List.replicate (cn (x : Nat) l).toNat (x : Int) ++ bl l x
theorem cn_bl (l : List Int) (z : Int) : ∀ x : Nat, cn z (bl l x) = if 0 ≤ z ∧ z < x then cn z l else 0
  | 0 => by rw [if_neg (by omega)]; rfl
  | x + 1 => by
    have b := cn_b z l
    simp only [bl]
    rw [cn_rep, cn_bl l z x]
    by_cases e : z = x
    · rw [if_pos e, if_neg (by omega), if_pos (by omega), e]; rw [e] at b; omega
    · rw [if_neg e]
      by_cases h : 0 ≤ z ∧ z < x
      · rw [if_pos h, if_pos (by omega)]; omega
      · rw [if_neg h, if_neg (by omega)]; rfl
theorem bl_perm {l : List Int} (h : ∀ y ∈ l, 0 ≤ y ∧ y < 24) : (bl l 24).Perm l := by
  refine List.perm_iff_count.mpr (fun z => ?_)
  have e := cn_bl l z 24
  rw [cn_count, cn_count] at e
  by_cases hz : 0 ≤ z ∧ z < (24 : Nat)
  · rw [if_pos hz] at e; omega
  · rw [if_neg hz] at e
    have : cn z l = 0 := cn_zero z l (fun y hy => by have := h y hy; omega)
    rw [cn_count] at this
    omega
theorem lpi_Pic_unpack {a d x like row : Int} (hP : PicS σ a) (hx : 0 ≤ x ∧ x < 24) (hlk : 0 ≤ like ∧ like ≤ 3) {Post : Mm → Prop} : ∀ (q : Nat) (k : Int) (c : List Int) (m : Mm), k + q = like → 0 ≤ k → SR σ m → PicM m a d c → (∀ m' : Mm, SR σ m' → FrA a m m' → PicM m' a d (List.replicate q x ++ c) → ∃ mF, Ev 4 m_Pic_unpack 53 [some (vr a), some (vi d), some (vl row), none, some (vi x), some (vi like), some (vi like)] [] σ m' none σ mF ∧ Post mF) → ∃ mF, Ev 4 m_Pic_unpack 34 [some (vr a), some (vi d), some (vl row), none, some (vi x), some (vi like), some (vi k)] [] σ m none σ mF ∧ Post mF
  | 0, k, c, m, hk, h0, hS, hm, cont => by
    have e : k = like := by omega
    obtain ⟨mF, g1, g2⟩ := cont m hS FrA.rf hm
    refine ⟨mF, ?_, g2⟩
    rw [e]
    refine Ev.iload d_Pic_unpack_34 rfl ?_
    refine Ev.iload d_Pic_unpack_36 rfl ?_
    refine Ev.icmp_ge (tgt := 53) d_Pic_unpack_38 rfl (by first | omega | (simp [mu]; done) | (simp [mu]; omega)) (by first | omega | (simp [mu]; done) | (simp [mu]; omega)) (fun hb38 => ?_) (fun hb38 => by exfalso; first | omega | simp at hb38 | contradiction)
    exact g1
  | q + 1, k, c, m, hk, h0, hS, hm, cont => by
    have h3 := hP.1
    obtain ⟨m1, q1, q2, q3⟩ := c_Pic_add hS hP hm hx (Adds_cons x c)
    have hS1 : SR σ m1 := SR_fr hS (fun b j h => q3 b j (by omega) (by omega) (by omega))
    obtain ⟨mF, g1, g2⟩ := lpi_Pic_unpack hP hx hlk (Post := Post) (row := row) q (k + 1) (x :: c) m1 (by omega) (by omega) hS1 q2 (fun m' s1 f1 p1 => cont m' s1 (q3.tr f1) (PicM_perm p1 (by
      rw [List.replicate_succ, List.cons_append]
      exact List.perm_middle)))
    refine ⟨mF, ?_, g2⟩
    refine Ev.iload d_Pic_unpack_34 rfl ?_
    refine Ev.iload d_Pic_unpack_36 rfl ?_
    refine Ev.icmp_ge (tgt := 53) d_Pic_unpack_38 rfl (by first | omega | (simp [mu]; done) | (simp [mu]; omega)) (by first | omega | (simp [mu]; done) | (simp [mu]; omega)) (fun hb38 => by exfalso; first | omega | simp at hb38 | contradiction) (fun hb38 => ?_)
    refine Ev.aload_n d_Pic_unpack_41 rfl ?_
    refine Ev.iload d_Pic_unpack_42 rfl ?_
    refine Ev.callVv d_Pic_unpack_44 mt_Pic_add lk_Pic_76 in_Pic_add se_Pic_add rfl (Nat.le_of_ble_eq_true rfl) rfl (Nat.le_of_ble_eq_true rfl) (by decide) hP.2.1 (by decide) rfl rfl q1 ?_
    refine Ev.iinc_6 d_Pic_unpack_47 rfl ?_
    refine Ev.goto (tgt := 34) d_Pic_unpack_50 rfl ?_
    exact g1
theorem lp_Pic_unpack {a d row : Int} (hP : PicS σ a) {l : List Int} (hr : -9223372036854775808 ≤ row ∧ row ≤ 9223372036854775807) (hrow : ∀ x : Int, 0 ≤ x → x < 24 → row / 2 ^ (2 * (23 - x)).toNat % 2 ^ 2 = cn x l) : ∀ (q x : Nat) (m : Mm) (x5 x6 : Option AV), x + q = 24 → SR σ m → PicM m a d (bl l x) → ∃ mF, Ev 4 m_Pic_unpack 8 [some (vr a), some (vi d), some (vl row), none, some (vi x), x5, x6] [] σ m none σ mF ∧ PicM mF a d (bl l 24) ∧ FrA a m mF
  | 0, x, m, x5, x6, hx, hS, hm => by
    have e : x = 24 := by omega
    subst e
    refine ⟨m, ?_, hm, FrA.rf⟩
    refine Ev.iload d_Pic_unpack_8 rfl ?_
    refine Ev.bipush d_Pic_unpack_10 rfl ?_
    refine Ev.icmp_ge (tgt := 59) d_Pic_unpack_12 rfl (by first | omega | (simp [mu]; done) | (simp [mu]; omega)) (by first | omega | (simp [mu]; done) | (simp [mu]; omega)) (fun hb12 => ?_) (fun hb12 => by exfalso; first | omega | simp at hb12 | contradiction)
    exact Ev.to (Ev.return d_Pic_unpack_59 rfl) rfl rfl
  | q + 1, x, m, x5, x6, hx, hS, hm => by
    have e2 := hrow x (by omega) (by omega)
    have hb : 0 ≤ cn x l ∧ cn x l ≤ 3 := by rw [← e2]; omega
    obtain ⟨mF, g1, g2⟩ := lpi_Pic_unpack hP (d := d) (x := x) (like := cn x l) (row := row) (by omega) hb (Post := fun mF => PicM mF a d (bl l 24) ∧ FrA a m mF) (cn x l).toNat 0 (bl l x) m (by omega) (by decide) hS hm (fun m1 s1 f1 p1 => by
      obtain ⟨mF, g1, g2, g3⟩ := lp_Pic_unpack hP hr hrow q (x + 1) m1 (some (vi (cn x l))) (some (vi (cn x l))) (by omega) s1 p1
      refine ⟨mF, ?_, g2, f1.tr g3⟩
      refine Ev.iinc_4 d_Pic_unpack_53 rfl ?_
      refine Ev.goto (tgt := 8) d_Pic_unpack_56 rfl ?_
      exact g1)
    refine ⟨mF, ?_, g2⟩
    refine Ev.iload d_Pic_unpack_8 rfl ?_
    refine Ev.bipush d_Pic_unpack_10 rfl ?_
    refine Ev.icmp_ge (tgt := 59) d_Pic_unpack_12 rfl (by first | omega | (simp [mu]; done) | (simp [mu]; omega)) (by first | omega | (simp [mu]; done) | (simp [mu]; omega)) (fun hb12 => by exfalso; first | omega | simp at hb12 | contradiction) (fun hb12 => ?_)
    refine Ev.lload_n d_Pic_unpack_15 rfl ?_
    refine Ev.iconst d_Pic_unpack_16 ?_
    refine Ev.bipush d_Pic_unpack_17 rfl ?_
    refine Ev.iload d_Pic_unpack_19 rfl ?_
    refine Ev.isub d_Pic_unpack_21 ?_
    refine Ev.imul d_Pic_unpack_22 ?_
    refine Ev.lshr d_Pic_unpack_23 (by first | omega | (simp [mu]; done) | (simp [mu]; omega)) (by first | omega | (simp [mu]; done) | (simp [mu]; omega)) ?_
    refine Ev.ldc2 (x := 3) d_Pic_unpack_24 kl_Pic_70 ?_
    refine Ev.landm 2 d_Pic_unpack_27 (by decide) rfl ?_
    rw [e2]
    refine Ev.l2i d_Pic_unpack_28 ?_
    refine Ev.istore_5 d_Pic_unpack_29 rfl ?_
    refine Ev.iconst d_Pic_unpack_31 ?_
    refine Ev.istore_6 d_Pic_unpack_32 rfl ?_
    exact g1
theorem c_Pic_unpack (hS : SR σ m) {a d row : Int} (hP : PicS σ a) (hd : 1 ≤ d ∧ d ≤ 4) {l : List Int} (hl : ∀ y ∈ l, 0 ≤ y ∧ y < 24) (hr : -9223372036854775808 ≤ row ∧ row ≤ 9223372036854775807) (hrow : ∀ x : Int, 0 ≤ x → x < 24 → row / 2 ^ (2 * (23 - x)).toNat % 2 ^ 2 = cn x l) : ∃ m', Call 4 m_Pic_unpack [vr a, vi d, vl row] σ m none σ m' ∧ PicM m' a d l ∧ FrA a m m' := by
  have h3 := hP.1
  obtain ⟨m1, q1, q2, q3⟩ := c_Pic_clear (m := m) hP hd
  have hS1 : SR σ m1 := SR_fr hS (fun b j h => q3 b j (by omega) (by omega) (by omega))
  obtain ⟨mF, g1, g2, g3⟩ := lp_Pic_unpack hP hr hrow 24 0 m1 none none rfl hS1 q2
  refine ⟨mF, ?_, PicM_perm g2 (bl_perm hl), q3.tr g3⟩
  show Ev 4 m_Pic_unpack 0 [some (vr a), some (vi d), some (vl row), none, none, none, none] [] σ m _ σ _
  refine Ev.aload_n d_Pic_unpack_0 rfl ?_
  refine Ev.iload_n d_Pic_unpack_1 rfl ?_
  refine Ev.callVv d_Pic_unpack_2 mt_Pic_clear lk_Pic_72 in_Pic_clear se_Pic_clear rfl (Nat.le_of_ble_eq_true rfl) rfl (Nat.le_of_ble_eq_true rfl) (by decide) hP.2.1 (by decide) rfl rfl q1 ?_
  refine Ev.iconst d_Pic_unpack_5 ?_
  refine Ev.istore_4 d_Pic_unpack_6 rfl ?_
  exact g1
end
