/-! both sides together -/
theorem Ev.stk {d : Nat} {M : Md} {pc : Nat} {L : List (Option AV)} {st st2 : List AV} {σ σ' : Sg} {m m' : Mm} {r : Option AV} (h : ∀ A, st.map (q_cv A) = st2.map (q_cv A)) (k : Ev d M pc L st2 σ m r σ' m') : Ev d M pc L st σ m r σ' m' :=
  ⟨k.1, fun l s0 b pf pt D hG p e R s mi args below meth c n0 k0 hC h1 h2 h3 h4 H locs ls hH hf hl => by rw [h]; exact k.2 l s0 b pf pt D hG p e R s mi args below meth c n0 k0 hC h1 h2 h3 h4 H locs ls hH hf hl⟩
theorem Ev.icmp_eqs {d : Nat} {M : Md} {pc : Nat} {L : List (Option AV)} {st : List AV} {σ σ' : Sg} {m m' : Mm} {r : Option AV} {x off : Int} {tgt : Nat} (hd : decode M.2.1 pc = .ok (.if_icmp .eq off, 3)) (ht : (pc : Int) + off = (tgt : Int)) (k : Ev d M tgt L st σ m r σ' m') : Ev d M pc L (vi x :: vi x :: st) σ m r σ' m' := by
  have e : Int32.ofInt (Int32.ofInt x).toInt = Int32.ofInt x := Int32.ofInt_toInt _
  have b1 := Int32.le_toInt (Int32.ofInt x)
  have b2 := Int32.toInt_lt (Int32.ofInt x)
  refine Ev.stk (st2 := vi (Int32.ofInt x).toInt :: vi (Int32.ofInt x).toInt :: st) (fun A => ?_) (Ev.icmp_eq hd ht (by omega) (by omega) (fun _ => k) (fun h => absurd rfl h))
  show Value.int (Int32.ofInt x) :: Value.int (Int32.ofInt x) :: _ = Value.int (Int32.ofInt (Int32.ofInt x).toInt) :: Value.int (Int32.ofInt (Int32.ofInt x).toInt) :: _
  rw [e]
theorem Ev.lcmps {d : Nat} {M : Md} {pc : Nat} {L : List (Option AV)} {st : List AV} {σ σ' : Sg} {m m' : Mm} {r : Option AV} {x : Int} (hd : decode M.2.1 pc = .ok (.lcmp, 1)) (k : Ev d M (pc + 1) L (vi 0 :: st) σ m r σ' m') : Ev d M pc L (vl x :: vl x :: st) σ m r σ' m' := by
  have e : Int64.ofInt (Int64.ofInt x).toInt = Int64.ofInt x := Int64.ofInt_toInt _
  have b1 := Int64.le_toInt (Int64.ofInt x)
  have b2 := Int64.toInt_lt (Int64.ofInt x)
  have z : lcm (Int64.ofInt x).toInt (Int64.ofInt x).toInt = 0 := lcm_eq.mpr rfl
  refine Ev.stk (st2 := vl (Int64.ofInt x).toInt :: vl (Int64.ofInt x).toInt :: st) (fun A => ?_) (Ev.lcmp hd (by omega) (by omega) (by rw [z]; exact k))
  show Value.long (Int64.ofInt x) :: Value.long (Int64.ofInt x) :: _ = Value.long (Int64.ofInt (Int64.ofInt x).toInt) :: Value.long (Int64.ofInt (Int64.ofInt x).toInt) :: _
  rw [e]
def FcI (m : Mm) (S : PS) (H : SHt) (T : TPt) (D : TDt) (K : Nat) (Fl : Int) : Prop := CS m S ∧ CH m H ∧ TpM m T ∧ TPD m D ∧ TGS m K ∧ m 17 3 = Fl
def MoI (m : Mm) (S : PS) (H : SHt) (T : TPt) (D : TDt) (Fl : Int) : Prop := MS m S ∧ MH m H ∧ MT m T ∧ MTD m D ∧ m 57 23 = Fl ∧ MF m ∧ MW m
def Bs (L : Int) (xs : Int → Int) (m : Mm) : Prop := (∀ j : Int, 0 ≤ j → j < L → m 0 j = xs j) ∧ (∀ j : Int, 0 ≤ j → j < 6 → m 1 j = pF j) ∧ (∀ j : Int, 0 ≤ j → j < 6 → m 2 j = pT j)
def Inv (L : Int) (xs : Int → Int) (σ : Sg) (m : Mm) : Prop := Wd L σ ∧ Bs L xs m ∧ CatAll σ m ∧ ∃ (S : PS) (H : SHt) (T : TPt) (D : TDt) (K : Nat) (Fl : Int), FcI m S H T D K Fl ∧ MoI m S H T D Fl ∧ HK H ∧ TK T ∧ TDV D ∧ TDK D
section
variable {σ : Sg} {m m' : Mm} {S S' : PS} {H H' : SHt} {T T' : TPt} {D D' : TDt} {K : Nat} {Fl L : Int} {xs : Int → Int}
theorem Bs_o (h : Bs L xs m) (f : ∀ b j : Int, b < 3 → m' b j = m b j) : Bs L xs m' := ⟨fun j a b => (f _ _ (by decide)).trans (h.1 j a b), fun j a b => (f _ _ (by decide)).trans (h.2.1 j a b), fun j a b => (f _ _ (by decide)).trans (h.2.2 j a b)⟩
theorem MS_f (h : MS m S) (h0 : m' 57 0 = m 57 0) (h1 : ∀ a i : Int, a = 58 ∨ a = 59 → i < 8 → m' a i = m a i) (h2 : ∀ a i : Int, a = 60 ∨ a = 61 ∨ a = 62 → i < 48 → m' a i = m a i) : MS m' S := by
  obtain ⟨b8, b0, hp⟩ := h
  refine ⟨b8, h0.trans b0, fun p x y => ?_⟩
  obtain ⟨⟨p1, p2, p3⟩, pk⟩ := hp p x y
  have hl := pk.2.1
  exact ⟨⟨(h1 58 p (by omega) (by omega)).trans p1, (h1 59 p (by omega) (by omega)).trans p2, At_eq (fun j _ _ => ⟨h2 60 j (by omega) (by omega), h2 61 j (by omega) (by omega), h2 62 j (by omega) (by omega)⟩) p3⟩, pk⟩
theorem MH_f (h : MH m H) (f : ∀ a i : Int, 85 ≤ a → a ≤ 87 → m' a i = m a i) : MH m' H := fun k x y => ⟨(f _ _ (by decide) (by decide)).trans (h k x y).1, (f _ _ (by decide) (by decide)).trans (h k x y).2.1, fun i a b => (f _ _ (by decide) (by decide)).trans ((h k x y).2.2 i a b)⟩
theorem MT_f (h : MT m T) (f : m' 57 22 = m 57 22) (f2 : ∀ i : Int, m' 76 i = m 76 i) : MT m' T := ⟨f.trans h.1, fun i a b => (f2 i).trans (h.2 i a b)⟩
theorem MTD_f (h : MTD m D) (f : m' 57 24 = m 57 24) (f2 : ∀ i : Int, m' 77 i = m 77 i) : MTD m' D := ⟨f.trans h.1, fun i a b => (f2 i).trans (h.2 i a b)⟩
theorem MF_f (h : MF m) (f : ∀ a i : Int, 71 ≤ a → a ≤ 75 → m' a i = m a i) : MF m' := fun d n hd hn => by
  rcases h d n hd hn with ⟨h1, h2⟩ | ⟨h1, h2⟩
  · exact Or.inl ⟨(f _ _ (by decide) (by decide)).trans h1, (f _ _ (by decide) (by decide)).trans h2.1, (f _ _ (by decide) (by decide)).trans h2.2.1, (f _ _ (by decide) (by decide)).trans h2.2.2.1, fun k x y => (f _ _ (by decide) (by decide)).trans (h2.2.2.2 k x y)⟩
  · exact Or.inr ⟨(f _ _ (by decide) (by decide)).trans h1, (f _ _ (by decide) (by decide)).trans h2.1, (f _ _ (by decide) (by decide)).trans h2.2.1, (f _ _ (by decide) (by decide)).trans h2.2.2.1, fun k x y => (f _ _ (by decide) (by decide)).trans (h2.2.2.2 k x y)⟩
theorem MW_f (h : MW m) (f0 : m' 57 32 = m 57 32) (f1 : m' 57 27 = m 57 27) (f : ∀ a i : Int, 79 ≤ a → a ≤ 82 → m' a i = m a i) : MW m' := by
  rcases h with h | ⟨h1, h2, h3⟩
  · exact Or.inl (f0.trans h)
  · exact Or.inr ⟨f0.trans h1, ⟨f1.trans h2.1, Laid_fr h2.2 (fun a j x => f a j (by omega) (by omega))⟩, fun i hi x j a b => (f _ _ (by decide) (by decide)).trans (h3 i hi x j a b)⟩
theorem MoI_o (h : MoI m S H T D Fl) (f : ∀ b j : Int, 57 ≤ b → b ≤ 87 → m' b j = m b j) : MoI m' S H T D Fl := ⟨MS_f h.1 (f _ _ (by decide) (by decide)) (fun a i x _ => f a i (by omega) (by omega)) (fun a i x _ => f a i (by omega) (by omega)), MH_f h.2.1 (fun a i x y => f a i (by omega) (by omega)), MT_f h.2.2.1 (f _ _ (by decide) (by decide)) (fun i => f _ _ (by decide) (by decide)), MTD_f h.2.2.2.1 (f _ _ (by decide) (by decide)) (fun i => f _ _ (by decide) (by decide)), (f _ _ (by decide) (by decide)).trans h.2.2.2.2.1, MF_f h.2.2.2.2.2.1 (fun a i x y => f a i (by omega) (by omega)), MW_f h.2.2.2.2.2.2 (f _ _ (by decide) (by decide)) (f _ _ (by decide) (by decide)) (fun a i x y => f a i (by omega) (by omega))⟩
theorem TpM_f (h : TpM m T) (f : m' 17 1 = m 17 1) (f2 : ∀ i : Int, m' 18 i = m 18 i) : TpM m' T := ⟨f.trans h.1, fun i a b => (f2 i).trans (h.2 i a b)⟩
theorem TPD_f (h : TPD m D) (f : m' 17 2 = m 17 2) : TPD m' D := ⟨fun x => f.trans (h.1 x), fun x => f.trans (h.2 x)⟩
theorem FcI_o (h : FcI m S H T D K Fl) (f : ∀ b j : Int, 3 ≤ b → b < 57 → m' b j = m b j) : FcI m' S H T D K Fl := ⟨CS_fr h.1 (fun b j x => f b j (by omega) (by omega)), CH_fr h.2.1 (fun b j x y => f b j (by omega) (by omega)), TpM_f h.2.2.1 (f _ _ (by decide) (by decide)) (fun i => f _ _ (by decide) (by decide)), TPD_f h.2.2.2.1 (f _ _ (by decide) (by decide)), TGS_fr h.2.2.2.2.1 (fun b j x y => f b j (by omega) (by omega)), (f _ _ (by decide) (by decide)).trans h.2.2.2.2.2⟩
theorem FcI_pi (h : FcI m S H T D K Fl) (c : CS m' S') (f : ∀ b j : Int, b < 57 → ¬ (b = 3 ∧ j = 9) → ¬ (5 ≤ b ∧ b ≤ 7) → ¬ (25 ≤ b ∧ b ≤ 48) → m' b j = m b j) : FcI m' S' H T D K Fl := ⟨c, CH_fr h.2.1 (fun b j x y => f b j (by omega) (by omega) (by omega) (by omega)), TpM_f h.2.2.1 (f _ _ (by decide) (by decide) (by decide) (by decide)) (fun i => f _ _ (by decide) (by omega) (by decide) (by decide)), TPD_f h.2.2.2.1 (f _ _ (by decide) (by decide) (by decide) (by decide)), TGS_fr h.2.2.2.2.1 (fun b j x y => f b j (by omega) (by omega) (by omega) (by omega)), (f _ _ (by decide) (by decide) (by decide) (by decide)).trans h.2.2.2.2.2⟩
theorem FcI_sh (h : FcI m S H T D K Fl) (c : CH m' H') (f : FrSh m m') : FcI m' S H' T D K Fl := ⟨CS_fr h.1 (fun b j x => f b j (by omega)), c, TpM_f h.2.2.1 (f _ _ (by decide)) (fun i => f _ _ (by decide)), TPD_f h.2.2.2.1 (f _ _ (by decide)), TGS_fr h.2.2.2.2.1 (fun b j x y => f b j (by omega)), (f _ _ (by decide)).trans h.2.2.2.2.2⟩
theorem FcI_sc (h : FcI m S H T D K Fl) (f : ∀ b j : Int, ¬ (8 ≤ b ∧ b ≤ 15) → b ≠ 23 → m' b j = m b j) : FcI m' S H T D K Fl := ⟨CS_fr h.1 (fun b j x => f b j (by omega) (by omega)), CH_fr h.2.1 (fun b j x y => f b j (by omega) (by omega)), TpM_f h.2.2.1 (f _ _ (by decide) (by decide)) (fun i => f _ _ (by decide) (by decide)), TPD_f h.2.2.2.1 (f _ _ (by decide) (by decide)), TGS_fr h.2.2.2.2.1 (fun b j x y => f b j (by omega) (by omega)), (f _ _ (by decide) (by decide)).trans h.2.2.2.2.2⟩
theorem FcI_tp (h : FcI m S H T D K Fl) (c : TpM m' T') (f : ∀ b j : Int, ¬ (b = 17 ∧ j = 1) → b ≠ 18 → m' b j = m b j) : FcI m' S H T' D K Fl := ⟨CS_fr h.1 (fun b j x => f b j (by omega) (by omega)), CH_fr h.2.1 (fun b j x y => f b j (by omega) (by omega)), c, TPD_f h.2.2.2.1 (f _ _ (by decide) (by decide)), TGS_fr h.2.2.2.2.1 (fun b j x y => f b j (by omega) (by omega)), (f _ _ (by decide) (by decide)).trans h.2.2.2.2.2⟩
theorem FcI_tx {Fl' : Int} (h : FcI m S H T D K Fl) (c : TpM m' T') (c2 : TPD m' D') (c3 : m' 17 3 = Fl') (f : ∀ b j : Int, b ≠ 17 → m' b j = m b j) : FcI m' S H T' D' K Fl' := ⟨CS_fr h.1 (fun b j x => f b j (by omega)), CH_fr h.2.1 (fun b j x y => f b j (by omega)), c, c2, TGS_fr h.2.2.2.2.1 (fun b j x y => f b j (by omega)), c3⟩
theorem FcI_tg {K' : Nat} (h : FcI m S H T D K Fl) (c : TGS m' K') (f : FrZ m m') : FcI m' S H T D K' Fl := ⟨CS_fr h.1 (fun b j x => f b j (by omega)), CH_fr h.2.1 (fun b j x y => f b j (by omega)), TpM_f h.2.2.1 (f _ _ (by decide)) (fun i => f _ _ (by decide)), TPD_f h.2.2.2.1 (f _ _ (by decide)), c, (f _ _ (by decide)).trans h.2.2.2.2.2⟩
theorem st_textD_K {T : TPt} {D : TDt} (h : TDK D) : TDK (st_textD T D) := by
  unfold st_textD
  split
  · rename_i h0
    obtain ⟨i, a, b, -⟩ := ps_told T.1.toNat 0 (-4) 0 (fun _ => 0) 0 (Or.inl rfl) ⟨by decide, fun j _ _ => rfl⟩ rfl h0
    refine ⟨Or.inr rfl, fun j x y => ?_⟩
    have h5 : (rT i).length ≤ 5 := TL_l5 a
    have hc := cn_b j (rT i)
    have hb : (txt T).2.2.2 j = cn j (rT i) := b j x y
    show 0 ≤ (txt T).2.2.2 j ∧ (txt T).2.2.2 j ≤ 5
    omega
  · exact h
theorem TDV_i {D : TDt} (h : TDV D) : ∃ i : Nat, D.1 = 1 → TDR D i := by
  by_cases h1 : D.1 = 1
  · obtain ⟨i, hi⟩ := h.2 h1
    exact ⟨i, fun _ => hi⟩
  · exact ⟨0, fun h => absurd h h1⟩
theorem op_picture (I : Inv L xs σ m) {d : Int} (g1 : -2147483648 ≤ d ∧ d ≤ 2147483647) : ∃ (vv : Int) (σ1 : Sg) (m1 m2 : Mm), Call 4 m_FC_picture [vr 3, vi d] σ m (some (vi vv)) σ1 m1 ∧ Call 2 m_Mo_picture [vr 57, vi d] σ1 m1 (some (vi vv)) σ1 m2 ∧ Wd L σ1 ∧ Bs L xs m1 ∧ Inv L xs σ1 m2 := by
  obtain ⟨hW, hB, hA, S, H, T, D, K, Fl, hC, hM0, hHK, hTK, hTV, hTDK⟩ := I
  have hF := hW.1
  have hMo := hW.2.1
  have hR : SR σ m := hW.sr hB.2.1 hB.2.2
  obtain ⟨cS, cH, cT, cD, cG, cF⟩ := id hC
  obtain ⟨m1, q1, q2, q3⟩ := c_FC_picture hF cS hR g1
  have o1 : ∀ b j : Int, (b < 3 ∨ 57 ≤ b) → m1 b j = m b j := fun b j h => q3 b j (by omega) (by omega) (by omega)
  have hB1 : Bs L xs m1 := Bs_o hB (fun b j h => o1 b j (by omega))
  have hM1 : MoI m1 S H T D Fl := MoI_o hM0 (fun b j h1 h2 => o1 b j (by omega))
  have hC1 : FcI m1 (st_picture S d) H T D K Fl := (FcI_pi hC q2 (fun b j _ x y z => q3 b j x y z))
  have hMo1 := hMo
  have hA1 : CatAll σ m1 := CatAll_fr hA (fun b j h => o1 b j (by omega))
  obtain ⟨mS, mH, mT, mD, mL, mF, mW⟩ := id hM1
  obtain ⟨m2, k1, kS, fr⟩ := c_Mo_picture hMo1 mS g1
  have o2 : ∀ b j : Int, (b < 57 ∨ 87 < b) → m2 b j = m1 b j := fun b j h => fr b j (by first | omega | (intros; omega)) (by first | omega | (intros; omega))
  have hM2 : MoI m2 (st_picture S d) H T D Fl := ⟨kS, (MH_f mH (fun a i x y => fr a i (by first | omega | (intros; omega)) (by first | omega | (intros; omega)))), (MT_f mT (fr 57 22 (by first | omega | (intros; omega)) (by first | omega | (intros; omega))) (fun i => fr 76 i (by first | omega | (intros; omega)) (by first | omega | (intros; omega)))), (MTD_f mD (fr 57 24 (by first | omega | (intros; omega)) (by first | omega | (intros; omega))) (fun i => fr 77 i (by first | omega | (intros; omega)) (by first | omega | (intros; omega)))), ((fr 57 23 (by first | omega | (intros; omega)) (by first | omega | (intros; omega))).trans mL), (MF_f mF (fun a i x y => fr a i (by first | omega | (intros; omega)) (by first | omega | (intros; omega)))), (MW_f mW (fr 57 32 (by first | omega | (intros; omega)) (by first | omega | (intros; omega))) (fr 57 27 (by first | omega | (intros; omega)) (by first | omega | (intros; omega))) (fun a i x y => fr a i (by first | omega | (intros; omega)) (by first | omega | (intros; omega))))⟩
  exact ⟨_, σ, m1, m2, q1, k1, hW, hB1, hW, Bs_o hB1 (fun b j h => o2 b j (by omega)), CatAll_fr hA1 (fun b j h => o2 b j (by omega)), _, _, _, _, _, _, FcI_o hC1 (fun b j _ _ => o2 b j (by omega)), hM2, hHK, hTK, hTV, hTDK⟩
theorem op_stair (I : Inv L xs σ m) {p i j w : Int} (g1 : -2147483648 ≤ p ∧ p ≤ 2147483647) (g2 : -2147483648 ≤ i ∧ i ≤ 2147483647) (g3 : -2147483648 ≤ j ∧ j ≤ 2147483647) (g4 : -2147483648 ≤ w ∧ w ≤ 2147483647) : ∃ (vv : Int) (σ1 : Sg) (m1 m2 : Mm), Call 4 m_FC_stair [vr 3, vi p, vi i, vi j, vi w] σ m (some (vi vv)) σ1 m1 ∧ Call 3 m_Mo_stair [vr 57, vi p, vi i, vi j, vi w] σ1 m1 (some (vi vv)) σ1 m2 ∧ Wd L σ1 ∧ Bs L xs m1 ∧ Inv L xs σ1 m2 := by
  obtain ⟨hW, hB, hA, S, H, T, D, K, Fl, hC, hM0, hHK, hTK, hTV, hTDK⟩ := I
  have hF := hW.1
  have hMo := hW.2.1
  have hR : SR σ m := hW.sr hB.2.1 hB.2.2
  obtain ⟨cS, cH, cT, cD, cG, cF⟩ := id hC
  obtain ⟨m1, q1, q2, q3⟩ := c_FC_stair hF cS hR g1 g2 g3 g4
  have o1 : ∀ b j : Int, (b < 3 ∨ 57 ≤ b) → m1 b j = m b j := fun b j h => q3 b j (by omega) (by omega) (by omega)
  have hB1 : Bs L xs m1 := Bs_o hB (fun b j h => o1 b j (by omega))
  have hM1 : MoI m1 S H T D Fl := MoI_o hM0 (fun b j h1 h2 => o1 b j (by omega))
  have hC1 : FcI m1 (st_stair S p i j w) H T D K Fl := (FcI_pi hC q2 (fun b j _ x y z => q3 b j x y z))
  have hMo1 := hMo
  have hA1 : CatAll σ m1 := CatAll_fr hA (fun b j h => o1 b j (by omega))
  obtain ⟨mS, mH, mT, mD, mL, mF, mW⟩ := id hM1
  obtain ⟨m2, k1, kS, fr⟩ := c_Mo_stair hMo1 mS g1 g2 g3 g4
  have o2 : ∀ b j : Int, (b < 57 ∨ 87 < b) → m2 b j = m1 b j := fun b j h => fr b j (by first | omega | (intros; omega)) (by first | omega | (intros; omega))
  have hM2 : MoI m2 (st_stair S p i j w) H T D Fl := ⟨kS, (MH_f mH (fun a i x y => fr a i (by first | omega | (intros; omega)) (by first | omega | (intros; omega)))), (MT_f mT (fr 57 22 (by first | omega | (intros; omega)) (by first | omega | (intros; omega))) (fun i => fr 76 i (by first | omega | (intros; omega)) (by first | omega | (intros; omega)))), (MTD_f mD (fr 57 24 (by first | omega | (intros; omega)) (by first | omega | (intros; omega))) (fun i => fr 77 i (by first | omega | (intros; omega)) (by first | omega | (intros; omega)))), ((fr 57 23 (by first | omega | (intros; omega)) (by first | omega | (intros; omega))).trans mL), (MF_f mF (fun a i x y => fr a i (by first | omega | (intros; omega)) (by first | omega | (intros; omega)))), (MW_f mW (fr 57 32 (by first | omega | (intros; omega)) (by first | omega | (intros; omega))) (fr 57 27 (by first | omega | (intros; omega)) (by first | omega | (intros; omega))) (fun a i x y => fr a i (by first | omega | (intros; omega)) (by first | omega | (intros; omega))))⟩
  exact ⟨_, σ, m1, m2, q1, k1, hW, hB1, hW, Bs_o hB1 (fun b j h => o2 b j (by omega)), CatAll_fr hA1 (fun b j h => o2 b j (by omega)), _, _, _, _, _, _, FcI_o hC1 (fun b j _ _ => o2 b j (by omega)), hM2, hHK, hTK, hTV, hTDK⟩
theorem op_cut (I : Inv L xs σ m) {p i j w : Int} (g1 : -2147483648 ≤ p ∧ p ≤ 2147483647) (g2 : -2147483648 ≤ i ∧ i ≤ 2147483647) (g3 : -2147483648 ≤ j ∧ j ≤ 2147483647) (g4 : -2147483648 ≤ w ∧ w ≤ 2147483647) : ∃ (vv : Int) (σ1 : Sg) (m1 m2 : Mm), Call 4 m_FC_cut [vr 3, vi p, vi i, vi j, vi w] σ m (some (vi vv)) σ1 m1 ∧ Call 3 m_Mo_cut [vr 57, vi p, vi i, vi j, vi w] σ1 m1 (some (vi vv)) σ1 m2 ∧ Wd L σ1 ∧ Bs L xs m1 ∧ Inv L xs σ1 m2 := by
  obtain ⟨hW, hB, hA, S, H, T, D, K, Fl, hC, hM0, hHK, hTK, hTV, hTDK⟩ := I
  have hF := hW.1
  have hMo := hW.2.1
  have hR : SR σ m := hW.sr hB.2.1 hB.2.2
  obtain ⟨cS, cH, cT, cD, cG, cF⟩ := id hC
  obtain ⟨m1, q1, q2, q3⟩ := c_FC_cut hF cS hR g1 g2 g3 g4
  have o1 : ∀ b j : Int, (b < 3 ∨ 57 ≤ b) → m1 b j = m b j := fun b j h => q3 b j (by omega) (by omega) (by omega)
  have hB1 : Bs L xs m1 := Bs_o hB (fun b j h => o1 b j (by omega))
  have hM1 : MoI m1 S H T D Fl := MoI_o hM0 (fun b j h1 h2 => o1 b j (by omega))
  have hC1 : FcI m1 (st_cut S p i j w) H T D K Fl := (FcI_pi hC q2 (fun b j _ x y z => q3 b j x y z))
  have hMo1 := hMo
  have hA1 : CatAll σ m1 := CatAll_fr hA (fun b j h => o1 b j (by omega))
  obtain ⟨mS, mH, mT, mD, mL, mF, mW⟩ := id hM1
  obtain ⟨m2, k1, kS, fr⟩ := c_Mo_cut hMo1 mS g1 g2 g3 g4
  have o2 : ∀ b j : Int, (b < 57 ∨ 87 < b) → m2 b j = m1 b j := fun b j h => fr b j (by first | omega | (intros; omega)) (by first | omega | (intros; omega))
  have hM2 : MoI m2 (st_cut S p i j w) H T D Fl := ⟨kS, (MH_f mH (fun a i x y => fr a i (by first | omega | (intros; omega)) (by first | omega | (intros; omega)))), (MT_f mT (fr 57 22 (by first | omega | (intros; omega)) (by first | omega | (intros; omega))) (fun i => fr 76 i (by first | omega | (intros; omega)) (by first | omega | (intros; omega)))), (MTD_f mD (fr 57 24 (by first | omega | (intros; omega)) (by first | omega | (intros; omega))) (fun i => fr 77 i (by first | omega | (intros; omega)) (by first | omega | (intros; omega)))), ((fr 57 23 (by first | omega | (intros; omega)) (by first | omega | (intros; omega))).trans mL), (MF_f mF (fun a i x y => fr a i (by first | omega | (intros; omega)) (by first | omega | (intros; omega)))), (MW_f mW (fr 57 32 (by first | omega | (intros; omega)) (by first | omega | (intros; omega))) (fr 57 27 (by first | omega | (intros; omega)) (by first | omega | (intros; omega))) (fun a i x y => fr a i (by first | omega | (intros; omega)) (by first | omega | (intros; omega))))⟩
  exact ⟨_, σ, m1, m2, q1, k1, hW, hB1, hW, Bs_o hB1 (fun b j h => o2 b j (by omega)), CatAll_fr hA1 (fun b j h => o2 b j (by omega)), _, _, _, _, _, _, FcI_o hC1 (fun b j _ _ => o2 b j (by omega)), hM2, hHK, hTK, hTV, hTDK⟩
theorem op_drop (I : Inv L xs σ m)  : ∃ (vv : Int) (σ1 : Sg) (m1 m2 : Mm), Call 1 m_FC_drop [vr 3] σ m (some (vi vv)) σ1 m1 ∧ Call 1 m_Mo_drop [vr 57] σ1 m1 (some (vi vv)) σ1 m2 ∧ Wd L σ1 ∧ Bs L xs m1 ∧ Inv L xs σ1 m2 := by
  obtain ⟨hW, hB, hA, S, H, T, D, K, Fl, hC, hM0, hHK, hTK, hTV, hTDK⟩ := I
  have hF := hW.1
  have hMo := hW.2.1
  have hR : SR σ m := hW.sr hB.2.1 hB.2.2
  obtain ⟨cS, cH, cT, cD, cG, cF⟩ := id hC
  obtain ⟨m1, q1, q2, q3⟩ := c_FC_drop hF cS
  have o1 : ∀ b j : Int, (b < 3 ∨ 57 ≤ b) → m1 b j = m b j := fun b j h => q3 b j (by omega) (by omega) (by omega)
  have hB1 : Bs L xs m1 := Bs_o hB (fun b j h => o1 b j (by omega))
  have hM1 : MoI m1 S H T D Fl := MoI_o hM0 (fun b j h1 h2 => o1 b j (by omega))
  have hC1 : FcI m1 (st_drop S) H T D K Fl := (FcI_pi hC q2 (fun b j _ x y z => q3 b j x y z))
  have hMo1 := hMo
  have hA1 : CatAll σ m1 := CatAll_fr hA (fun b j h => o1 b j (by omega))
  obtain ⟨mS, mH, mT, mD, mL, mF, mW⟩ := id hM1
  obtain ⟨m2, k1, kS, fr⟩ := c_Mo_drop hMo1 mS
  have o2 : ∀ b j : Int, (b < 57 ∨ 87 < b) → m2 b j = m1 b j := fun b j h => fr b j (by first | omega | (intros; omega)) (by first | omega | (intros; omega))
  have hM2 : MoI m2 (st_drop S) H T D Fl := ⟨kS, (MH_f mH (fun a i x y => fr a i (by first | omega | (intros; omega)) (by first | omega | (intros; omega)))), (MT_f mT (fr 57 22 (by first | omega | (intros; omega)) (by first | omega | (intros; omega))) (fun i => fr 76 i (by first | omega | (intros; omega)) (by first | omega | (intros; omega)))), (MTD_f mD (fr 57 24 (by first | omega | (intros; omega)) (by first | omega | (intros; omega))) (fun i => fr 77 i (by first | omega | (intros; omega)) (by first | omega | (intros; omega)))), ((fr 57 23 (by first | omega | (intros; omega)) (by first | omega | (intros; omega))).trans mL), (MF_f mF (fun a i x y => fr a i (by first | omega | (intros; omega)) (by first | omega | (intros; omega)))), (MW_f mW (fr 57 32 (by first | omega | (intros; omega)) (by first | omega | (intros; omega))) (fr 57 27 (by first | omega | (intros; omega)) (by first | omega | (intros; omega))) (fun a i x y => fr a i (by first | omega | (intros; omega)) (by first | omega | (intros; omega))))⟩
  exact ⟨_, σ, m1, m2, q1, k1, hW, hB1, hW, Bs_o hB1 (fun b j h => o2 b j (by omega)), CatAll_fr hA1 (fun b j h => o2 b j (by omega)), _, _, _, _, _, _, FcI_o hC1 (fun b j _ _ => o2 b j (by omega)), hM2, hHK, hTK, hTV, hTDK⟩
theorem op_about (I : Inv L xs σ m) {p what : Int} (g1 : -2147483648 ≤ p ∧ p ≤ 2147483647) (g2 : -2147483648 ≤ what ∧ what ≤ 2147483647) : ∃ (vv : Int) (σ1 : Sg) (m1 m2 : Mm), Call 4 m_FC_about [vr 3, vi p, vi what] σ m (some (vi vv)) σ1 m1 ∧ Call 3 m_Mo_about [vr 57, vi p, vi what] σ1 m1 (some (vi vv)) σ1 m2 ∧ Wd L σ1 ∧ Bs L xs m1 ∧ Inv L xs σ1 m2 := by
  obtain ⟨hW, hB, hA, S, H, T, D, K, Fl, hC, hM0, hHK, hTK, hTV, hTDK⟩ := I
  have hF := hW.1
  have hMo := hW.2.1
  have hR : SR σ m := hW.sr hB.2.1 hB.2.2
  obtain ⟨cS, cH, cT, cD, cG, cF⟩ := id hC
  have q1 := c_FC_about hF cS hR g1 g2
  have o1 : ∀ b j : Int, (b < 3 ∨ 57 ≤ b) → m b j = m b j := fun _ _ _ => rfl
  have hB1 : Bs L xs m := Bs_o hB (fun b j h => o1 b j (by omega))
  have hM1 : MoI m S H T D Fl := MoI_o hM0 (fun b j h1 h2 => o1 b j (by omega))
  have hC1 : FcI m S H T D K Fl := hC
  have hMo1 := hMo
  have hA1 : CatAll σ m := CatAll_fr hA (fun b j h => o1 b j (by omega))
  obtain ⟨mS, mH, mT, mD, mL, mF, mW⟩ := id hM1
  have k1 := c_Mo_about hMo1 mS g1 g2
  exact ⟨_, σ, m, m, q1, k1, hW, hB1, hW, hB1, hA1, _, _, _, _, _, _, hC1, hM1, hHK, hTK, hTV, hTDK⟩
theorem op_told (I : Inv L xs σ m) {p s what : Int} (g1 : -2147483648 ≤ p ∧ p ≤ 2147483647) (g2 : -2147483648 ≤ s ∧ s ≤ 2147483647) (g3 : -2147483648 ≤ what ∧ what ≤ 2147483647) : ∃ (vv : Int) (σ1 : Sg) (m1 m2 : Mm), Call 4 m_FC_told [vr 3, vi p, vi s, vi what] σ m (some (vi vv)) σ1 m1 ∧ Call 3 m_Mo_told [vr 57, vi p, vi s, vi what] σ1 m1 (some (vi vv)) σ1 m2 ∧ Wd L σ1 ∧ Bs L xs m1 ∧ Inv L xs σ1 m2 := by
  obtain ⟨hW, hB, hA, S, H, T, D, K, Fl, hC, hM0, hHK, hTK, hTV, hTDK⟩ := I
  have hF := hW.1
  have hMo := hW.2.1
  have hR : SR σ m := hW.sr hB.2.1 hB.2.2
  obtain ⟨cS, cH, cT, cD, cG, cF⟩ := id hC
  have q1 := c_FC_told hF cS hR g1 g2 g3
  have o1 : ∀ b j : Int, (b < 3 ∨ 57 ≤ b) → m b j = m b j := fun _ _ _ => rfl
  have hB1 : Bs L xs m := Bs_o hB (fun b j h => o1 b j (by omega))
  have hM1 : MoI m S H T D Fl := MoI_o hM0 (fun b j h1 h2 => o1 b j (by omega))
  have hC1 : FcI m S H T D K Fl := hC
  have hMo1 := hMo
  have hA1 : CatAll σ m := CatAll_fr hA (fun b j h => o1 b j (by omega))
  obtain ⟨mS, mH, mT, mD, mL, mF, mW⟩ := id hM1
  have k1 := c_Mo_told hMo1 mS g1 g2 g3
  exact ⟨_, σ, m, m, q1, k1, hW, hB1, hW, hB1, hA1, _, _, _, _, _, _, hC1, hM1, hHK, hTK, hTV, hTDK⟩
theorem op_out (I : Inv L xs σ m) {p f : Int} (g1 : -2147483648 ≤ p ∧ p ≤ 2147483647) (g2 : -2147483648 ≤ f ∧ f ≤ 2147483647) : ∃ (vv : Int) (σ1 : Sg) (m1 m2 : Mm), Call 4 m_FC_out [vr 3, vi p, vi f] σ m (some (vi vv)) σ1 m1 ∧ Call 3 m_Mo_out [vr 57, vi p, vi f] σ1 m1 (some (vi vv)) σ1 m2 ∧ Wd L σ1 ∧ Bs L xs m1 ∧ Inv L xs σ1 m2 := by
  obtain ⟨hW, hB, hA, S, H, T, D, K, Fl, hC, hM0, hHK, hTK, hTV, hTDK⟩ := I
  have hF := hW.1
  have hMo := hW.2.1
  have hR : SR σ m := hW.sr hB.2.1 hB.2.2
  obtain ⟨cS, cH, cT, cD, cG, cF⟩ := id hC
  have q1 := c_FC_out hF cS g1 g2
  have o1 : ∀ b j : Int, (b < 3 ∨ 57 ≤ b) → m b j = m b j := fun _ _ _ => rfl
  have hB1 : Bs L xs m := Bs_o hB (fun b j h => o1 b j (by omega))
  have hM1 : MoI m S H T D Fl := MoI_o hM0 (fun b j h1 h2 => o1 b j (by omega))
  have hC1 : FcI m S H T D K Fl := hC
  have hMo1 := hMo
  have hA1 : CatAll σ m := CatAll_fr hA (fun b j h => o1 b j (by omega))
  obtain ⟨mS, mH, mT, mD, mL, mF, mW⟩ := id hM1
  have k1 := c_Mo_out hMo1 mS g1 g2
  exact ⟨_, σ, m, m, q1, k1, hW, hB1, hW, hB1, hA1, _, _, _, _, _, _, hC1, hM1, hHK, hTK, hTV, hTDK⟩
theorem op_spread (I : Inv L xs σ m) {p k : Int} (g1 : -2147483648 ≤ p ∧ p ≤ 2147483647) (g2 : -2147483648 ≤ k ∧ k ≤ 2147483647) : ∃ (vv : Int) (σ1 : Sg) (m1 m2 : Mm), Call 5 m_FC_spread [vr 3, vi p, vi k] σ m (some (vl vv)) σ1 m1 ∧ Call 3 m_Mo_spread [vr 57, vi p, vi k] σ1 m1 (some (vl vv)) σ1 m2 ∧ Wd L σ1 ∧ Bs L xs m1 ∧ Inv L xs σ1 m2 := by
  obtain ⟨hW, hB, hA, S, H, T, D, K, Fl, hC, hM0, hHK, hTK, hTV, hTDK⟩ := I
  have hF := hW.1
  have hMo := hW.2.1
  have hR : SR σ m := hW.sr hB.2.1 hB.2.2
  obtain ⟨cS, cH, cT, cD, cG, cF⟩ := id hC
  obtain ⟨m1, q1, q3⟩ := c_FC_spread hF cS g1 g2
  have o1 : ∀ b j : Int, (b < 3 ∨ 57 ≤ b) → m1 b j = m b j := fun b j h => q3 b j (by omega) (by omega) (by omega)
  have hB1 : Bs L xs m1 := Bs_o hB (fun b j h => o1 b j (by omega))
  have hM1 : MoI m1 S H T D Fl := MoI_o hM0 (fun b j h1 h2 => o1 b j (by omega))
  have hC1 : FcI m1 S H T D K Fl := (FcI_sc hC (fun b j x y => q3 b j (by omega) (by omega) (by omega)))
  have hMo1 := hMo
  have hA1 : CatAll σ m1 := CatAll_fr hA (fun b j h => o1 b j (by omega))
  obtain ⟨mS, mH, mT, mD, mL, mF, mW⟩ := id hM1
  obtain ⟨m2, k1, fr⟩ := c_Mo_spread hMo1 mS g1 g2
  have o2 : ∀ b j : Int, (b < 57 ∨ 87 < b) → m2 b j = m1 b j := fun b j h => fr b j (by first | omega | (intros; omega)) (by first | omega | (intros; omega))
  have hM2 : MoI m2 S H T D Fl := ⟨(MS_f mS (fr 57 0 (by first | omega | (intros; omega)) (by first | omega | (intros; omega))) (fun a i x y => fr a i (by first | omega | (intros; omega)) (by first | omega | (intros; omega))) (fun a i x y => fr a i (by first | omega | (intros; omega)) (by first | omega | (intros; omega)))), (MH_f mH (fun a i x y => fr a i (by first | omega | (intros; omega)) (by first | omega | (intros; omega)))), (MT_f mT (fr 57 22 (by first | omega | (intros; omega)) (by first | omega | (intros; omega))) (fun i => fr 76 i (by first | omega | (intros; omega)) (by first | omega | (intros; omega)))), (MTD_f mD (fr 57 24 (by first | omega | (intros; omega)) (by first | omega | (intros; omega))) (fun i => fr 77 i (by first | omega | (intros; omega)) (by first | omega | (intros; omega)))), ((fr 57 23 (by first | omega | (intros; omega)) (by first | omega | (intros; omega))).trans mL), (MF_f mF (fun a i x y => fr a i (by first | omega | (intros; omega)) (by first | omega | (intros; omega)))), (MW_f mW (fr 57 32 (by first | omega | (intros; omega)) (by first | omega | (intros; omega))) (fr 57 27 (by first | omega | (intros; omega)) (by first | omega | (intros; omega))) (fun a i x y => fr a i (by first | omega | (intros; omega)) (by first | omega | (intros; omega))))⟩
  exact ⟨_, σ, m1, m2, q1, k1, hW, hB1, hW, Bs_o hB1 (fun b j h => o2 b j (by omega)), CatAll_fr hA1 (fun b j h => o2 b j (by omega)), _, _, _, _, _, _, FcI_o hC1 (fun b j _ _ => o2 b j (by omega)), hM2, hHK, hTK, hTV, hTDK⟩
theorem op_markings (I : Inv L xs σ m) {p : Int} (g1 : -2147483648 ≤ p ∧ p ≤ 2147483647) : ∃ (vv : Int) (σ1 : Sg) (m1 m2 : Mm), Call 63 m_FC_markings [vr 3, vi p] σ m (some (vl vv)) σ1 m1 ∧ Call 5 m_Mo_markings [vr 57, vi p] σ1 m1 (some (vl vv)) σ1 m2 ∧ Wd L σ1 ∧ Bs L xs m1 ∧ Inv L xs σ1 m2 := by
  obtain ⟨hW, hB, hA, S, H, T, D, K, Fl, hC, hM0, hHK, hTK, hTV, hTDK⟩ := I
  have hF := hW.1
  have hMo := hW.2.1
  have hR : SR σ m := hW.sr hB.2.1 hB.2.2
  obtain ⟨cS, cH, cT, cD, cG, cF⟩ := id hC
  obtain ⟨m1, q1, q3⟩ := c_FC_markings (J := m 69) hF cS hR g1
  have o1 : ∀ b j : Int, (b < 3 ∨ 57 ≤ b) → m1 b j = m b j := fun b j h => q3 b j (by omega)
  have hB1 : Bs L xs m1 := Bs_o hB (fun b j h => o1 b j (by omega))
  have hM1 : MoI m1 S H T D Fl := MoI_o hM0 (fun b j h1 h2 => o1 b j (by omega))
  have hC1 : FcI m1 S H T D K Fl := (FcI_sc hC (fun b j x y => q3 b j (by omega)))
  have hMo1 := hMo
  have hA1 : CatAll σ m1 := CatAll_fr hA (fun b j h => o1 b j (by omega))
  obtain ⟨mS, mH, mT, mD, mL, mF, mW⟩ := id hM1
  obtain ⟨m2, k1, fr⟩ := c_Mo_markings hMo1 mS RKI_ok g1
  have e69 : m1 69 = m 69 := by funext j; exact o1 69 j (by omega)
  rw [e69] at k1
  have o2 : ∀ b j : Int, (b < 57 ∨ 87 < b) → m2 b j = m1 b j := fun b j h => fr b j (by first | omega | (intros; omega)) (by first | omega | (intros; omega))
  have hM2 : MoI m2 S H T D Fl := ⟨(MS_f mS (fr 57 0 (by first | omega | (intros; omega)) (by first | omega | (intros; omega))) (fun a i x y => fr a i (by first | omega | (intros; omega)) (by first | omega | (intros; omega))) (fun a i x y => fr a i (by first | omega | (intros; omega)) (by first | omega | (intros; omega)))), (MH_f mH (fun a i x y => fr a i (by first | omega | (intros; omega)) (by first | omega | (intros; omega)))), (MT_f mT (fr 57 22 (by first | omega | (intros; omega)) (by first | omega | (intros; omega))) (fun i => fr 76 i (by first | omega | (intros; omega)) (by first | omega | (intros; omega)))), (MTD_f mD (fr 57 24 (by first | omega | (intros; omega)) (by first | omega | (intros; omega))) (fun i => fr 77 i (by first | omega | (intros; omega)) (by first | omega | (intros; omega)))), ((fr 57 23 (by first | omega | (intros; omega)) (by first | omega | (intros; omega))).trans mL), (MF_f mF (fun a i x y => fr a i (by first | omega | (intros; omega)) (by first | omega | (intros; omega)))), (MW_f mW (fr 57 32 (by first | omega | (intros; omega)) (by first | omega | (intros; omega))) (fr 57 27 (by first | omega | (intros; omega)) (by first | omega | (intros; omega))) (fun a i x y => fr a i (by first | omega | (intros; omega)) (by first | omega | (intros; omega))))⟩
  exact ⟨_, σ, m1, m2, q1, k1, hW, hB1, hW, Bs_o hB1 (fun b j h => o2 b j (by omega)), CatAll_fr hA1 (fun b j h => o2 b j (by omega)), _, _, _, _, _, _, FcI_o hC1 (fun b j _ _ => o2 b j (by omega)), hM2, hHK, hTK, hTV, hTDK⟩
theorem op_between (I : Inv L xs σ m) {p f n : Int} (g1 : -2147483648 ≤ p ∧ p ≤ 2147483647) (g2 : -2147483648 ≤ f ∧ f ≤ 2147483647) (g3 : -2147483648 ≤ n ∧ n ≤ 2147483647) : ∃ (vv : Int) (σ1 : Sg) (m1 m2 : Mm), Call 63 m_FC_between [vr 3, vi p, vi f, vi n] σ m (some (vl vv)) σ1 m1 ∧ Call 5 m_Mo_between [vr 57, vi p, vi f, vi n] σ1 m1 (some (vl vv)) σ1 m2 ∧ Wd L σ1 ∧ Bs L xs m1 ∧ Inv L xs σ1 m2 := by
  obtain ⟨hW, hB, hA, S, H, T, D, K, Fl, hC, hM0, hHK, hTK, hTV, hTDK⟩ := I
  have hF := hW.1
  have hMo := hW.2.1
  have hR : SR σ m := hW.sr hB.2.1 hB.2.2
  obtain ⟨cS, cH, cT, cD, cG, cF⟩ := id hC
  obtain ⟨m1, q1, q3⟩ := c_FC_between (J := m 69) hF cS hR g1 g2 g3
  have o1 : ∀ b j : Int, (b < 3 ∨ 57 ≤ b) → m1 b j = m b j := fun b j h => q3 b j (by omega)
  have hB1 : Bs L xs m1 := Bs_o hB (fun b j h => o1 b j (by omega))
  have hM1 : MoI m1 S H T D Fl := MoI_o hM0 (fun b j h1 h2 => o1 b j (by omega))
  have hC1 : FcI m1 S H T D K Fl := (FcI_sc hC (fun b j x y => q3 b j (by omega)))
  have hMo1 := hMo
  have hA1 : CatAll σ m1 := CatAll_fr hA (fun b j h => o1 b j (by omega))
  obtain ⟨mS, mH, mT, mD, mL, mF, mW⟩ := id hM1
  obtain ⟨m2, k1, fr⟩ := c_Mo_between hMo1 mS RKI_ok g1 g2 g3
  have e69 : m1 69 = m 69 := by funext j; exact o1 69 j (by omega)
  rw [e69] at k1
  have o2 : ∀ b j : Int, (b < 57 ∨ 87 < b) → m2 b j = m1 b j := fun b j h => fr b j (by first | omega | (intros; omega)) (by first | omega | (intros; omega))
  have hM2 : MoI m2 S H T D Fl := ⟨(MS_f mS (fr 57 0 (by first | omega | (intros; omega)) (by first | omega | (intros; omega))) (fun a i x y => fr a i (by first | omega | (intros; omega)) (by first | omega | (intros; omega))) (fun a i x y => fr a i (by first | omega | (intros; omega)) (by first | omega | (intros; omega)))), (MH_f mH (fun a i x y => fr a i (by first | omega | (intros; omega)) (by first | omega | (intros; omega)))), (MT_f mT (fr 57 22 (by first | omega | (intros; omega)) (by first | omega | (intros; omega))) (fun i => fr 76 i (by first | omega | (intros; omega)) (by first | omega | (intros; omega)))), (MTD_f mD (fr 57 24 (by first | omega | (intros; omega)) (by first | omega | (intros; omega))) (fun i => fr 77 i (by first | omega | (intros; omega)) (by first | omega | (intros; omega)))), ((fr 57 23 (by first | omega | (intros; omega)) (by first | omega | (intros; omega))).trans mL), (MF_f mF (fun a i x y => fr a i (by first | omega | (intros; omega)) (by first | omega | (intros; omega)))), (MW_f mW (fr 57 32 (by first | omega | (intros; omega)) (by first | omega | (intros; omega))) (fr 57 27 (by first | omega | (intros; omega)) (by first | omega | (intros; omega))) (fun a i x y => fr a i (by first | omega | (intros; omega)) (by first | omega | (intros; omega))))⟩
  exact ⟨_, σ, m1, m2, q1, k1, hW, hB1, hW, Bs_o hB1 (fun b j h => o2 b j (by omega)), CatAll_fr hA1 (fun b j h => o2 b j (by omega)), _, _, _, _, _, _, FcI_o hC1 (fun b j _ _ => o2 b j (by omega)), hM2, hHK, hTK, hTV, hTDK⟩
theorem op_unlike (I : Inv L xs σ m) {p q : Int} (g1 : -2147483648 ≤ p ∧ p ≤ 2147483647) (g2 : -2147483648 ≤ q ∧ q ≤ 2147483647) : ∃ (vv : Int) (σ1 : Sg) (m1 m2 : Mm), Call 3 m_FC_unlike [vr 3, vi p, vi q] σ m (some (vi vv)) σ1 m1 ∧ Call 3 m_Mo_unlike [vr 57, vi p, vi q] σ1 m1 (some (vi vv)) σ1 m2 ∧ Wd L σ1 ∧ Bs L xs m1 ∧ Inv L xs σ1 m2 := by
  obtain ⟨hW, hB, hA, S, H, T, D, K, Fl, hC, hM0, hHK, hTK, hTV, hTDK⟩ := I
  have hF := hW.1
  have hMo := hW.2.1
  have hR : SR σ m := hW.sr hB.2.1 hB.2.2
  obtain ⟨cS, cH, cT, cD, cG, cF⟩ := id hC
  have q1 := c_FC_unlike hF cS hR g1 g2
  have o1 : ∀ b j : Int, (b < 3 ∨ 57 ≤ b) → m b j = m b j := fun _ _ _ => rfl
  have hB1 : Bs L xs m := Bs_o hB (fun b j h => o1 b j (by omega))
  have hM1 : MoI m S H T D Fl := MoI_o hM0 (fun b j h1 h2 => o1 b j (by omega))
  have hC1 : FcI m S H T D K Fl := hC
  have hMo1 := hMo
  have hA1 : CatAll σ m := CatAll_fr hA (fun b j h => o1 b j (by omega))
  obtain ⟨mS, mH, mT, mD, mL, mF, mW⟩ := id hM1
  have k1 := c_Mo_unlike hMo1 mS g1 g2
  exact ⟨_, σ, m, m, q1, k1, hW, hB1, hW, hB1, hA1, _, _, _, _, _, _, hC1, hM1, hHK, hTK, hTV, hTDK⟩
theorem op_turned (I : Inv L xs σ m) {p : Int} (g1 : -2147483648 ≤ p ∧ p ≤ 2147483647) : ∃ (vv : Int) (σ1 : Sg) (m1 m2 : Mm), Call 4 m_FC_turned [vr 3, vi p] σ m (some (vi vv)) σ1 m1 ∧ Call 3 m_Mo_turned [vr 57, vi p] σ1 m1 (some (vi vv)) σ1 m2 ∧ Wd L σ1 ∧ Bs L xs m1 ∧ Inv L xs σ1 m2 := by
  obtain ⟨hW, hB, hA, S, H, T, D, K, Fl, hC, hM0, hHK, hTK, hTV, hTDK⟩ := I
  have hF := hW.1
  have hMo := hW.2.1
  have hR : SR σ m := hW.sr hB.2.1 hB.2.2
  obtain ⟨cS, cH, cT, cD, cG, cF⟩ := id hC
  have q1 := c_FC_turned hF cS g1
  have o1 : ∀ b j : Int, (b < 3 ∨ 57 ≤ b) → m b j = m b j := fun _ _ _ => rfl
  have hB1 : Bs L xs m := Bs_o hB (fun b j h => o1 b j (by omega))
  have hM1 : MoI m S H T D Fl := MoI_o hM0 (fun b j h1 h2 => o1 b j (by omega))
  have hC1 : FcI m S H T D K Fl := hC
  have hMo1 := hMo
  have hA1 : CatAll σ m := CatAll_fr hA (fun b j h => o1 b j (by omega))
  obtain ⟨mS, mH, mT, mD, mL, mF, mW⟩ := id hM1
  have k1 := c_Mo_turned hMo1 mS g1
  exact ⟨_, σ, m, m, q1, k1, hW, hB1, hW, hB1, hA1, _, _, _, _, _, _, hC1, hM1, hHK, hTK, hTV, hTDK⟩
theorem op_count (I : Inv L xs σ m) {d n : Int} (g1 : -2147483648 ≤ d ∧ d ≤ 2147483647) (g2 : -2147483648 ≤ n ∧ n ≤ 2147483647) : ∃ (vv : Int) (σ1 : Sg) (m1 m2 : Mm), Call 91 m_FC_count [vr 3, vi d, vi n] σ m (some (vl vv)) σ1 m1 ∧ Call 7 m_Mo_count [vr 57, vi d, vi n] σ1 m1 (some (vl vv)) σ1 m2 ∧ Wd L σ1 ∧ Bs L xs m1 ∧ Inv L xs σ1 m2 := by
  obtain ⟨hW, hB, hA, S, H, T, D, K, Fl, hC, hM0, hHK, hTK, hTV, hTDK⟩ := I
  have hF := hW.1
  have hMo := hW.2.1
  have hR : SR σ m := hW.sr hB.2.1 hB.2.2
  obtain ⟨cS, cH, cT, cD, cG, cF⟩ := id hC
  obtain ⟨σ1, m1, q1, hW1, hA1, q3⟩ := c_FC_count hW hR hA g1 g2
  have o1 : ∀ b j : Int, b < 88 → m1 b j = m b j := q3
  have hB1 : Bs L xs m1 := Bs_o hB (fun b j h => o1 b j (by omega))
  have hM1 : MoI m1 S H T D Fl := MoI_o hM0 (fun b j h1 h2 => o1 b j (by omega))
  have hC1 : FcI m1 S H T D K Fl := (FcI_o hC (fun b j _ _ => q3 b j (by omega)))
  have hMo1 := hW1.2.1
  obtain ⟨mS, mH, mT, mD, mL, mF, mW⟩ := id hM1
  obtain ⟨m2, k1, kF, fr⟩ := c_Mo_count hMo1 RMV_ok mF g1 g2
  have o2 : ∀ b j : Int, (b < 57 ∨ 87 < b) → m2 b j = m1 b j := fun b j h => fr b j (by first | omega | (intros; omega)) (by first | omega | (intros; omega)) (by first | omega | (intros; omega)) (by first | omega | (intros; omega))
  have hM2 : MoI m2 S H T D Fl := ⟨(MS_f mS (fr 57 0 (by first | omega | (intros; omega)) (by first | omega | (intros; omega)) (by first | omega | (intros; omega)) (by first | omega | (intros; omega))) (fun a i x y => fr a i (by first | omega | (intros; omega)) (by first | omega | (intros; omega)) (by first | omega | (intros; omega)) (by first | omega | (intros; omega))) (fun a i x y => fr a i (by first | omega | (intros; omega)) (by first | omega | (intros; omega)) (by first | omega | (intros; omega)) (by first | omega | (intros; omega)))), (MH_f mH (fun a i x y => fr a i (by first | omega | (intros; omega)) (by first | omega | (intros; omega)) (by first | omega | (intros; omega)) (by first | omega | (intros; omega)))), (MT_f mT (fr 57 22 (by first | omega | (intros; omega)) (by first | omega | (intros; omega)) (by first | omega | (intros; omega)) (by first | omega | (intros; omega))) (fun i => fr 76 i (by first | omega | (intros; omega)) (by first | omega | (intros; omega)) (by first | omega | (intros; omega)) (by first | omega | (intros; omega)))), (MTD_f mD (fr 57 24 (by first | omega | (intros; omega)) (by first | omega | (intros; omega)) (by first | omega | (intros; omega)) (by first | omega | (intros; omega))) (fun i => fr 77 i (by first | omega | (intros; omega)) (by first | omega | (intros; omega)) (by first | omega | (intros; omega)) (by first | omega | (intros; omega)))), ((fr 57 23 (by first | omega | (intros; omega)) (by first | omega | (intros; omega)) (by first | omega | (intros; omega)) (by first | omega | (intros; omega))).trans mL), kF, (MW_f mW (fr 57 32 (by first | omega | (intros; omega)) (by first | omega | (intros; omega)) (by first | omega | (intros; omega)) (by first | omega | (intros; omega))) (fr 57 27 (by first | omega | (intros; omega)) (by first | omega | (intros; omega)) (by first | omega | (intros; omega)) (by first | omega | (intros; omega))) (fun a i x y => fr a i (by first | omega | (intros; omega)) (by first | omega | (intros; omega)) (by first | omega | (intros; omega)) (by first | omega | (intros; omega))))⟩
  exact ⟨_, σ1, m1, m2, q1, k1, hW1, hB1, hW1, Bs_o hB1 (fun b j h => o2 b j (by omega)), CatAll_fr hA1 (fun b j h => o2 b j (by omega)), _, _, _, _, _, _, FcI_o hC1 (fun b j _ _ => o2 b j (by omega)), hM2, hHK, hTK, hTV, hTDK⟩
theorem op_signed (I : Inv L xs σ m) {d n : Int} (g1 : -2147483648 ≤ d ∧ d ≤ 2147483647) (g2 : -2147483648 ≤ n ∧ n ≤ 2147483647) : ∃ (vv : Int) (σ1 : Sg) (m1 m2 : Mm), Call 91 m_FC_signed [vr 3, vi d, vi n] σ m (some (vl vv)) σ1 m1 ∧ Call 7 m_Mo_signed [vr 57, vi d, vi n] σ1 m1 (some (vl vv)) σ1 m2 ∧ Wd L σ1 ∧ Bs L xs m1 ∧ Inv L xs σ1 m2 := by
  obtain ⟨hW, hB, hA, S, H, T, D, K, Fl, hC, hM0, hHK, hTK, hTV, hTDK⟩ := I
  have hF := hW.1
  have hMo := hW.2.1
  have hR : SR σ m := hW.sr hB.2.1 hB.2.2
  obtain ⟨cS, cH, cT, cD, cG, cF⟩ := id hC
  obtain ⟨σ1, m1, q1, hW1, hA1, q3⟩ := c_FC_signed hW hR hA g1 g2
  have o1 : ∀ b j : Int, b < 88 → m1 b j = m b j := q3
  have hB1 : Bs L xs m1 := Bs_o hB (fun b j h => o1 b j (by omega))
  have hM1 : MoI m1 S H T D Fl := MoI_o hM0 (fun b j h1 h2 => o1 b j (by omega))
  have hC1 : FcI m1 S H T D K Fl := (FcI_o hC (fun b j _ _ => q3 b j (by omega)))
  have hMo1 := hW1.2.1
  obtain ⟨mS, mH, mT, mD, mL, mF, mW⟩ := id hM1
  obtain ⟨m2, k1, kF, fr⟩ := c_Mo_signed hMo1 RMV_ok mF g1 g2
  have o2 : ∀ b j : Int, (b < 57 ∨ 87 < b) → m2 b j = m1 b j := fun b j h => fr b j (by first | omega | (intros; omega)) (by first | omega | (intros; omega)) (by first | omega | (intros; omega)) (by first | omega | (intros; omega))
  have hM2 : MoI m2 S H T D Fl := ⟨(MS_f mS (fr 57 0 (by first | omega | (intros; omega)) (by first | omega | (intros; omega)) (by first | omega | (intros; omega)) (by first | omega | (intros; omega))) (fun a i x y => fr a i (by first | omega | (intros; omega)) (by first | omega | (intros; omega)) (by first | omega | (intros; omega)) (by first | omega | (intros; omega))) (fun a i x y => fr a i (by first | omega | (intros; omega)) (by first | omega | (intros; omega)) (by first | omega | (intros; omega)) (by first | omega | (intros; omega)))), (MH_f mH (fun a i x y => fr a i (by first | omega | (intros; omega)) (by first | omega | (intros; omega)) (by first | omega | (intros; omega)) (by first | omega | (intros; omega)))), (MT_f mT (fr 57 22 (by first | omega | (intros; omega)) (by first | omega | (intros; omega)) (by first | omega | (intros; omega)) (by first | omega | (intros; omega))) (fun i => fr 76 i (by first | omega | (intros; omega)) (by first | omega | (intros; omega)) (by first | omega | (intros; omega)) (by first | omega | (intros; omega)))), (MTD_f mD (fr 57 24 (by first | omega | (intros; omega)) (by first | omega | (intros; omega)) (by first | omega | (intros; omega)) (by first | omega | (intros; omega))) (fun i => fr 77 i (by first | omega | (intros; omega)) (by first | omega | (intros; omega)) (by first | omega | (intros; omega)) (by first | omega | (intros; omega)))), ((fr 57 23 (by first | omega | (intros; omega)) (by first | omega | (intros; omega)) (by first | omega | (intros; omega)) (by first | omega | (intros; omega))).trans mL), kF, (MW_f mW (fr 57 32 (by first | omega | (intros; omega)) (by first | omega | (intros; omega)) (by first | omega | (intros; omega)) (by first | omega | (intros; omega))) (fr 57 27 (by first | omega | (intros; omega)) (by first | omega | (intros; omega)) (by first | omega | (intros; omega)) (by first | omega | (intros; omega))) (fun a i x y => fr a i (by first | omega | (intros; omega)) (by first | omega | (intros; omega)) (by first | omega | (intros; omega)) (by first | omega | (intros; omega))))⟩
  exact ⟨_, σ1, m1, m2, q1, k1, hW1, hB1, hW1, Bs_o hB1 (fun b j h => o2 b j (by omega)), CatAll_fr hA1 (fun b j h => o2 b j (by omega)), _, _, _, _, _, _, FcI_o hC1 (fun b j _ _ => o2 b j (by omega)), hM2, hHK, hTK, hTV, hTDK⟩
theorem op_spreadAll (I : Inv L xs σ m) {d n k : Int} (g1 : -2147483648 ≤ d ∧ d ≤ 2147483647) (g2 : -2147483648 ≤ n ∧ n ≤ 2147483647) (g3 : -2147483648 ≤ k ∧ k ≤ 2147483647) : ∃ (vv : Int) (σ1 : Sg) (m1 m2 : Mm), Call 91 m_FC_spreadAll [vr 3, vi d, vi n, vi k] σ m (some (vl vv)) σ1 m1 ∧ Call 7 m_Mo_spreadAll [vr 57, vi d, vi n, vi k] σ1 m1 (some (vl vv)) σ1 m2 ∧ Wd L σ1 ∧ Bs L xs m1 ∧ Inv L xs σ1 m2 := by
  obtain ⟨hW, hB, hA, S, H, T, D, K, Fl, hC, hM0, hHK, hTK, hTV, hTDK⟩ := I
  have hF := hW.1
  have hMo := hW.2.1
  have hR : SR σ m := hW.sr hB.2.1 hB.2.2
  obtain ⟨cS, cH, cT, cD, cG, cF⟩ := id hC
  obtain ⟨σ1, m1, q1, hW1, hA1, q3⟩ := c_FC_spreadAll hW hR hA g1 g2 g3
  have o1 : ∀ b j : Int, b < 88 → m1 b j = m b j := q3
  have hB1 : Bs L xs m1 := Bs_o hB (fun b j h => o1 b j (by omega))
  have hM1 : MoI m1 S H T D Fl := MoI_o hM0 (fun b j h1 h2 => o1 b j (by omega))
  have hC1 : FcI m1 S H T D K Fl := (FcI_o hC (fun b j _ _ => q3 b j (by omega)))
  have hMo1 := hW1.2.1
  obtain ⟨mS, mH, mT, mD, mL, mF, mW⟩ := id hM1
  obtain ⟨m2, k1, kF, fr⟩ := c_Mo_spreadAll hMo1 RMV_ok mF g1 g2 g3
  have o2 : ∀ b j : Int, (b < 57 ∨ 87 < b) → m2 b j = m1 b j := fun b j h => fr b j (by first | omega | (intros; omega)) (by first | omega | (intros; omega)) (by first | omega | (intros; omega)) (by first | omega | (intros; omega))
  have hM2 : MoI m2 S H T D Fl := ⟨(MS_f mS (fr 57 0 (by first | omega | (intros; omega)) (by first | omega | (intros; omega)) (by first | omega | (intros; omega)) (by first | omega | (intros; omega))) (fun a i x y => fr a i (by first | omega | (intros; omega)) (by first | omega | (intros; omega)) (by first | omega | (intros; omega)) (by first | omega | (intros; omega))) (fun a i x y => fr a i (by first | omega | (intros; omega)) (by first | omega | (intros; omega)) (by first | omega | (intros; omega)) (by first | omega | (intros; omega)))), (MH_f mH (fun a i x y => fr a i (by first | omega | (intros; omega)) (by first | omega | (intros; omega)) (by first | omega | (intros; omega)) (by first | omega | (intros; omega)))), (MT_f mT (fr 57 22 (by first | omega | (intros; omega)) (by first | omega | (intros; omega)) (by first | omega | (intros; omega)) (by first | omega | (intros; omega))) (fun i => fr 76 i (by first | omega | (intros; omega)) (by first | omega | (intros; omega)) (by first | omega | (intros; omega)) (by first | omega | (intros; omega)))), (MTD_f mD (fr 57 24 (by first | omega | (intros; omega)) (by first | omega | (intros; omega)) (by first | omega | (intros; omega)) (by first | omega | (intros; omega))) (fun i => fr 77 i (by first | omega | (intros; omega)) (by first | omega | (intros; omega)) (by first | omega | (intros; omega)) (by first | omega | (intros; omega)))), ((fr 57 23 (by first | omega | (intros; omega)) (by first | omega | (intros; omega)) (by first | omega | (intros; omega)) (by first | omega | (intros; omega))).trans mL), kF, (MW_f mW (fr 57 32 (by first | omega | (intros; omega)) (by first | omega | (intros; omega)) (by first | omega | (intros; omega)) (by first | omega | (intros; omega))) (fr 57 27 (by first | omega | (intros; omega)) (by first | omega | (intros; omega)) (by first | omega | (intros; omega)) (by first | omega | (intros; omega))) (fun a i x y => fr a i (by first | omega | (intros; omega)) (by first | omega | (intros; omega)) (by first | omega | (intros; omega)) (by first | omega | (intros; omega))))⟩
  exact ⟨_, σ1, m1, m2, q1, k1, hW1, hB1, hW1, Bs_o hB1 (fun b j h => o2 b j (by omega)), CatAll_fr hA1 (fun b j h => o2 b j (by omega)), _, _, _, _, _, _, FcI_o hC1 (fun b j _ _ => o2 b j (by omega)), hM2, hHK, hTK, hTV, hTDK⟩
theorem op_listed (I : Inv L xs σ m) {d n : Int} (g1 : -2147483648 ≤ d ∧ d ≤ 2147483647) (g2 : -2147483648 ≤ n ∧ n ≤ 2147483647) : ∃ (vv : Int) (σ1 : Sg) (m1 m2 : Mm), Call 91 m_FC_listed [vr 3, vi d, vi n] σ m (some (vi vv)) σ1 m1 ∧ Call 7 m_Mo_listed [vr 57, vi d, vi n] σ1 m1 (some (vi vv)) σ1 m2 ∧ Wd L σ1 ∧ Bs L xs m1 ∧ Inv L xs σ1 m2 := by
  obtain ⟨hW, hB, hA, S, H, T, D, K, Fl, hC, hM0, hHK, hTK, hTV, hTDK⟩ := I
  have hF := hW.1
  have hMo := hW.2.1
  have hR : SR σ m := hW.sr hB.2.1 hB.2.2
  obtain ⟨cS, cH, cT, cD, cG, cF⟩ := id hC
  obtain ⟨σ1, m1, q1, hW1, hA1, q3⟩ := c_FC_listed hW hR hA g1 g2
  have o1 : ∀ b j : Int, b < 88 → m1 b j = m b j := q3
  have hB1 : Bs L xs m1 := Bs_o hB (fun b j h => o1 b j (by omega))
  have hM1 : MoI m1 S H T D Fl := MoI_o hM0 (fun b j h1 h2 => o1 b j (by omega))
  have hC1 : FcI m1 S H T D K Fl := (FcI_o hC (fun b j _ _ => q3 b j (by omega)))
  have hMo1 := hW1.2.1
  obtain ⟨mS, mH, mT, mD, mL, mF, mW⟩ := id hM1
  obtain ⟨m2, k1, kF, fr⟩ := c_Mo_listed hMo1 RMV_ok mF g1 g2
  have o2 : ∀ b j : Int, (b < 57 ∨ 87 < b) → m2 b j = m1 b j := fun b j h => fr b j (by first | omega | (intros; omega)) (by first | omega | (intros; omega)) (by first | omega | (intros; omega)) (by first | omega | (intros; omega))
  have hM2 : MoI m2 S H T D Fl := ⟨(MS_f mS (fr 57 0 (by first | omega | (intros; omega)) (by first | omega | (intros; omega)) (by first | omega | (intros; omega)) (by first | omega | (intros; omega))) (fun a i x y => fr a i (by first | omega | (intros; omega)) (by first | omega | (intros; omega)) (by first | omega | (intros; omega)) (by first | omega | (intros; omega))) (fun a i x y => fr a i (by first | omega | (intros; omega)) (by first | omega | (intros; omega)) (by first | omega | (intros; omega)) (by first | omega | (intros; omega)))), (MH_f mH (fun a i x y => fr a i (by first | omega | (intros; omega)) (by first | omega | (intros; omega)) (by first | omega | (intros; omega)) (by first | omega | (intros; omega)))), (MT_f mT (fr 57 22 (by first | omega | (intros; omega)) (by first | omega | (intros; omega)) (by first | omega | (intros; omega)) (by first | omega | (intros; omega))) (fun i => fr 76 i (by first | omega | (intros; omega)) (by first | omega | (intros; omega)) (by first | omega | (intros; omega)) (by first | omega | (intros; omega)))), (MTD_f mD (fr 57 24 (by first | omega | (intros; omega)) (by first | omega | (intros; omega)) (by first | omega | (intros; omega)) (by first | omega | (intros; omega))) (fun i => fr 77 i (by first | omega | (intros; omega)) (by first | omega | (intros; omega)) (by first | omega | (intros; omega)) (by first | omega | (intros; omega)))), ((fr 57 23 (by first | omega | (intros; omega)) (by first | omega | (intros; omega)) (by first | omega | (intros; omega)) (by first | omega | (intros; omega))).trans mL), kF, (MW_f mW (fr 57 32 (by first | omega | (intros; omega)) (by first | omega | (intros; omega)) (by first | omega | (intros; omega)) (by first | omega | (intros; omega))) (fr 57 27 (by first | omega | (intros; omega)) (by first | omega | (intros; omega)) (by first | omega | (intros; omega)) (by first | omega | (intros; omega))) (fun a i x y => fr a i (by first | omega | (intros; omega)) (by first | omega | (intros; omega)) (by first | omega | (intros; omega)) (by first | omega | (intros; omega))))⟩
  exact ⟨_, σ1, m1, m2, q1, k1, hW1, hB1, hW1, Bs_o hB1 (fun b j h => o2 b j (by omega)), CatAll_fr hA1 (fun b j h => o2 b j (by omega)), _, _, _, _, _, _, FcI_o hC1 (fun b j _ _ => o2 b j (by omega)), hM2, hHK, hTK, hTV, hTDK⟩
theorem op_take (I : Inv L xs σ m) {d n i : Int} (g1 : -2147483648 ≤ d ∧ d ≤ 2147483647) (g2 : -2147483648 ≤ n ∧ n ≤ 2147483647) (g3 : -2147483648 ≤ i ∧ i ≤ 2147483647) : ∃ (vv : Int) (σ1 : Sg) (m1 m2 : Mm), Call 91 m_FC_take [vr 3, vi d, vi n, vi i] σ m (some (vi vv)) σ1 m1 ∧ Call 7 m_Mo_take [vr 57, vi d, vi n, vi i] σ1 m1 (some (vi vv)) σ1 m2 ∧ Wd L σ1 ∧ Bs L xs m1 ∧ Inv L xs σ1 m2 := by
  obtain ⟨hW, hB, hA, S, H, T, D, K, Fl, hC, hM0, hHK, hTK, hTV, hTDK⟩ := I
  have hF := hW.1
  have hMo := hW.2.1
  have hR : SR σ m := hW.sr hB.2.1 hB.2.2
  obtain ⟨cS, cH, cT, cD, cG, cF⟩ := id hC
  obtain ⟨σ1, m1, q1, hW1, hA1, q2, q3⟩ := c_FC_take hW hR hA cS g1 g2 g3
  have o1 : ∀ b j : Int, b < 88 → (b < 3 ∨ 57 ≤ b) → m1 b j = m b j := fun b j x y => q3 b j x (by omega) (by omega) (by omega)
  have hB1 : Bs L xs m1 := Bs_o hB (fun b j h => o1 b j (by omega) (by omega))
  have hM1 : MoI m1 S H T D Fl := MoI_o hM0 (fun b j h1 h2 => o1 b j (by omega) (by omega))
  have hC1 : FcI m1 (st_take S d n i) H T D K Fl := (FcI_pi hC q2 (fun b j h x y z => q3 b j (by omega) x y z))
  have hMo1 := hW1.2.1
  obtain ⟨mS, mH, mT, mD, mL, mF, mW⟩ := id hM1
  obtain ⟨m2, k1, kS, kF, fr⟩ := c_Mo_take hMo1 RMV_ok mF mS g1 g2 g3
  have o2 : ∀ b j : Int, (b < 57 ∨ 87 < b) → m2 b j = m1 b j := fun b j h => fr b j (by first | omega | (intros; omega)) (by first | omega | (intros; omega))
  have hM2 : MoI m2 (st_take S d n i) H T D Fl := ⟨kS, (MH_f mH (fun a i x y => fr a i (by first | omega | (intros; omega)) (by first | omega | (intros; omega)))), (MT_f mT (fr 57 22 (by first | omega | (intros; omega)) (by first | omega | (intros; omega))) (fun i => fr 76 i (by first | omega | (intros; omega)) (by first | omega | (intros; omega)))), (MTD_f mD (fr 57 24 (by first | omega | (intros; omega)) (by first | omega | (intros; omega))) (fun i => fr 77 i (by first | omega | (intros; omega)) (by first | omega | (intros; omega)))), ((fr 57 23 (by first | omega | (intros; omega)) (by first | omega | (intros; omega))).trans mL), kF, (MW_f mW (fr 57 32 (by first | omega | (intros; omega)) (by first | omega | (intros; omega))) (fr 57 27 (by first | omega | (intros; omega)) (by first | omega | (intros; omega))) (fun a i x y => fr a i (by first | omega | (intros; omega)) (by first | omega | (intros; omega))))⟩
  exact ⟨_, σ1, m1, m2, q1, k1, hW1, hB1, hW1, Bs_o hB1 (fun b j h => o2 b j (by omega)), CatAll_fr hA1 (fun b j h => o2 b j (by omega)), _, _, _, _, _, _, FcI_o hC1 (fun b j _ _ => o2 b j (by omega)), hM2, hHK, hTK, hTV, hTDK⟩
theorem op_place (I : Inv L xs σ m) {p : Int} (g1 : -2147483648 ≤ p ∧ p ≤ 2147483647) : ∃ (vv : Int) (σ1 : Sg) (m1 m2 : Mm), Call 91 m_FC_place [vr 3, vi p] σ m (some (vi vv)) σ1 m1 ∧ Call 7 m_Mo_place [vr 57, vi p] σ1 m1 (some (vi vv)) σ1 m2 ∧ Wd L σ1 ∧ Bs L xs m1 ∧ Inv L xs σ1 m2 := by
  obtain ⟨hW, hB, hA, S, H, T, D, K, Fl, hC, hM0, hHK, hTK, hTV, hTDK⟩ := I
  have hF := hW.1
  have hMo := hW.2.1
  have hR : SR σ m := hW.sr hB.2.1 hB.2.2
  obtain ⟨cS, cH, cT, cD, cG, cF⟩ := id hC
  obtain ⟨σ1, m1, q1, hW1, hA1, q3⟩ := c_FC_place hW hR hA cS g1
  have o1 : ∀ b j : Int, b < 88 → m1 b j = m b j := q3
  have hB1 : Bs L xs m1 := Bs_o hB (fun b j h => o1 b j (by omega))
  have hM1 : MoI m1 S H T D Fl := MoI_o hM0 (fun b j h1 h2 => o1 b j (by omega))
  have hC1 : FcI m1 S H T D K Fl := (FcI_o hC (fun b j _ _ => q3 b j (by omega)))
  have hMo1 := hW1.2.1
  obtain ⟨mS, mH, mT, mD, mL, mF, mW⟩ := id hM1
  obtain ⟨m2, k1, kF, fr⟩ := c_Mo_place hMo1 mS mF g1
  have o2 : ∀ b j : Int, (b < 57 ∨ 87 < b) → m2 b j = m1 b j := fun b j h => fr b j (by first | omega | (intros; omega)) (by first | omega | (intros; omega)) (by first | omega | (intros; omega)) (by first | omega | (intros; omega))
  have hM2 : MoI m2 S H T D Fl := ⟨(MS_f mS (fr 57 0 (by first | omega | (intros; omega)) (by first | omega | (intros; omega)) (by first | omega | (intros; omega)) (by first | omega | (intros; omega))) (fun a i x y => fr a i (by first | omega | (intros; omega)) (by first | omega | (intros; omega)) (by first | omega | (intros; omega)) (by first | omega | (intros; omega))) (fun a i x y => fr a i (by first | omega | (intros; omega)) (by first | omega | (intros; omega)) (by first | omega | (intros; omega)) (by first | omega | (intros; omega)))), (MH_f mH (fun a i x y => fr a i (by first | omega | (intros; omega)) (by first | omega | (intros; omega)) (by first | omega | (intros; omega)) (by first | omega | (intros; omega)))), (MT_f mT (fr 57 22 (by first | omega | (intros; omega)) (by first | omega | (intros; omega)) (by first | omega | (intros; omega)) (by first | omega | (intros; omega))) (fun i => fr 76 i (by first | omega | (intros; omega)) (by first | omega | (intros; omega)) (by first | omega | (intros; omega)) (by first | omega | (intros; omega)))), (MTD_f mD (fr 57 24 (by first | omega | (intros; omega)) (by first | omega | (intros; omega)) (by first | omega | (intros; omega)) (by first | omega | (intros; omega))) (fun i => fr 77 i (by first | omega | (intros; omega)) (by first | omega | (intros; omega)) (by first | omega | (intros; omega)) (by first | omega | (intros; omega)))), ((fr 57 23 (by first | omega | (intros; omega)) (by first | omega | (intros; omega)) (by first | omega | (intros; omega)) (by first | omega | (intros; omega))).trans mL), kF, (MW_f mW (fr 57 32 (by first | omega | (intros; omega)) (by first | omega | (intros; omega)) (by first | omega | (intros; omega)) (by first | omega | (intros; omega))) (fr 57 27 (by first | omega | (intros; omega)) (by first | omega | (intros; omega)) (by first | omega | (intros; omega)) (by first | omega | (intros; omega))) (fun a i x y => fr a i (by first | omega | (intros; omega)) (by first | omega | (intros; omega)) (by first | omega | (intros; omega)) (by first | omega | (intros; omega))))⟩
  exact ⟨_, σ1, m1, m2, q1, k1, hW1, hB1, hW1, Bs_o hB1 (fun b j h => o2 b j (by omega)), CatAll_fr hA1 (fun b j h => o2 b j (by omega)), _, _, _, _, _, _, FcI_o hC1 (fun b j _ _ => o2 b j (by omega)), hM2, hHK, hTK, hTV, hTDK⟩
theorem op_feed (I : Inv L xs σ m) {v : Int} (g1 : -9223372036854775808 ≤ v ∧ v ≤ 9223372036854775807) : ∃ (vv : Int) (σ1 : Sg) (m1 m2 : Mm), Call 2 m_FC_feed [vr 3, vl v] σ m (some (vi vv)) σ1 m1 ∧ Call 1 m_Mo_feed [vr 57, vl v] σ1 m1 (some (vi vv)) σ1 m2 ∧ Wd L σ1 ∧ Bs L xs m1 ∧ Inv L xs σ1 m2 := by
  obtain ⟨hW, hB, hA, S, H, T, D, K, Fl, hC, hM0, hHK, hTK, hTV, hTDK⟩ := I
  have hF := hW.1
  have hMo := hW.2.1
  have hR : SR σ m := hW.sr hB.2.1 hB.2.2
  obtain ⟨cS, cH, cT, cD, cG, cF⟩ := id hC
  obtain ⟨m1, q1, q2, q3⟩ := c_FC_feed hF cT hTK g1
  have o1 : ∀ b j : Int, (b < 3 ∨ 57 ≤ b) → m1 b j = m b j := fun b j h => q3 b j (by omega) (by omega)
  have hB1 : Bs L xs m1 := Bs_o hB (fun b j h => o1 b j (by omega))
  have hM1 : MoI m1 S H T D Fl := MoI_o hM0 (fun b j h1 h2 => o1 b j (by omega))
  have hC1 : FcI m1 S H (st_feed T v) D K Fl := (FcI_tp hC q2 (fun b j x y => q3 b j x y))
  have hMo1 := hMo
  have hA1 : CatAll σ m1 := CatAll_fr hA (fun b j h => o1 b j (by omega))
  obtain ⟨mS, mH, mT, mD, mL, mF, mW⟩ := id hM1
  obtain ⟨m2, k1, kT, fr⟩ := c_Mo_feed hMo1 mT hTK g1
  have o2 : ∀ b j : Int, (b < 57 ∨ 87 < b) → m2 b j = m1 b j := fun b j h => fr b j (by first | omega | (intros; omega)) (by first | omega | (intros; omega))
  have hM2 : MoI m2 S H (st_feed T v) D Fl := ⟨(MS_f mS (fr 57 0 (by first | omega | (intros; omega)) (by first | omega | (intros; omega))) (fun a i x y => fr a i (by first | omega | (intros; omega)) (by first | omega | (intros; omega))) (fun a i x y => fr a i (by first | omega | (intros; omega)) (by first | omega | (intros; omega)))), (MH_f mH (fun a i x y => fr a i (by first | omega | (intros; omega)) (by first | omega | (intros; omega)))), kT, (MTD_f mD (fr 57 24 (by first | omega | (intros; omega)) (by first | omega | (intros; omega))) (fun i => fr 77 i (by first | omega | (intros; omega)) (by first | omega | (intros; omega)))), ((fr 57 23 (by first | omega | (intros; omega)) (by first | omega | (intros; omega))).trans mL), (MF_f mF (fun a i x y => fr a i (by first | omega | (intros; omega)) (by first | omega | (intros; omega)))), (MW_f mW (fr 57 32 (by first | omega | (intros; omega)) (by first | omega | (intros; omega))) (fr 57 27 (by first | omega | (intros; omega)) (by first | omega | (intros; omega))) (fun a i x y => fr a i (by first | omega | (intros; omega)) (by first | omega | (intros; omega))))⟩
  exact ⟨_, σ, m1, m2, q1, k1, hW, hB1, hW, Bs_o hB1 (fun b j h => o2 b j (by omega)), CatAll_fr hA1 (fun b j h => o2 b j (by omega)), _, _, _, _, _, _, FcI_o hC1 (fun b j _ _ => o2 b j (by omega)), hM2, hHK, st_feed_K hTK v, hTV, hTDK⟩
theorem op_end (I : Inv L xs σ m) {n : Int} (g1 : -2147483648 ≤ n ∧ n ≤ 2147483647) : ∃ (vv : Int) (σ1 : Sg) (m1 m2 : Mm), Call 2 m_FC_end [vr 3, vi n] σ m (some (vi vv)) σ1 m1 ∧ Call 2 m_Mo_end [vr 57, vi n] σ1 m1 (some (vi vv)) σ1 m2 ∧ Wd L σ1 ∧ Bs L xs m1 ∧ Inv L xs σ1 m2 := by
  obtain ⟨hW, hB, hA, S, H, T, D, K, Fl, hC, hM0, hHK, hTK, hTV, hTDK⟩ := I
  have hF := hW.1
  have hMo := hW.2.1
  have hR : SR σ m := hW.sr hB.2.1 hB.2.2
  obtain ⟨cS, cH, cT, cD, cG, cF⟩ := id hC
  obtain ⟨m1, q1, q2, q3⟩ := c_FC_end hF cT hTK g1
  have o1 : ∀ b j : Int, (b < 3 ∨ 57 ≤ b) → m1 b j = m b j := fun b j h => q3 b j (by omega)
  have hB1 : Bs L xs m1 := Bs_o hB (fun b j h => o1 b j (by omega))
  have hM1 : MoI m1 S H T D Fl := MoI_o hM0 (fun b j h1 h2 => o1 b j (by omega))
  have hC1 : FcI m1 S H (st_end T n) D K Fl := (FcI_tp hC q2 (fun b j x y => q3 b j x))
  have hMo1 := hMo
  have hA1 : CatAll σ m1 := CatAll_fr hA (fun b j h => o1 b j (by omega))
  obtain ⟨mS, mH, mT, mD, mL, mF, mW⟩ := id hM1
  obtain ⟨m2, k1, kT, fr⟩ := c_Mo_end hMo1 mT hTK g1
  have o2 : ∀ b j : Int, (b < 57 ∨ 87 < b) → m2 b j = m1 b j := fun b j h => fr b j (by first | omega | (intros; omega)) (by first | omega | (intros; omega))
  have hM2 : MoI m2 S H (st_end T n) D Fl := ⟨(MS_f mS (fr 57 0 (by first | omega | (intros; omega)) (by first | omega | (intros; omega))) (fun a i x y => fr a i (by first | omega | (intros; omega)) (by first | omega | (intros; omega))) (fun a i x y => fr a i (by first | omega | (intros; omega)) (by first | omega | (intros; omega)))), (MH_f mH (fun a i x y => fr a i (by first | omega | (intros; omega)) (by first | omega | (intros; omega)))), kT, (MTD_f mD (fr 57 24 (by first | omega | (intros; omega)) (by first | omega | (intros; omega))) (fun i => fr 77 i (by first | omega | (intros; omega)) (by first | omega | (intros; omega)))), ((fr 57 23 (by first | omega | (intros; omega)) (by first | omega | (intros; omega))).trans mL), (MF_f mF (fun a i x y => fr a i (by first | omega | (intros; omega)) (by first | omega | (intros; omega)))), (MW_f mW (fr 57 32 (by first | omega | (intros; omega)) (by first | omega | (intros; omega))) (fr 57 27 (by first | omega | (intros; omega)) (by first | omega | (intros; omega))) (fun a i x y => fr a i (by first | omega | (intros; omega)) (by first | omega | (intros; omega))))⟩
  exact ⟨_, σ, m1, m2, q1, k1, hW, hB1, hW, Bs_o hB1 (fun b j h => o2 b j (by omega)), CatAll_fr hA1 (fun b j h => o2 b j (by omega)), _, _, _, _, _, _, FcI_o hC1 (fun b j _ _ => o2 b j (by omega)), hM2, hHK, st_end_K hTK n, hTV, hTDK⟩
theorem op_text (I : Inv L xs σ m)  : ∃ (vv : Int) (σ1 : Sg) (m1 m2 : Mm), Call 3 m_FC_text [vr 3] σ m (some (vi vv)) σ1 m1 ∧ Call 3 m_Mo_text [vr 57] σ1 m1 (some (vi vv)) σ1 m2 ∧ Wd L σ1 ∧ Bs L xs m1 ∧ Inv L xs σ1 m2 := by
  obtain ⟨hW, hB, hA, S, H, T, D, K, Fl, hC, hM0, hHK, hTK, hTV, hTDK⟩ := I
  have hF := hW.1
  have hMo := hW.2.1
  have hR : SR σ m := hW.sr hB.2.1 hB.2.2
  obtain ⟨cS, cH, cT, cD, cG, cF⟩ := id hC
  obtain ⟨m1, q1, q2, q2b, q2c, q3⟩ := c_FC_text hF cT hTK cD
  have o1 : ∀ b j : Int, (b < 3 ∨ 57 ≤ b) → m1 b j = m b j := fun b j h => q3 b j (by omega)
  have hB1 : Bs L xs m1 := Bs_o hB (fun b j h => o1 b j (by omega))
  have hM1 : MoI m1 S H T D Fl := MoI_o hM0 (fun b j h1 h2 => o1 b j (by omega))
  have hC1 : FcI m1 S H (0, T.2) (st_textD T D) K (txt T).1 := (FcI_tx hC q2 q2c (q2b.trans (by split <;> simp_all)) q3)
  have hMo1 := hMo
  have hA1 : CatAll σ m1 := CatAll_fr hA (fun b j h => o1 b j (by omega))
  obtain ⟨mS, mH, mT, mD, mL, mF, mW⟩ := id hM1
  obtain ⟨m2, k1, kT, kL, kD, fr⟩ := c_Mo_text hMo1 mT hTK mD
  have o2 : ∀ b j : Int, (b < 57 ∨ 87 < b) → m2 b j = m1 b j := fun b j h => fr b j (by first | omega | (intros; omega)) (by first | omega | (intros; omega)) (by first | omega | (intros; omega))
  have hM2 : MoI m2 S H (0, T.2) (st_textD T D) (txt T).1 := ⟨(MS_f mS (fr 57 0 (by first | omega | (intros; omega)) (by first | omega | (intros; omega)) (by first | omega | (intros; omega))) (fun a i x y => fr a i (by first | omega | (intros; omega)) (by first | omega | (intros; omega)) (by first | omega | (intros; omega))) (fun a i x y => fr a i (by first | omega | (intros; omega)) (by first | omega | (intros; omega)) (by first | omega | (intros; omega)))), (MH_f mH (fun a i x y => fr a i (by first | omega | (intros; omega)) (by first | omega | (intros; omega)) (by first | omega | (intros; omega)))), kT, kD, kL, (MF_f mF (fun a i x y => fr a i (by first | omega | (intros; omega)) (by first | omega | (intros; omega)) (by first | omega | (intros; omega)))), (MW_f mW (fr 57 32 (by first | omega | (intros; omega)) (by first | omega | (intros; omega)) (by first | omega | (intros; omega))) (fr 57 27 (by first | omega | (intros; omega)) (by first | omega | (intros; omega)) (by first | omega | (intros; omega))) (fun a i x y => fr a i (by first | omega | (intros; omega)) (by first | omega | (intros; omega)) (by first | omega | (intros; omega))))⟩
  exact ⟨_, σ, m1, m2, q1, k1, hW, hB1, hW, Bs_o hB1 (fun b j h => o2 b j (by omega)), CatAll_fr hA1 (fun b j h => o2 b j (by omega)), _, _, _, _, _, _, FcI_o hC1 (fun b j _ _ => o2 b j (by omega)), hM2, hHK, ⟨⟨Int.le_refl 0, by show (0 : Int) ≤ 80; decide⟩, fun i a b => by have b : i < 0 := b; omega⟩, st_textD_V hTV, st_textD_K hTDK⟩
theorem op_tangent (I : Inv L xs σ m) {n : Int} (g1 : -2147483648 ≤ n ∧ n ≤ 2147483647) : ∃ (vv : Int) (σ1 : Sg) (m1 m2 : Mm), Call 16 m_FC_tangent [vr 3, vi n] σ m (some (vl vv)) σ1 m1 ∧ Call 5 m_Mo_tangent [vr 57, vi n] σ1 m1 (some (vl vv)) σ1 m2 ∧ Wd L σ1 ∧ Bs L xs m1 ∧ Inv L xs σ1 m2 := by
  obtain ⟨hW, hB, hA, S, H, T, D, K, Fl, hC, hM0, hHK, hTK, hTV, hTDK⟩ := I
  have hF := hW.1
  have hMo := hW.2.1
  have hR : SR σ m := hW.sr hB.2.1 hB.2.2
  obtain ⟨cS, cH, cT, cD, cG, cF⟩ := id hC
  obtain ⟨i, hi⟩ := TDV_i hTV
  obtain ⟨m1, q1, ⟨K1, q2⟩, q3⟩ := c_FC_tangent hF cD hTV hi cG g1
  have o1 : ∀ b j : Int, (b < 3 ∨ 57 ≤ b) → m1 b j = m b j := fun b j h => q3 b j (by omega)
  have hB1 : Bs L xs m1 := Bs_o hB (fun b j h => o1 b j (by omega))
  have hM1 : MoI m1 S H T D Fl := MoI_o hM0 (fun b j h1 h2 => o1 b j (by omega))
  have hC1 : FcI m1 S H T D K1 Fl := (FcI_tg hC q2 q3)
  have hMo1 := hMo
  have hA1 : CatAll σ m1 := CatAll_fr hA (fun b j h => o1 b j (by omega))
  obtain ⟨mS, mH, mT, mD, mL, mF, mW⟩ := id hM1
  obtain ⟨m2, k1, kW, fr⟩ := c_Mo_tangent hMo1 mD hTDK hi mW g1
  have o2 : ∀ b j : Int, (b < 57 ∨ 87 < b) → m2 b j = m1 b j := fun b j h => fr b j (by first | omega | (intros; omega)) (by first | omega | (intros; omega)) (by first | omega | (intros; omega)) (by first | omega | (intros; omega)) (by first | omega | (intros; omega)) (by first | omega | (intros; omega))
  have hM2 : MoI m2 S H T D Fl := ⟨(MS_f mS (fr 57 0 (by first | omega | (intros; omega)) (by first | omega | (intros; omega)) (by first | omega | (intros; omega)) (by first | omega | (intros; omega)) (by first | omega | (intros; omega)) (by first | omega | (intros; omega))) (fun a i x y => fr a i (by first | omega | (intros; omega)) (by first | omega | (intros; omega)) (by first | omega | (intros; omega)) (by first | omega | (intros; omega)) (by first | omega | (intros; omega)) (by first | omega | (intros; omega))) (fun a i x y => fr a i (by first | omega | (intros; omega)) (by first | omega | (intros; omega)) (by first | omega | (intros; omega)) (by first | omega | (intros; omega)) (by first | omega | (intros; omega)) (by first | omega | (intros; omega)))), (MH_f mH (fun a i x y => fr a i (by first | omega | (intros; omega)) (by first | omega | (intros; omega)) (by first | omega | (intros; omega)) (by first | omega | (intros; omega)) (by first | omega | (intros; omega)) (by first | omega | (intros; omega)))), (MT_f mT (fr 57 22 (by first | omega | (intros; omega)) (by first | omega | (intros; omega)) (by first | omega | (intros; omega)) (by first | omega | (intros; omega)) (by first | omega | (intros; omega)) (by first | omega | (intros; omega))) (fun i => fr 76 i (by first | omega | (intros; omega)) (by first | omega | (intros; omega)) (by first | omega | (intros; omega)) (by first | omega | (intros; omega)) (by first | omega | (intros; omega)) (by first | omega | (intros; omega)))), (MTD_f mD (fr 57 24 (by first | omega | (intros; omega)) (by first | omega | (intros; omega)) (by first | omega | (intros; omega)) (by first | omega | (intros; omega)) (by first | omega | (intros; omega)) (by first | omega | (intros; omega))) (fun i => fr 77 i (by first | omega | (intros; omega)) (by first | omega | (intros; omega)) (by first | omega | (intros; omega)) (by first | omega | (intros; omega)) (by first | omega | (intros; omega)) (by first | omega | (intros; omega)))), ((fr 57 23 (by first | omega | (intros; omega)) (by first | omega | (intros; omega)) (by first | omega | (intros; omega)) (by first | omega | (intros; omega)) (by first | omega | (intros; omega)) (by first | omega | (intros; omega))).trans mL), (MF_f mF (fun a i x y => fr a i (by first | omega | (intros; omega)) (by first | omega | (intros; omega)) (by first | omega | (intros; omega)) (by first | omega | (intros; omega)) (by first | omega | (intros; omega)) (by first | omega | (intros; omega)))), kW⟩
  exact ⟨_, σ, m1, m2, q1, k1, hW, hB1, hW, Bs_o hB1 (fun b j h => o2 b j (by omega)), CatAll_fr hA1 (fun b j h => o2 b j (by omega)), _, _, _, _, _, _, FcI_o hC1 (fun b j _ _ => o2 b j (by omega)), hM2, hHK, hTK, hTV, hTDK⟩
theorem op_rational (I : Inv L xs σ m) {d : Int} (g1 : -2147483648 ≤ d ∧ d ≤ 2147483647) : ∃ (vv : Int) (σ1 : Sg) (m1 m2 : Mm), Call 3 m_FC_rational [vr 3, vi d] σ m (some (vl vv)) σ1 m1 ∧ Call 2 m_Mo_rational [vr 57, vi d] σ1 m1 (some (vl vv)) σ1 m2 ∧ Wd L σ1 ∧ Bs L xs m1 ∧ Inv L xs σ1 m2 := by
  obtain ⟨hW, hB, hA, S, H, T, D, K, Fl, hC, hM0, hHK, hTK, hTV, hTDK⟩ := I
  have hF := hW.1
  have hMo := hW.2.1
  have hR : SR σ m := hW.sr hB.2.1 hB.2.2
  obtain ⟨cS, cH, cT, cD, cG, cF⟩ := id hC
  obtain ⟨m1, q1, q3⟩ := c_FC_rational (m := m) hF g1
  have o1 : ∀ b j : Int, (b < 3 ∨ 57 ≤ b) → m1 b j = m b j := fun b j h => q3 b j (by omega)
  have hB1 : Bs L xs m1 := Bs_o hB (fun b j h => o1 b j (by omega))
  have hM1 : MoI m1 S H T D Fl := MoI_o hM0 (fun b j h1 h2 => o1 b j (by omega))
  have hC1 : FcI m1 S H T D K Fl := (FcI_sc hC (fun b j x y => q3 b j (by omega)))
  have hMo1 := hMo
  have hA1 : CatAll σ m1 := CatAll_fr hA (fun b j h => o1 b j (by omega))
  obtain ⟨mS, mH, mT, mD, mL, mF, mW⟩ := id hM1
  obtain ⟨m2, k1, fr⟩ := c_Mo_rational (m := m1) hMo1 g1
  have o2 : ∀ b j : Int, (b < 57 ∨ 87 < b) → m2 b j = m1 b j := fun b j h => fr b j (by first | omega | (intros; omega))
  have hM2 : MoI m2 S H T D Fl := ⟨(MS_f mS (fr 57 0 (by first | omega | (intros; omega))) (fun a i x y => fr a i (by first | omega | (intros; omega))) (fun a i x y => fr a i (by first | omega | (intros; omega)))), (MH_f mH (fun a i x y => fr a i (by first | omega | (intros; omega)))), (MT_f mT (fr 57 22 (by first | omega | (intros; omega))) (fun i => fr 76 i (by first | omega | (intros; omega)))), (MTD_f mD (fr 57 24 (by first | omega | (intros; omega))) (fun i => fr 77 i (by first | omega | (intros; omega)))), ((fr 57 23 (by first | omega | (intros; omega))).trans mL), (MF_f mF (fun a i x y => fr a i (by first | omega | (intros; omega)))), (MW_f mW (fr 57 32 (by first | omega | (intros; omega))) (fr 57 27 (by first | omega | (intros; omega))) (fun a i x y => fr a i (by first | omega | (intros; omega))))⟩
  exact ⟨_, σ, m1, m2, q1, k1, hW, hB1, hW, Bs_o hB1 (fun b j h => o2 b j (by omega)), CatAll_fr hA1 (fun b j h => o2 b j (by omega)), _, _, _, _, _, _, FcI_o hC1 (fun b j _ _ => o2 b j (by omega)), hM2, hHK, hTK, hTV, hTDK⟩
theorem op_sheet (I : Inv L xs σ m) {k lane n : Int} (g1 : -2147483648 ≤ k ∧ k ≤ 2147483647) (g2 : -2147483648 ≤ lane ∧ lane ≤ 2147483647) (g3 : -2147483648 ≤ n ∧ n ≤ 2147483647) : ∃ (vv : Int) (σ1 : Sg) (m1 m2 : Mm), Call 3 m_FC_sheet [vr 3, vi k, vi lane, vi n] σ m (some (vi vv)) σ1 m1 ∧ Call 2 m_Mo_sheet [vr 57, vi k, vi lane, vi n] σ1 m1 (some (vi vv)) σ1 m2 ∧ Wd L σ1 ∧ Bs L xs m1 ∧ Inv L xs σ1 m2 := by
  obtain ⟨hW, hB, hA, S, H, T, D, K, Fl, hC, hM0, hHK, hTK, hTV, hTDK⟩ := I
  have hF := hW.1
  have hMo := hW.2.1
  have hR : SR σ m := hW.sr hB.2.1 hB.2.2
  obtain ⟨cS, cH, cT, cD, cG, cF⟩ := id hC
  obtain ⟨m1, q1, q2, q3⟩ := c_FC_sheet hF cH g1 g2 g3
  have o1 : ∀ b j : Int, (b < 3 ∨ 57 ≤ b) → m1 b j = m b j := fun b j h => q3 b j (by omega)
  have hB1 : Bs L xs m1 := Bs_o hB (fun b j h => o1 b j (by omega))
  have hM1 : MoI m1 S H T D Fl := MoI_o hM0 (fun b j h1 h2 => o1 b j (by omega))
  have hC1 : FcI m1 S (st_sheet H k lane n) T D K Fl := (FcI_sh hC q2 q3)
  have hMo1 := hMo
  have hA1 : CatAll σ m1 := CatAll_fr hA (fun b j h => o1 b j (by omega))
  obtain ⟨mS, mH, mT, mD, mL, mF, mW⟩ := id hM1
  obtain ⟨m2, k1, kH, fr⟩ := c_Mo_sheet hMo1 mH g1 g2 g3
  have o2 : ∀ b j : Int, (b < 57 ∨ 87 < b) → m2 b j = m1 b j := fun b j h => fr b j (by first | omega | (intros; omega))
  have hM2 : MoI m2 S (st_sheet H k lane n) T D Fl := ⟨(MS_f mS (fr 57 0 (by first | omega | (intros; omega))) (fun a i x y => fr a i (by first | omega | (intros; omega))) (fun a i x y => fr a i (by first | omega | (intros; omega)))), kH, (MT_f mT (fr 57 22 (by first | omega | (intros; omega))) (fun i => fr 76 i (by first | omega | (intros; omega)))), (MTD_f mD (fr 57 24 (by first | omega | (intros; omega))) (fun i => fr 77 i (by first | omega | (intros; omega)))), ((fr 57 23 (by first | omega | (intros; omega))).trans mL), (MF_f mF (fun a i x y => fr a i (by first | omega | (intros; omega)))), (MW_f mW (fr 57 32 (by first | omega | (intros; omega))) (fr 57 27 (by first | omega | (intros; omega))) (fun a i x y => fr a i (by first | omega | (intros; omega))))⟩
  exact ⟨_, σ, m1, m2, q1, k1, hW, hB1, hW, Bs_o hB1 (fun b j h => o2 b j (by omega)), CatAll_fr hA1 (fun b j h => o2 b j (by omega)), _, _, _, _, _, _, FcI_o hC1 (fun b j _ _ => o2 b j (by omega)), hM2, st_sheet_K hHK, hTK, hTV, hTDK⟩
theorem op_lay (I : Inv L xs σ m) {k i v : Int} (g1 : -2147483648 ≤ k ∧ k ≤ 2147483647) (g2 : -2147483648 ≤ i ∧ i ≤ 2147483647) (g3 : -2147483648 ≤ v ∧ v ≤ 2147483647) : ∃ (vv : Int) (σ1 : Sg) (m1 m2 : Mm), Call 3 m_FC_lay [vr 3, vi k, vi i, vi v] σ m (some (vi vv)) σ1 m1 ∧ Call 2 m_Mo_lay [vr 57, vi k, vi i, vi v] σ1 m1 (some (vi vv)) σ1 m2 ∧ Wd L σ1 ∧ Bs L xs m1 ∧ Inv L xs σ1 m2 := by
  obtain ⟨hW, hB, hA, S, H, T, D, K, Fl, hC, hM0, hHK, hTK, hTV, hTDK⟩ := I
  have hF := hW.1
  have hMo := hW.2.1
  have hR : SR σ m := hW.sr hB.2.1 hB.2.2
  obtain ⟨cS, cH, cT, cD, cG, cF⟩ := id hC
  obtain ⟨m1, q1, q2, q3⟩ := c_FC_lay hF cH hHK g1 g2 g3
  have o1 : ∀ b j : Int, (b < 3 ∨ 57 ≤ b) → m1 b j = m b j := fun b j h => q3 b j (by omega)
  have hB1 : Bs L xs m1 := Bs_o hB (fun b j h => o1 b j (by omega))
  have hM1 : MoI m1 S H T D Fl := MoI_o hM0 (fun b j h1 h2 => o1 b j (by omega))
  have hC1 : FcI m1 S (st_lay H k i v) T D K Fl := (FcI_sh hC q2 q3)
  have hMo1 := hMo
  have hA1 : CatAll σ m1 := CatAll_fr hA (fun b j h => o1 b j (by omega))
  obtain ⟨mS, mH, mT, mD, mL, mF, mW⟩ := id hM1
  obtain ⟨m2, k1, kH, fr⟩ := c_Mo_lay hMo1 mH hHK g1 g2 g3
  have o2 : ∀ b j : Int, (b < 57 ∨ 87 < b) → m2 b j = m1 b j := fun b j h => fr b j (by first | omega | (intros; omega))
  have hM2 : MoI m2 S (st_lay H k i v) T D Fl := ⟨(MS_f mS (fr 57 0 (by first | omega | (intros; omega))) (fun a i x y => fr a i (by first | omega | (intros; omega))) (fun a i x y => fr a i (by first | omega | (intros; omega)))), kH, (MT_f mT (fr 57 22 (by first | omega | (intros; omega))) (fun i => fr 76 i (by first | omega | (intros; omega)))), (MTD_f mD (fr 57 24 (by first | omega | (intros; omega))) (fun i => fr 77 i (by first | omega | (intros; omega)))), ((fr 57 23 (by first | omega | (intros; omega))).trans mL), (MF_f mF (fun a i x y => fr a i (by first | omega | (intros; omega)))), (MW_f mW (fr 57 32 (by first | omega | (intros; omega))) (fr 57 27 (by first | omega | (intros; omega))) (fun a i x y => fr a i (by first | omega | (intros; omega))))⟩
  exact ⟨_, σ, m1, m2, q1, k1, hW, hB1, hW, Bs_o hB1 (fun b j h => o2 b j (by omega)), CatAll_fr hA1 (fun b j h => o2 b j (by omega)), _, _, _, _, _, _, FcI_o hC1 (fun b j _ _ => o2 b j (by omega)), hM2, st_lay_K hHK g3, hTK, hTV, hTDK⟩
theorem op_draw (I : Inv L xs σ m) {k lane f d n : Int} (g1 : -2147483648 ≤ k ∧ k ≤ 2147483647) (g2 : -2147483648 ≤ lane ∧ lane ≤ 2147483647) (g3 : -2147483648 ≤ f ∧ f ≤ 2147483647) (g4 : -2147483648 ≤ d ∧ d ≤ 2147483647) (g5 : -2147483648 ≤ n ∧ n ≤ 2147483647) : ∃ (vv : Int) (σ1 : Sg) (m1 m2 : Mm), Call 4 m_FC_draw [vr 3, vi k, vi lane, vi f, vi d, vi n] σ m (some (vi vv)) σ1 m1 ∧ Call 4 m_Mo_draw [vr 57, vi k, vi lane, vi f, vi d, vi n] σ1 m1 (some (vi vv)) σ1 m2 ∧ Wd L σ1 ∧ Bs L xs m1 ∧ Inv L xs σ1 m2 := by
  obtain ⟨hW, hB, hA, S, H, T, D, K, Fl, hC, hM0, hHK, hTK, hTV, hTDK⟩ := I
  have hF := hW.1
  have hMo := hW.2.1
  have hR : SR σ m := hW.sr hB.2.1 hB.2.2
  obtain ⟨cS, cH, cT, cD, cG, cF⟩ := id hC
  obtain ⟨m1, q1, q2, q3⟩ := c_FC_draw hF cS cH hHK hR g1 g2 g3 g4 g5
  have o1 : ∀ b j : Int, (b < 3 ∨ 57 ≤ b) → m1 b j = m b j := fun b j h => q3 b j (by omega) (by omega) (by omega)
  have hB1 : Bs L xs m1 := Bs_o hB (fun b j h => o1 b j (by omega))
  have hM1 : MoI m1 S H T D Fl := MoI_o hM0 (fun b j h1 h2 => o1 b j (by omega))
  have hC1 : FcI m1 (st_draw S H k lane f d n) H T D K Fl := (FcI_pi hC q2 (fun b j _ x y z => q3 b j x y z))
  have hMo1 := hMo
  have hA1 : CatAll σ m1 := CatAll_fr hA (fun b j h => o1 b j (by omega))
  obtain ⟨mS, mH, mT, mD, mL, mF, mW⟩ := id hM1
  obtain ⟨m2, k1, kS, fr⟩ := c_Mo_draw hMo1 mS mH hHK g1 g2 g3 g4 g5
  have o2 : ∀ b j : Int, (b < 57 ∨ 87 < b) → m2 b j = m1 b j := fun b j h => fr b j (by first | omega | (intros; omega)) (by first | omega | (intros; omega))
  have hM2 : MoI m2 (st_draw S H k lane f d n) H T D Fl := ⟨kS, (MH_f mH (fun a i x y => fr a i (by first | omega | (intros; omega)) (by first | omega | (intros; omega)))), (MT_f mT (fr 57 22 (by first | omega | (intros; omega)) (by first | omega | (intros; omega))) (fun i => fr 76 i (by first | omega | (intros; omega)) (by first | omega | (intros; omega)))), (MTD_f mD (fr 57 24 (by first | omega | (intros; omega)) (by first | omega | (intros; omega))) (fun i => fr 77 i (by first | omega | (intros; omega)) (by first | omega | (intros; omega)))), ((fr 57 23 (by first | omega | (intros; omega)) (by first | omega | (intros; omega))).trans mL), (MF_f mF (fun a i x y => fr a i (by first | omega | (intros; omega)) (by first | omega | (intros; omega)))), (MW_f mW (fr 57 32 (by first | omega | (intros; omega)) (by first | omega | (intros; omega))) (fr 57 27 (by first | omega | (intros; omega)) (by first | omega | (intros; omega))) (fun a i x y => fr a i (by first | omega | (intros; omega)) (by first | omega | (intros; omega))))⟩
  exact ⟨_, σ, m1, m2, q1, k1, hW, hB1, hW, Bs_o hB1 (fun b j h => o2 b j (by omega)), CatAll_fr hA1 (fun b j h => o2 b j (by omega)), _, _, _, _, _, _, FcI_o hC1 (fun b j _ _ => o2 b j (by omega)), hM2, hHK, hTK, hTV, hTDK⟩
theorem op_many (I : Inv L xs σ m) {what : Int} (g1 : -2147483648 ≤ what ∧ what ≤ 2147483647) : ∃ (vv : Int) (σ1 : Sg) (m1 m2 : Mm), Call 3 m_FC_many [vr 3, vi what] σ m (some (vi vv)) σ1 m1 ∧ Call 1 m_Mo_many [vr 57, vi what] σ1 m1 (some (vi vv)) σ1 m2 ∧ Wd L σ1 ∧ Bs L xs m1 ∧ Inv L xs σ1 m2 := by
  obtain ⟨hW, hB, hA, S, H, T, D, K, Fl, hC, hM0, hHK, hTK, hTV, hTDK⟩ := I
  have hF := hW.1
  have hMo := hW.2.1
  have hR : SR σ m := hW.sr hB.2.1 hB.2.2
  obtain ⟨cS, cH, cT, cD, cG, cF⟩ := id hC
  have q1 := c_FC_many hF cS cH hHK cT hTK g1
  have o1 : ∀ b j : Int, (b < 3 ∨ 57 ≤ b) → m b j = m b j := fun _ _ _ => rfl
  have hB1 : Bs L xs m := Bs_o hB (fun b j h => o1 b j (by omega))
  have hM1 : MoI m S H T D Fl := MoI_o hM0 (fun b j h1 h2 => o1 b j (by omega))
  have hC1 : FcI m S H T D K Fl := hC
  have hMo1 := hMo
  have hA1 : CatAll σ m := CatAll_fr hA (fun b j h => o1 b j (by omega))
  obtain ⟨mS, mH, mT, mD, mL, mF, mW⟩ := id hM1
  have k1 := c_Mo_many hMo1 mS mH hHK mT g1
  exact ⟨_, σ, m, m, q1, k1, hW, hB1, hW, hB1, hA1, _, _, _, _, _, _, hC1, hM1, hHK, hTK, hTV, hTDK⟩
theorem op_fault (I : Inv L xs σ m) : ∃ (vv : Int) (σ1 : Sg) (m1 m2 : Mm), Call 2 m_FC_fault [vr 3] σ m (some (vi vv)) σ1 m1 ∧ Call 1 m_Mo_fault [vr 57] σ1 m1 (some (vi vv)) σ1 m2 ∧ Wd L σ1 ∧ Bs L xs m1 ∧ Inv L xs σ1 m2 := by
  have I2 := I
  obtain ⟨hW, hB, hA, S, H, T, D, K, Fl, hC, hM0, -⟩ := I
  have q1 := c_FC_fault (m := m) hW.1
  have k1 := c_Mo_fault (m := m) hW.2.1
  rw [hC.2.2.2.2.2] at q1
  rw [hM0.2.2.2.2.1] at k1
  exact ⟨_, σ, m, m, q1, k1, hW, hB, I2⟩
theorem op_has (I : Inv L xs σ m) {l k : Int} (g1 : -2147483648 ≤ l ∧ l ≤ 2147483647) (g2 : -2147483648 ≤ k ∧ k ≤ 2147483647) : ∃ (vv : Int) (σ1 : Sg) (m1 m2 : Mm), Call 2 m_FC_has [vr 3, vi l, vi k] σ m (some (vi vv)) σ1 m1 ∧ Call 2 m_Mo_has [vr 57, vi l, vi k] σ1 m1 (some (vi vv)) σ1 m2 ∧ Wd L σ1 ∧ Bs L xs m1 ∧ Inv L xs σ1 m2 := by
  have I2 := I
  obtain ⟨hW, hB, hA, S, H, T, D, K, Fl, hC, hM0, -, -, hTV, hTDK⟩ := I
  obtain ⟨i, hi⟩ := TDV_i hTV
  have q1 := c_FC_has hW.1 hC.2.2.2.1 hTV hi g1 g2
  have k1 := c_Mo_has hW.2.1 hM0.2.2.2.1 hTDK g1 g2
  exact ⟨_, σ, m, m, q1, k1, hW, hB, I2⟩
end
