section
variable {d : Nat} {M : Md} {pc : Nat} {L : List (Option AV)} {st : List AV} {σ σ' : Sg} {m m' : Mm} {r : Option AV}
/-- comparing longs that may be too large -/
theorem Ev.lcmpw {x y : Int} (hd : decode M.2.1 pc = .ok (.lcmp, 1)) (k : Ev d M (pc + 1) L (vi (lcm (x.bmod 18446744073709551616) (y.bmod 18446744073709551616)) :: st) σ m r σ' m') : Ev d M pc L (vl y :: vl x :: st) σ m r σ' m' :=
  Ev.lift (fun hX hb _ k => W.lcmp hX hb hd (by
    have e : lg_cmp (Int64.ofInt x) (Int64.ofInt y) = Int32.ofInt (lcm (x.bmod 18446744073709551616) (y.bmod 18446744073709551616)) := by
      unfold lg_cmp lcm
      simp only [gt_iff_lt, Int64.lt_iff_toInt_lt, ← Int64.toInt_inj, Int64.toInt_ofInt, Int64.size]
      split
      · rfl
      split
      · rfl
      · rfl
    rw [e]; exact k)) k
end
section
variable {σ : Sg} {m : Mm}
/-! kinds of marks: (from, to, how many); the step of each is the product of those before -/
abbrev KD : Type := List (Int × Int × Int)
def cdl : KD → Int → Int
  | [], c => c
  | k :: t, c => cdl t (c * (k.2.2 + 1))
def KA (m : Mm) : Int → KD → Int → Prop
  | _, [], _ => True
  | a, k :: t, c => (m 65 a = k.1 ∧ m 66 a = k.2.1 ∧ m 67 a = k.2.2 ∧ m 68 a = c) ∧ KA m (a + 1) t (c * (k.2.2 + 1))
def KOK (K : KD) : Prop := ∀ k ∈ K, (0 ≤ k.1 ∧ k.1 ≤ 4) ∧ (0 ≤ k.2.1 ∧ k.2.1 ≤ 4) ∧ 1 ≤ k.2.2 ∧ k.2.2 ≤ 30
theorem KA_app {m : Mm} : ∀ {a c : Int} {k1 k2 : KD}, KA m a (k1 ++ k2) c ↔ KA m a k1 c ∧ KA m (a + k1.length) k2 (cdl k1 c)
  | a, c, [], k2 => by simp [KA, cdl]
  | a, c, s :: t, k2 => by
    simp only [List.cons_append, KA, cdl, KA_app (a := a + 1) (k1 := t) (k2 := k2), List.length_cons]
    rw [show a + 1 + (t.length : Int) = a + ((t.length + 1 : Nat) : Int) by omega]
    simp only [and_assoc]
theorem cdl_app : ∀ (k1 k2 : KD) (c : Int), cdl (k1 ++ k2) c = cdl k2 (cdl k1 c)
  | [], k2, c => rfl
  | s :: t, k2, c => by simp only [List.cons_append, cdl, cdl_app t k2]
theorem KA_eq {m m' : Mm} : ∀ {a c : Int} {K : KD}, (∀ b j : Int, b = 65 ∨ b = 66 ∨ b = 67 ∨ b = 68 → a ≤ j → j < a + K.length → m' b j = m b j) → KA m a K c → KA m' a K c
  | a, c, [], _, _ => trivial
  | a, c, s :: t, h, hA => by
    have hl : a < a + ((s :: t).length : Int) := by simp only [List.length_cons]; omega
    refine ⟨⟨(h 65 a (by omega) (by omega) hl).trans hA.1.1, (h 66 a (by omega) (by omega) hl).trans hA.1.2.1, (h 67 a (by omega) (by omega) hl).trans hA.1.2.2.1, (h 68 a (by omega) (by omega) hl).trans hA.1.2.2.2⟩, KA_eq (fun b j hb hj1 hj2 => h b j hb (by omega) (by simp only [List.length_cons]; omega)) hA.2⟩
theorem cdl_ge : ∀ (K : KD) (c : Int), (∀ k ∈ K, 0 ≤ k.2.2) → 0 < c → c ≤ cdl K c
  | [], c, _, _ => Int.le_refl _
  | k :: t, c, h, hc => by
    have hk := h k List.mem_cons_self
    have h1 : c * 1 ≤ c * (k.2.2 + 1) := Int.mul_le_mul_of_nonneg_left (by omega) (by omega)
    have := cdl_ge t (c * (k.2.2 + 1)) (fun z hz => h z (List.mem_cons_of_mem _ hz)) (by omega)
    simp only [cdl]
    omega
def kdm (m : Mm) (fr to mn : Int) : Mm := mu (mu (mu (mu (mu (mu m 65 (m 57 8) fr) 66 (m 57 8) to) 67 (m 57 8) mn) 68 (m 57 8) (m 57 13)) 57 13 (m 57 13 * (mn + 1))) 57 8 (m 57 8 + 1)
theorem c_Mo_kind (hM : MoS σ) {fr to mn : Int} (hk : 0 ≤ m 57 8 ∧ m 57 8 < 10) : Call 1 m_Mo_kind [vr 57, vi fr, vi to, vi mn] σ m none σ (kdm m fr to mn) := by
  show Ev 1 m_Mo_kind 0 [some (vr 57), some (vi fr), some (vi to), some (vi mn)] [] σ m _ σ (kdm m fr to mn)
  refine Ev.aload_n d_Mo_kind_0 rfl ?_
  refine Ev.gr 9 d_Mo_kind_1 lf_Mo_32 rfl rfl (is_57 hM) (by decide) (rf_57_9 hM) ?_
  refine Ev.aload_n d_Mo_kind_4 rfl ?_
  refine Ev.gf 8 d_Mo_kind_5 lf_Mo_164 rfl rfl (is_57 hM) (by decide) ?_
  refine Ev.iload_n d_Mo_kind_8 rfl ?_
  refine Ev.iastore d_Mo_kind_9 (is_65 hM) (by decide) hk ?_
  refine Ev.aload_n d_Mo_kind_10 rfl ?_
  refine Ev.gr 10 d_Mo_kind_11 lf_Mo_35 rfl rfl (is_57 hM) (by decide) (rf_57_10 hM) ?_
  refine Ev.aload_n d_Mo_kind_14 rfl ?_
  refine Ev.gf 8 d_Mo_kind_15 lf_Mo_164 rfl rfl (is_57 hM) (by decide) ?_
  refine Ev.iload_n d_Mo_kind_18 rfl ?_
  refine Ev.iastore d_Mo_kind_19 (is_66 hM) (by decide) (by rw [mu_a (by decide)]; exact hk) ?_
  refine Ev.aload_n d_Mo_kind_20 rfl ?_
  refine Ev.gr 11 d_Mo_kind_21 lf_Mo_38 rfl rfl (is_57 hM) (by decide) (rf_57_11 hM) ?_
  refine Ev.aload_n d_Mo_kind_24 rfl ?_
  refine Ev.gf 8 d_Mo_kind_25 lf_Mo_164 rfl rfl (is_57 hM) (by decide) ?_
  refine Ev.iload_n d_Mo_kind_28 rfl ?_
  refine Ev.iastore d_Mo_kind_29 (is_67 hM) (by decide) (by rw [mu_a (by decide), mu_a (by decide)]; exact hk) ?_
  refine Ev.aload_n d_Mo_kind_30 rfl ?_
  refine Ev.gr 12 d_Mo_kind_31 lf_Mo_41 rfl rfl (is_57 hM) (by decide) (rf_57_12 hM) ?_
  refine Ev.aload_n d_Mo_kind_34 rfl ?_
  refine Ev.gf 8 d_Mo_kind_35 lf_Mo_164 rfl rfl (is_57 hM) (by decide) ?_
  refine Ev.aload_n d_Mo_kind_38 rfl ?_
  refine Ev.gf 13 d_Mo_kind_39 lf_Mo_167 rfl rfl (is_57 hM) (by decide) ?_
  refine Ev.iastore d_Mo_kind_42 (is_68 hM) (by decide) (by rw [mu_a (by decide), mu_a (by decide), mu_a (by decide)]; exact hk) ?_
  refine Ev.aload_n d_Mo_kind_43 rfl ?_
  refine Ev.dup d_Mo_kind_44 rfl ?_
  refine Ev.gf 13 d_Mo_kind_45 lf_Mo_167 rfl rfl (is_57 hM) (by decide) ?_
  refine Ev.iload_n d_Mo_kind_48 rfl ?_
  refine Ev.iconst d_Mo_kind_49 ?_
  refine Ev.iadd d_Mo_kind_50 ?_
  refine Ev.imul d_Mo_kind_51 ?_
  refine Ev.pf 13 d_Mo_kind_52 lf_Mo_167 rfl rfl rfl rfl (is_57 hM) (by decide) ?_
  refine Ev.aload_n d_Mo_kind_55 rfl ?_
  refine Ev.dup d_Mo_kind_56 rfl ?_
  refine Ev.gf 8 d_Mo_kind_57 lf_Mo_164 rfl rfl (is_57 hM) (by decide) ?_
  refine Ev.iconst d_Mo_kind_60 ?_
  refine Ev.iadd d_Mo_kind_61 ?_
  refine Ev.pf 8 d_Mo_kind_62 lf_Mo_164 rfl rfl rfl rfl (is_57 hM) (by decide) ?_
  exact Ev.to (Ev.return d_Mo_kind_65 rfl) rfl (by simp [kdm, mu])
theorem kdm_ok {m : Mm} {K : KD} {fr to mn : Int} (h8 : m 57 8 = K.length) (h13 : m 57 13 = cdl K 1) (hA : KA m 0 K 1) : kdm m fr to mn 57 8 = (K ++ [(fr, to, mn)]).length ∧ kdm m fr to mn 57 13 = cdl (K ++ [(fr, to, mn)]) 1 ∧ KA (kdm m fr to mn) 0 (K ++ [(fr, to, mn)]) 1 := by
  refine ⟨by simp [kdm, mu, h8], by simp [kdm, mu, h13, cdl_app, cdl], ?_⟩
  rw [KA_app]
  refine ⟨KA_eq (fun b j hb hj1 hj2 => ?_) hA, ⟨?_, ?_, ?_, ?_⟩, trivial⟩
  · have e : ¬ j = m 57 8 := by omega
    rcases hb with rfl | rfl | rfl | rfl <;> simp [kdm, mu, e]
  · simp [kdm, mu, h8]
  · simp [kdm, mu, h8]
  · simp [kdm, mu, h8]
  · simp [kdm, mu, h8, h13]
def FrK (m m' : Mm) : Prop := ∀ a i : Int, ¬ (a = 57 ∧ (i = 8 ∨ i = 13)) → (a < 65 ∨ 68 < a) → m' a i = m a i
theorem kdm_fr {m : Mm} {fr to mn : Int} : FrK m (kdm m fr to mn) := fun a i h1 h2 => by
  simp only [kdm]
  rw [mu_n (by omega), mu_n (by omega), mu_a (by omega), mu_a (by omega), mu_a (by omega), mu_a (by omega)]
theorem FrK.tr {m m1 m2 : Mm} (h : FrK m m1) (h2 : FrK m1 m2) : FrK m m2 := fun a i x y => (h2 a i x y).trans (h a i x y)
theorem FrK.PM {m m' : Mm} {p d : Int} {l : List Int} (h : FrK m m') (hP : PM m p d l) : PM m' p d l :=
  ⟨(h 58 p (by simp) (by decide)).trans hP.1, (h 59 p (by simp) (by decide)).trans hP.2.1, At_eq (fun j _ _ => ⟨h 60 j (by simp) (by decide), h 61 j (by simp) (by decide), h 62 j (by simp) (by decide)⟩) hP.2.2⟩
/-- the loose ones, floor by floor -/
def lsK (d : Int) (l : List Int) : Nat → Int → KD
  | 0, _ => []
  | n + 1, f => (if outL f l < 1 then [(f, d, 1 - outL f l)] else []) ++ lsK d l n (f + 1)
def pfx (s : Int) : List Int → Nat
  | [] => 0
  | x :: t => if x = s then pfx s t + 1 else 0
def grK : Nat → List Int → KD
  | 0, _ => []
  | _ + 1, [] => []
  | n + 1, s :: t => (fS s, tS s, (pfx s t : Int) + 1) :: grK n (t.drop (pfx s t))
def kdS (d : Int) (l : List Int) : KD := lsK d l d.toNat 0 ++ grK l.length l
theorem pfx_le (s : Int) : ∀ t : List Int, pfx s t ≤ t.length
  | [] => Nat.le_refl _
  | x :: t => by
    have := pfx_le s t
    simp only [pfx]
    split <;> simp <;> omega
theorem lsK_len (d : Int) (l : List Int) : ∀ (n : Nat) (f : Int), (lsK d l n f).length ≤ n
  | 0, f => by simp [lsK]
  | n + 1, f => by
    have := lsK_len d l n (f + 1)
    simp only [lsK, List.length_append]
    split <;> simp <;> omega
theorem grK_len : ∀ (n : Nat) (l : List Int), (grK n l).length ≤ n
  | 0, l => by simp [grK]
  | n + 1, [] => by simp [grK]
  | n + 1, s :: t => by
    have := grK_len n (t.drop (pfx s t))
    simp only [grK, List.length_cons]
    omega
theorem At_drop {m : Mm} : ∀ {a : Int} {l : List Int} (n : Nat), At m a l → n ≤ l.length → At m (a + n) (l.drop n)
  | a, l, 0, h, _ => by simpa using h
  | a, [], n + 1, h, hn => by simp at hn
  | a, s :: t, n + 1, h, hn => by
    have := At_drop n h.2 (by simpa using hn)
    rw [show a + ((n + 1 : Nat) : Int) = a + 1 + n by omega]
    simpa using this
theorem lp1_Mo_kinds (hM : MoS σ) {p d : Int} {l : List Int} (hp : 0 ≤ p ∧ p ≤ 8) (hK : PK d l) {r : Option AV} {Post : Mm → Prop} : ∀ (q : Nat) (f : Int) (K : KD) (m : Mm), f + q = d → 0 ≤ f → PM m p d l → m 57 8 = K.length → m 57 13 = cdl K 1 → KA m 0 K 1 → (K.length : Int) ≤ f → (∀ m' : Mm, FrK m m' → m' 57 8 = (K ++ lsK d l q f).length → m' 57 13 = cdl (K ++ lsK d l q f) 1 → KA m' 0 (K ++ lsK d l q f) 1 → ∃ mF, Ev 3 m_Mo_layKinds 54 [some (vr 57), some (vi p), some (vi d), some (vi d), none] [] σ m' r σ mF ∧ Post mF) → ∃ mF, Ev 3 m_Mo_layKinds 19 [some (vr 57), some (vi p), some (vi d), some (vi f), none] [] σ m r σ mF ∧ Post mF
  | 0, f, K, m, hf, h0, hP, h8, h13, hA, hKl, c => by
    have e : f = d := by omega
    have hd4 := hK.1
    simp only [lsK, List.append_nil] at c
    obtain ⟨mF, g1, g2⟩ := c m (fun _ _ _ _ => rfl) h8 h13 hA
    refine ⟨mF, ?_, g2⟩
    refine Ev.iload_n d_Mo_layKinds_19 rfl ?_
    refine Ev.iload_n d_Mo_layKinds_20 rfl ?_
    refine Ev.icmp_ge (tgt := 54) d_Mo_layKinds_21 rfl (by first | omega | (simp [mu]; done) | (simp [mu]; omega)) (by first | omega | (simp [mu]; done) | (simp [mu]; omega)) (fun hb21 => ?_) (fun hb21 => by exfalso; first | omega | simp at hb21 | contradiction)
    rw [e]
    exact g1
  | q + 1, f, K, m, hf, h0, hP, h8, h13, hA, hKl, c => by
    have ho := outL_b f l
    have h6 := hK.2.1
    have hd4 := hK.1
    have hn := hP.2.1
    by_cases h1 : outL f l < 1
    · obtain ⟨k1, k2, k3⟩ := kdm_ok (fr := f) (to := d) (mn := 1 - outL f l) h8 h13 hA
      simp only [lsK] at c
      rw [if_pos h1, ← List.append_assoc] at c
      obtain ⟨mF, g1, g2⟩ := lp1_Mo_kinds hM hp hK q (f + 1) _ _ (by omega) (by omega) (kdm_fr.PM hP) k1 k2 k3 (by simp only [List.length_append, List.length_cons, List.length_nil]; omega) (fun m' g => c m' (kdm_fr.tr g))
      refine ⟨mF, ?_, g2⟩
      refine Ev.iload_n d_Mo_layKinds_19 rfl ?_
      refine Ev.iload_n d_Mo_layKinds_20 rfl ?_
      refine Ev.icmp_ge (tgt := 54) d_Mo_layKinds_21 rfl (by first | omega | (simp [mu]; done) | (simp [mu]; omega)) (by first | omega | (simp [mu]; done) | (simp [mu]; omega)) (fun hb21 => by exfalso; first | omega | simp at hb21 | contradiction) (fun hb21 => ?_)
      refine Ev.aload_n d_Mo_layKinds_24 rfl ?_
      refine Ev.iload_n d_Mo_layKinds_25 rfl ?_
      refine Ev.iload_n d_Mo_layKinds_26 rfl ?_
      refine Ev.callV d_Mo_layKinds_27 mt_Mo_outOf lk_Mo_128 in_Mo_outOf se_Mo_outOf rfl (Nat.le_of_ble_eq_true rfl) rfl (Nat.le_of_ble_eq_true rfl) (by decide) (is_57 hM) (by decide) rfl rfl (c_Mo_outOf hM hp (by omega) hn h6 hP.2.2) ?_
      refine Ev.iconst d_Mo_layKinds_30 ?_
      refine Ev.icmp_ge (tgt := 48) d_Mo_layKinds_31 rfl (by first | omega | (simp [mu]; done) | (simp [mu]; omega)) (by first | omega | (simp [mu]; done) | (simp [mu]; omega)) (fun hb31 => by exfalso; first | omega | simp at hb31 | contradiction) (fun hb31 => ?_)
      refine Ev.aload_n d_Mo_layKinds_34 rfl ?_
      refine Ev.iload_n d_Mo_layKinds_35 rfl ?_
      refine Ev.iload_n d_Mo_layKinds_36 rfl ?_
      refine Ev.iconst d_Mo_layKinds_37 ?_
      refine Ev.aload_n d_Mo_layKinds_38 rfl ?_
      refine Ev.iload_n d_Mo_layKinds_39 rfl ?_
      refine Ev.iload_n d_Mo_layKinds_40 rfl ?_
      refine Ev.callV d_Mo_layKinds_41 mt_Mo_outOf lk_Mo_128 in_Mo_outOf se_Mo_outOf rfl (Nat.le_of_ble_eq_true rfl) rfl (Nat.le_of_ble_eq_true rfl) (by decide) (is_57 hM) (by decide) rfl rfl (c_Mo_outOf hM hp (by omega) hn h6 hP.2.2) ?_
      refine Ev.isub d_Mo_layKinds_44 ?_
      refine Ev.callVv d_Mo_layKinds_45 mt_Mo_kind lk_Mo_170 in_Mo_kind se_Mo_kind rfl (Nat.le_of_ble_eq_true rfl) rfl (Nat.le_of_ble_eq_true rfl) (by decide) (is_57 hM) (by decide) rfl rfl (c_Mo_kind hM (by omega)) ?_
      refine Ev.iinc_3 d_Mo_layKinds_48 rfl ?_
      refine Ev.goto (tgt := 19) d_Mo_layKinds_51 rfl ?_
      exact g1
    · simp only [lsK] at c
      rw [if_neg h1, List.nil_append] at c
      obtain ⟨mF, g1, g2⟩ := lp1_Mo_kinds hM hp hK q (f + 1) K m (by omega) (by omega) hP h8 h13 hA (by omega) c
      refine ⟨mF, ?_, g2⟩
      refine Ev.iload_n d_Mo_layKinds_19 rfl ?_
      refine Ev.iload_n d_Mo_layKinds_20 rfl ?_
      refine Ev.icmp_ge (tgt := 54) d_Mo_layKinds_21 rfl (by first | omega | (simp [mu]; done) | (simp [mu]; omega)) (by first | omega | (simp [mu]; done) | (simp [mu]; omega)) (fun hb21 => by exfalso; first | omega | simp at hb21 | contradiction) (fun hb21 => ?_)
      refine Ev.aload_n d_Mo_layKinds_24 rfl ?_
      refine Ev.iload_n d_Mo_layKinds_25 rfl ?_
      refine Ev.iload_n d_Mo_layKinds_26 rfl ?_
      refine Ev.callV d_Mo_layKinds_27 mt_Mo_outOf lk_Mo_128 in_Mo_outOf se_Mo_outOf rfl (Nat.le_of_ble_eq_true rfl) rfl (Nat.le_of_ble_eq_true rfl) (by decide) (is_57 hM) (by decide) rfl rfl (c_Mo_outOf hM hp (by omega) hn h6 hP.2.2) ?_
      refine Ev.iconst d_Mo_layKinds_30 ?_
      refine Ev.icmp_ge (tgt := 48) d_Mo_layKinds_31 rfl (by first | omega | (simp [mu]; done) | (simp [mu]; omega)) (by first | omega | (simp [mu]; done) | (simp [mu]; omega)) (fun hb31 => ?_) (fun hb31 => by exfalso; first | omega | simp at hb31 | contradiction)
      refine Ev.iinc_3 d_Mo_layKinds_48 rfl ?_
      refine Ev.goto (tgt := 19) d_Mo_layKinds_51 rfl ?_
      exact g1
theorem lp3_Mo_kinds (hM : MoS σ) {p d en k s : Int} {r : Option AV} {mF : Mm} (hp : 0 ≤ p ∧ p ≤ 8) (hn : 6 * p + m 59 p = en) (h6 : m 59 p ≤ 6) (hs : 0 ≤ s ∧ s < 24) (hk : 6 * p ≤ k) (e : m 60 k = fS s ∧ m 61 k = tS s ∧ m 62 k = wS s) : ∀ (t : List Int) (n : Nat), 1 ≤ n → At m (k + n) t → k + n + t.length = en → (∀ y ∈ t, 0 ≤ y ∧ y < 24) → Ev 3 m_Mo_layKinds 155 [some (vr 57), some (vi p), some (vi d), some (vi k), some (vi ((n + pfx s t : Nat) : Int))] [] σ m r σ mF → Ev 3 m_Mo_layKinds 77 [some (vr 57), some (vi p), some (vi d), some (vi k), some (vi (n : Int))] [] σ m r σ mF
  | [], n, h1, hA, he, hy, c => by
    simp only [List.length_nil] at he
    simp only [pfx, Nat.add_zero] at c
    refine Ev.iload_n d_Mo_layKinds_77 rfl ?_
    refine Ev.iload d_Mo_layKinds_78 rfl ?_
    refine Ev.iadd d_Mo_layKinds_80 ?_
    refine Ev.bipush d_Mo_layKinds_81 rfl ?_
    refine Ev.iload_n d_Mo_layKinds_83 rfl ?_
    refine Ev.imul d_Mo_layKinds_84 ?_
    refine Ev.aload_n d_Mo_layKinds_85 rfl ?_
    refine Ev.gr 2 d_Mo_layKinds_86 lf_Mo_13 rfl rfl (is_57 hM) (by decide) (rf_57_2 hM) ?_
    refine Ev.iload_n d_Mo_layKinds_89 rfl ?_
    refine Ev.iaload d_Mo_layKinds_90 (is_59 hM) (by first | omega | (simp [mu]; done) | (simp [mu]; omega)) ?_
    refine Ev.iadd d_Mo_layKinds_91 ?_
    refine Ev.icmp_ge (tgt := 155) d_Mo_layKinds_92 rfl (by first | omega | (simp [mu]; done) | (simp [mu]; omega)) (by first | omega | (simp [mu]; done) | (simp [mu]; omega)) (fun hb92 => ?_) (fun hb92 => by exfalso; first | omega | simp at hb92 | contradiction)
    exact c
  | y :: t, n, h1, hA, he, hy, c => by
    simp only [List.length_cons] at he
    obtain ⟨⟨f1, f2, f3⟩, hA2⟩ := hA
    obtain ⟨e1, e2, e3⟩ := e
    have b1 := fS_b s
    have b2 := tS_b s
    have b3 := wS_b s
    have d1 := fS_b y
    have d2 := tS_b y
    have d3 := wS_b y
    have hy1 := hy y List.mem_cons_self
    simp only [pfx] at c
    refine Ev.iload_n d_Mo_layKinds_77 rfl ?_
    refine Ev.iload d_Mo_layKinds_78 rfl ?_
    refine Ev.iadd d_Mo_layKinds_80 ?_
    refine Ev.bipush d_Mo_layKinds_81 rfl ?_
    refine Ev.iload_n d_Mo_layKinds_83 rfl ?_
    refine Ev.imul d_Mo_layKinds_84 ?_
    refine Ev.aload_n d_Mo_layKinds_85 rfl ?_
    refine Ev.gr 2 d_Mo_layKinds_86 lf_Mo_13 rfl rfl (is_57 hM) (by decide) (rf_57_2 hM) ?_
    refine Ev.iload_n d_Mo_layKinds_89 rfl ?_
    refine Ev.iaload d_Mo_layKinds_90 (is_59 hM) (by first | omega | (simp [mu]; done) | (simp [mu]; omega)) ?_
    refine Ev.iadd d_Mo_layKinds_91 ?_
    refine Ev.icmp_ge (tgt := 155) d_Mo_layKinds_92 rfl (by first | omega | (simp [mu]; done) | (simp [mu]; omega)) (by first | omega | (simp [mu]; done) | (simp [mu]; omega)) (fun hb92 => by exfalso; first | omega | simp at hb92 | contradiction) (fun hb92 => ?_)
    refine Ev.aload_n d_Mo_layKinds_95 rfl ?_
    refine Ev.gr 3 d_Mo_layKinds_96 lf_Mo_16 rfl rfl (is_57 hM) (by decide) (rf_57_3 hM) ?_
    refine Ev.iload_n d_Mo_layKinds_99 rfl ?_
    refine Ev.iload d_Mo_layKinds_100 rfl ?_
    refine Ev.iadd d_Mo_layKinds_102 ?_
    refine Ev.iaload d_Mo_layKinds_103 (is_60 hM) (by first | omega | (simp [mu]; done) | (simp [mu]; omega)) ?_
    refine Ev.aload_n d_Mo_layKinds_104 rfl ?_
    refine Ev.gr 3 d_Mo_layKinds_105 lf_Mo_16 rfl rfl (is_57 hM) (by decide) (rf_57_3 hM) ?_
    refine Ev.iload_n d_Mo_layKinds_108 rfl ?_
    refine Ev.iaload d_Mo_layKinds_109 (is_60 hM) (by first | omega | (simp [mu]; done) | (simp [mu]; omega)) ?_
    refine Ev.icmp_ne (tgt := 155) d_Mo_layKinds_110 rfl (by first | omega | (simp [mu]; done) | (simp [mu]; omega)) (by first | omega | (simp [mu]; done) | (simp [mu]; omega)) (fun hb110 => ?_) (fun hb110 => ?_)
    · rw [if_neg (fun z => by subst z; omega), Nat.add_zero] at c
      exact c
    · refine Ev.aload_n d_Mo_layKinds_113 rfl ?_
      refine Ev.gr 4 d_Mo_layKinds_114 lf_Mo_19 rfl rfl (is_57 hM) (by decide) (rf_57_4 hM) ?_
      refine Ev.iload_n d_Mo_layKinds_117 rfl ?_
      refine Ev.iload d_Mo_layKinds_118 rfl ?_
      refine Ev.iadd d_Mo_layKinds_120 ?_
      refine Ev.iaload d_Mo_layKinds_121 (is_61 hM) (by first | omega | (simp [mu]; done) | (simp [mu]; omega)) ?_
      refine Ev.aload_n d_Mo_layKinds_122 rfl ?_
      refine Ev.gr 4 d_Mo_layKinds_123 lf_Mo_19 rfl rfl (is_57 hM) (by decide) (rf_57_4 hM) ?_
      refine Ev.iload_n d_Mo_layKinds_126 rfl ?_
      refine Ev.iaload d_Mo_layKinds_127 (is_61 hM) (by first | omega | (simp [mu]; done) | (simp [mu]; omega)) ?_
      refine Ev.icmp_ne (tgt := 155) d_Mo_layKinds_128 rfl (by first | omega | (simp [mu]; done) | (simp [mu]; omega)) (by first | omega | (simp [mu]; done) | (simp [mu]; omega)) (fun hb128 => ?_) (fun hb128 => ?_)
      · rw [if_neg (fun z => by subst z; omega), Nat.add_zero] at c
        exact c
      · refine Ev.aload_n d_Mo_layKinds_131 rfl ?_
        refine Ev.gr 5 d_Mo_layKinds_132 lf_Mo_22 rfl rfl (is_57 hM) (by decide) (rf_57_5 hM) ?_
        refine Ev.iload_n d_Mo_layKinds_135 rfl ?_
        refine Ev.iload d_Mo_layKinds_136 rfl ?_
        refine Ev.iadd d_Mo_layKinds_138 ?_
        refine Ev.iaload d_Mo_layKinds_139 (is_62 hM) (by first | omega | (simp [mu]; done) | (simp [mu]; omega)) ?_
        refine Ev.aload_n d_Mo_layKinds_140 rfl ?_
        refine Ev.gr 5 d_Mo_layKinds_141 lf_Mo_22 rfl rfl (is_57 hM) (by decide) (rf_57_5 hM) ?_
        refine Ev.iload_n d_Mo_layKinds_144 rfl ?_
        refine Ev.iaload d_Mo_layKinds_145 (is_62 hM) (by first | omega | (simp [mu]; done) | (simp [mu]; omega)) ?_
        refine Ev.icmp_ne (tgt := 155) d_Mo_layKinds_146 rfl (by first | omega | (simp [mu]; done) | (simp [mu]; omega)) (by first | omega | (simp [mu]; done) | (simp [mu]; omega)) (fun hb146 => ?_) (fun hb146 => ?_)
        · rw [if_neg (fun z => by subst z; omega), Nat.add_zero] at c
          exact c
        · refine Ev.iinc_4 d_Mo_layKinds_149 rfl ?_
          refine Ev.goto (tgt := 77) d_Mo_layKinds_152 rfl ?_
          have z : y = s := spot_inj hy1 hs (by omega) (by omega) (by omega)
          rw [if_pos z, show n + (pfx s t + 1) = n + 1 + pfx s t by omega] at c
          exact lp3_Mo_kinds hM hp hn h6 hs hk ⟨e1, e2, e3⟩ t (n + 1) (by omega) (by rw [show k + ((n + 1 : Nat) : Int) = k + n + 1 by omega]; exact hA2) (by omega) (fun u hu => hy u (List.mem_cons_of_mem _ hu)) c
theorem lp2_Mo_kinds (hM : MoS σ) {p d en : Int} {l : List Int} (hp : 0 ≤ p ∧ p ≤ 8) (hK : PK d l) (hen : en = 6 * p + l.length) : ∀ (q : Nat) (t : List Int) (k : Int) (K : KD) (m : Mm) (x4 : Option AV), t.length ≤ q → PM m p d l → m 57 8 = K.length → m 57 13 = cdl K 1 → KA m 0 K 1 → At m k t → k + t.length = en → 6 * p ≤ k → (∀ y ∈ t, 0 ≤ y ∧ y < 24) → K.length + t.length ≤ 10 → ∃ m', Ev 3 m_Mo_layKinds 59 [some (vr 57), some (vi p), some (vi d), some (vi k), x4] [] σ m none σ m' ∧ FrK m m' ∧ m' 57 8 = (K ++ grK q t).length ∧ m' 57 13 = cdl (K ++ grK q t) 1 ∧ KA m' 0 (K ++ grK q t) 1
  | q, [], k, K, m, x4, hq, hP, h8, h13, hA, hT, he, hk, hy, h10 => by
    have hn := hP.2.1
    have h6 := hK.2.1
    simp only [List.length_nil] at he
    have e : grK q [] = [] := by cases q <;> rfl
    rw [e, List.append_nil]
    refine ⟨m, ?_, fun _ _ _ _ => rfl, h8, h13, hA⟩
    refine Ev.iload_n d_Mo_layKinds_59 rfl ?_
    refine Ev.bipush d_Mo_layKinds_60 rfl ?_
    refine Ev.iload_n d_Mo_layKinds_62 rfl ?_
    refine Ev.imul d_Mo_layKinds_63 ?_
    refine Ev.aload_n d_Mo_layKinds_64 rfl ?_
    refine Ev.gr 2 d_Mo_layKinds_65 lf_Mo_13 rfl rfl (is_57 hM) (by decide) (rf_57_2 hM) ?_
    refine Ev.iload_n d_Mo_layKinds_68 rfl ?_
    refine Ev.iaload d_Mo_layKinds_69 (is_59 hM) (by first | omega | (simp [mu]; done) | (simp [mu]; omega)) ?_
    refine Ev.iadd d_Mo_layKinds_70 ?_
    refine Ev.icmp_ge (tgt := 181) d_Mo_layKinds_71 rfl (by first | omega | (simp [mu]; done) | (simp [mu]; omega)) (by first | omega | (simp [mu]; done) | (simp [mu]; omega)) (fun hb71 => ?_) (fun hb71 => by exfalso; first | omega | simp at hb71 | contradiction)
    exact Ev.to (Ev.return d_Mo_layKinds_181 rfl) rfl rfl
  | 0, s :: t, k, K, m, x4, hq, hP, h8, h13, hA, hT, he, hk, hy, h10 => by simp at hq
  | q + 1, s :: t, k, K, m, x4, hq, hP, h8, h13, hA, hT, he, hk, hy, h10 => by
    have hn := hP.2.1
    have h6 := hK.2.1
    have hpl := pfx_le s t
    simp only [List.length_cons] at he hq h10
    obtain ⟨⟨e1, e2, e3⟩, hT2⟩ := hT
    have hs := hy s List.mem_cons_self
    obtain ⟨k1, k2, k3⟩ := kdm_ok (fr := fS s) (to := tS s) (mn := ((1 + pfx s t : Nat) : Int)) h8 h13 hA
    have hfr : FrK m (kdm m (fS s) (tS s) ((1 + pfx s t : Nat) : Int)) := kdm_fr
    obtain ⟨m', g1, g2, g3, g4, g5⟩ := lp2_Mo_kinds hM hp hK hen q (t.drop (pfx s t)) (k + ((1 + pfx s t : Nat) : Int)) _ _ (some (vi ((1 + pfx s t : Nat) : Int))) (by simp; omega) (hfr.PM hP) k1 k2 k3 (by
      have := At_drop (pfx s t) hT2 hpl
      rw [show k + ((1 + pfx s t : Nat) : Int) = k + 1 + pfx s t by omega]
      exact At_eq (fun j _ _ => ⟨hfr 60 j (by simp) (by decide), hfr 61 j (by simp) (by decide), hfr 62 j (by simp) (by decide)⟩) this) (by simp only [List.length_drop]; omega) (by omega) (fun y hy2 => hy y (List.mem_cons_of_mem _ (List.mem_of_mem_drop hy2))) (by simp only [List.length_append, List.length_cons, List.length_nil, List.length_drop]; omega)
    have eg : K ++ grK (q + 1) (s :: t) = K ++ [(fS s, tS s, ((1 + pfx s t : Nat) : Int))] ++ grK q (t.drop (pfx s t)) := by
      rw [grK, show ((1 + pfx s t : Nat) : Int) = (pfx s t : Int) + 1 by omega]
      simp
    rw [eg]
    refine ⟨m', ?_, hfr.tr g2, g3, g4, g5⟩
    refine Ev.iload_n d_Mo_layKinds_59 rfl ?_
    refine Ev.bipush d_Mo_layKinds_60 rfl ?_
    refine Ev.iload_n d_Mo_layKinds_62 rfl ?_
    refine Ev.imul d_Mo_layKinds_63 ?_
    refine Ev.aload_n d_Mo_layKinds_64 rfl ?_
    refine Ev.gr 2 d_Mo_layKinds_65 lf_Mo_13 rfl rfl (is_57 hM) (by decide) (rf_57_2 hM) ?_
    refine Ev.iload_n d_Mo_layKinds_68 rfl ?_
    refine Ev.iaload d_Mo_layKinds_69 (is_59 hM) (by first | omega | (simp [mu]; done) | (simp [mu]; omega)) ?_
    refine Ev.iadd d_Mo_layKinds_70 ?_
    refine Ev.icmp_ge (tgt := 181) d_Mo_layKinds_71 rfl (by first | omega | (simp [mu]; done) | (simp [mu]; omega)) (by first | omega | (simp [mu]; done) | (simp [mu]; omega)) (fun hb71 => by exfalso; first | omega | simp at hb71 | contradiction) (fun hb71 => ?_)
    refine Ev.iconst d_Mo_layKinds_74 ?_
    refine Ev.istore_4 d_Mo_layKinds_75 rfl ?_
    refine lp3_Mo_kinds hM hp (en := en) (by omega) (by omega) hs hk ⟨e1, e2, e3⟩ t 1 (by omega) (by rw [show k + ((1 : Nat) : Int) = k + 1 by omega]; exact hT2) (by omega) (fun y hy2 => hy y (List.mem_cons_of_mem _ hy2)) ?_
    refine Ev.aload_n d_Mo_layKinds_155 rfl ?_
    refine Ev.aload_n d_Mo_layKinds_156 rfl ?_
    refine Ev.gr 3 d_Mo_layKinds_157 lf_Mo_16 rfl rfl (is_57 hM) (by decide) (rf_57_3 hM) ?_
    refine Ev.iload_n d_Mo_layKinds_160 rfl ?_
    refine Ev.iaload d_Mo_layKinds_161 (is_60 hM) (by first | omega | (simp [mu]; done) | (simp [mu]; omega)) ?_
    refine Ev.aload_n d_Mo_layKinds_162 rfl ?_
    refine Ev.gr 4 d_Mo_layKinds_163 lf_Mo_19 rfl rfl (is_57 hM) (by decide) (rf_57_4 hM) ?_
    refine Ev.iload_n d_Mo_layKinds_166 rfl ?_
    refine Ev.iaload d_Mo_layKinds_167 (is_61 hM) (by first | omega | (simp [mu]; done) | (simp [mu]; omega)) ?_
    refine Ev.iload d_Mo_layKinds_168 rfl ?_
    rw [e1, e2]
    refine Ev.callVv d_Mo_layKinds_170 mt_Mo_kind lk_Mo_170 in_Mo_kind se_Mo_kind rfl (Nat.le_of_ble_eq_true rfl) rfl (Nat.le_of_ble_eq_true rfl) (by decide) (is_57 hM) (by decide) rfl rfl (c_Mo_kind hM (by omega)) ?_
    refine Ev.iload_n d_Mo_layKinds_173 rfl ?_
    refine Ev.iload d_Mo_layKinds_174 rfl ?_
    refine Ev.iadd d_Mo_layKinds_176 ?_
    refine Ev.istore_3 d_Mo_layKinds_177 rfl ?_
    refine Ev.goto (tgt := 59) d_Mo_layKinds_178 rfl ?_
    exact g1
theorem c_Mo_layKinds (hM : MoS σ) {p d : Int} {l : List Int} (hp : 0 ≤ p ∧ p ≤ 8) (hP : PM m p d l) (hK : PK d l) : ∃ m', Call 3 m_Mo_layKinds [vr 57, vi p] σ m none σ m' ∧ FrK m m' ∧ m' 57 8 = (kdS d l).length ∧ m' 57 13 = cdl (kdS d l) 1 ∧ KA m' 0 (kdS d l) 1 := by
  have hd4 := hK.1
  have h6 := hK.2.1
  have hd := hP.1
  have hll := lsK_len d l d.toNat 0
  have hfr : FrK m (mu (mu m 57 8 0) 57 13 1) := fun a i h1 h2 => by rw [mu_n (by omega), mu_n (by omega)]
  obtain ⟨mF, g1, g2⟩ := lp1_Mo_kinds hM hp hK (r := none) (Post := fun m' => FrK m m' ∧ m' 57 8 = (kdS d l).length ∧ m' 57 13 = cdl (kdS d l) 1 ∧ KA m' 0 (kdS d l) 1) d.toNat 0 [] (mu (mu m 57 8 0) 57 13 1) (by omega) (by omega) (hfr.PM hP) (by simp [mu]) (by simp [mu, cdl]) trivial (by simp) (fun m1 f1 q1 q2 q3 => by
    have hP1 := f1.PM (hfr.PM hP)
    simp only [List.nil_append] at q1 q2 q3
    obtain ⟨m', r1, r2, r3⟩ := lp2_Mo_kinds hM hp hK rfl l.length l (6 * p) _ m1 none (Nat.le_refl _) hP1 q1 q2 q3 hP1.2.2 rfl (by omega) (fun y hy => by have := hK.2.2.2 y hy; omega) (by omega)
    refine ⟨m', ?_, (hfr.tr f1).tr r2, r3⟩
    refine Ev.bipush d_Mo_layKinds_54 rfl ?_
    refine Ev.iload_n d_Mo_layKinds_56 rfl ?_
    refine Ev.imul d_Mo_layKinds_57 ?_
    refine Ev.istore_3 d_Mo_layKinds_58 rfl ?_
    exact r1)
  refine ⟨mF, ?_, g2⟩
  show Ev 3 m_Mo_layKinds 0 [some (vr 57), some (vi p), none, none, none] [] σ m _ σ _
  refine Ev.aload_n d_Mo_layKinds_0 rfl ?_
  refine Ev.iconst d_Mo_layKinds_1 ?_
  refine Ev.pf 8 d_Mo_layKinds_2 lf_Mo_164 rfl rfl rfl rfl (is_57 hM) (by decide) ?_
  refine Ev.aload_n d_Mo_layKinds_5 rfl ?_
  refine Ev.iconst d_Mo_layKinds_6 ?_
  refine Ev.pf 13 d_Mo_layKinds_7 lf_Mo_167 rfl rfl rfl rfl (is_57 hM) (by decide) ?_
  refine Ev.aload_n d_Mo_layKinds_10 rfl ?_
  refine Ev.gr 1 d_Mo_layKinds_11 lf_Mo_7 rfl rfl (is_57 hM) (by decide) (rf_57_1 hM) ?_
  refine Ev.iload_n d_Mo_layKinds_14 rfl ?_
  refine Ev.iaload d_Mo_layKinds_15 (is_58 hM) (by first | omega | (simp [mu]; done) | (simp [mu]; omega)) ?_
  rw [show mu (mu m 57 8 0) 57 13 1 58 p = d by rw [mu_a (by decide), mu_a (by decide)]; exact hd]
  refine Ev.istore_2 d_Mo_layKinds_16 rfl ?_
  refine Ev.iconst d_Mo_layKinds_17 ?_
  refine Ev.istore_3 d_Mo_layKinds_18 rfl ?_
  exact g1
end
