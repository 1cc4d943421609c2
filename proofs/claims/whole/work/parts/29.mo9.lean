section
variable {σ : Sg} {m : Mm}
variable {d : Nat} {M : Md} {pc : Nat} {L : List (Option AV)} {st : List AV} {σ' : Sg} {m' : Mm} {r : Option AV}
/-- a shift to the right of a number that may be too large -/
theorem Ev.ishrw {x n : Int} (hd : decode M.2.1 pc = .ok (.ishr, 1)) (hn : 0 ≤ n ∧ n < 32) (k : Ev d M (pc + 1) L (vi (x.bmod 4294967296 / 2 ^ n.toNat) :: st) σ m r σ' m') : Ev d M pc L (vi n :: vi x :: st) σ m r σ' m' :=
  Ev.lift (fun hX hb _ k => lv_ishr hX hb hd (by
    have e : Int32.ofInt x >>> (Int32.ofInt n &&& 31) = Int32.ofInt (x.bmod 4294967296 / 2 ^ n.toNat) := by
      have h := q_s31 n.toNat (by omega)
      rw [show ((n.toNat : Nat) : Int) = n by omega] at h
      rw [← Int32.ofInt_toInt (Int32.ofInt x >>> (Int32.ofInt n &&& 31)), pk_shr _ _ n.toNat h, Int32.toInt_ofInt, Int.shiftRight_eq_div_pow, q_pow]
    rw [e]; exact k)) k
/-! sheets: lane (-4: nothing), length, cells -/
abbrev SHt : Type := (Int → Int) × (Int → Int) × (Int → Int → Int)
def HK (H : SHt) : Prop := ∀ k, 0 ≤ k → k < 4 → (H.1 k = -4 ∨ (0 ≤ H.1 k ∧ H.1 k ≤ 2)) ∧ (0 ≤ H.2.1 k ∧ H.2.1 k ≤ 60) ∧ ∀ i, 0 ≤ i → i < 60 → -2147483648 ≤ H.2.2 k i ∧ H.2.2 k i ≤ 2147483647
def MH (m : Mm) (H : SHt) : Prop := ∀ k, 0 ≤ k → k < 4 → m 85 k = H.1 k ∧ m 86 k = H.2.1 k ∧ ∀ i, 0 ≤ i → i < 60 → m 87 (60 * k + i) = H.2.2 k i
def FrH (m m' : Mm) : Prop := ∀ a i : Int, (a < 85 ∨ 87 < a) → m' a i = m a i
theorem FrH.rf {m : Mm} : FrH m m := fun _ _ _ => rfl
def sp_sheet (k lane n : Int) : Int := if (0 ≤ k ∧ k ≤ 3) ∧ (0 ≤ lane ∧ lane ≤ 2) ∧ n ≤ 60 then (if n < 0 then -14 else 1) else -1
def st_sheet (H : SHt) (k lane n : Int) : SHt := if ((0 ≤ k ∧ k ≤ 3) ∧ (0 ≤ lane ∧ lane ≤ 2) ∧ n ≤ 60) ∧ 0 ≤ n then (up H.1 k lane, up H.2.1 k n, up H.2.2 k (fun _ => 0)) else H
theorem lp_Mo_sheet (hM : MoS σ) {k : Int} {x2 x3 : Option AV} {x3i : Int} (hk : 0 ≤ k ∧ k ≤ 3) : ∀ (q : Nat) (i : Int) (m : Mm), i + q = 60 → 0 ≤ i → ∃ m', Ev 2 m_Mo_sheet 56 [some (vr 57), some (vi k), x2, some (vi x3i), some (vi i)] [] σ m (some (vi 1)) σ m' ∧ (∀ a j : Int, ¬ (a = 87 ∧ 60 * k + i ≤ j ∧ j < 60 * k + 60) → m' a j = m a j) ∧ ∀ j : Int, 60 * k + i ≤ j → j < 60 * k + 60 → m' 87 j = 0
  | 0, i, m, he, h0 => by
    refine ⟨m, ?_, fun _ _ _ => rfl, fun j h1 h2 => by omega⟩
    refine Ev.iload d_Mo_sheet_56 rfl ?_
    refine Ev.bipush d_Mo_sheet_58 rfl ?_
    refine Ev.icmp_ge (tgt := 82) d_Mo_sheet_60 rfl (by first | omega | (simp [mu]; done) | (simp [mu]; omega)) (by first | omega | (simp [mu]; done) | (simp [mu]; omega)) (fun hb60 => ?_) (fun hb60 => by exfalso; first | omega | simp at hb60 | contradiction)
    refine Ev.iconst d_Mo_sheet_82 ?_
    exact Ev.to (Ev.ireturn d_Mo_sheet_83 rfl) rfl rfl
  | q + 1, i, m, he, h0 => by
    obtain ⟨m', g1, g2, g3⟩ := lp_Mo_sheet hM (x2 := x2) (x3 := x3) (x3i := x3i) hk q (i + 1) (mu m 87 (60 * k + i) 0) (by omega) (by omega)
    refine ⟨m', ?_, fun a j h => ?_, fun j h1 h2 => ?_⟩
    · refine Ev.iload d_Mo_sheet_56 rfl ?_
      refine Ev.bipush d_Mo_sheet_58 rfl ?_
      refine Ev.icmp_ge (tgt := 82) d_Mo_sheet_60 rfl (by first | omega | (simp [mu]; done) | (simp [mu]; omega)) (by first | omega | (simp [mu]; done) | (simp [mu]; omega)) (fun hb60 => by exfalso; first | omega | simp at hb60 | contradiction) (fun hb60 => ?_)
      refine Ev.aload_n d_Mo_sheet_63 rfl ?_
      refine Ev.gr 38 d_Mo_sheet_64 lf_Mo_100 rfl rfl (is_57 hM) (by decide) (rf_57_38 hM) ?_
      refine Ev.bipush d_Mo_sheet_67 rfl ?_
      refine Ev.iload_n d_Mo_sheet_69 rfl ?_
      refine Ev.imul d_Mo_sheet_70 ?_
      refine Ev.iload d_Mo_sheet_71 rfl ?_
      refine Ev.iadd d_Mo_sheet_73 ?_
      refine Ev.iconst d_Mo_sheet_74 ?_
      refine Ev.iastore d_Mo_sheet_75 (is_87 hM) (by decide) (by first | omega | (simp [mu]; done) | (simp [mu]; omega)) ?_
      refine Ev.iinc_4 d_Mo_sheet_76 rfl ?_
      refine Ev.goto (tgt := 56) d_Mo_sheet_79 rfl ?_
      exact g1
    · rw [g2 a j (by omega)]
      exact if_neg (by omega)
    · by_cases e : j = 60 * k + i
      · rw [g2 87 j (by omega), e, mu_s]
      · exact g3 j (by omega) h2
theorem c_Mo_sheet (hM : MoS σ) {H : SHt} (hH : MH m H) {k lane n : Int} (h1 : -2147483648 ≤ k ∧ k ≤ 2147483647) (h2 : -2147483648 ≤ lane ∧ lane ≤ 2147483647) (h3 : -2147483648 ≤ n ∧ n ≤ 2147483647) : ∃ m', Call 2 m_Mo_sheet [vr 57, vi k, vi lane, vi n] σ m (some (vi (sp_sheet k lane n))) σ m' ∧ MH m' (st_sheet H k lane n) ∧ FrH m m' := by
  by_cases hk : (0 ≤ k ∧ k ≤ 3) ∧ (0 ≤ lane ∧ lane ≤ 2) ∧ n ≤ 60
  · by_cases hn : n < 0
    · refine ⟨m, ?_, by rw [st_sheet, if_neg (by omega)]; exact hH, FrH.rf⟩
      rw [sp_sheet, if_pos hk, if_pos hn]
      show Ev 2 m_Mo_sheet 0 [some (vr 57), some (vi k), some (vi lane), some (vi n), none] [] σ m _ σ _
      refine Ev.iload_n d_Mo_sheet_0 rfl ?_
      refine Ev.i2l d_Mo_sheet_1 (by first | omega | (simp [mu]; done) | (simp [mu]; omega)) ?_
      refine Ev.lconst (x := 0) d_Mo_sheet_2 rfl ?_
      refine Ev.ldc2 (x := 3) d_Mo_sheet_3 kl_Mo_295 ?_
      refine Ev.callS d_Mo_sheet_6 mt_Mo_in lk_Mo_107 st_Mo_in rfl (Nat.le_of_ble_eq_true rfl) rfl (Nat.le_of_ble_eq_true rfl) (by decide) rfl (c_Mo_in (by omega) (by omega) (by omega)) ?_
      refine Ev.if_eq (tgt := 30) d_Mo_sheet_9 rfl b01_b (fun hb9 => by exfalso; (first | rw [b01_ne] at hb9 | rw [b01_eq] at hb9); omega) (fun hb9 => ?_)
      rw [b01_ne] at hb9
      refine Ev.iload_n d_Mo_sheet_12 rfl ?_
      refine Ev.i2l d_Mo_sheet_13 (by first | omega | (simp [mu]; done) | (simp [mu]; omega)) ?_
      refine Ev.lconst (x := 0) d_Mo_sheet_14 rfl ?_
      refine Ev.ldc2 (x := 2) d_Mo_sheet_15 kl_Mo_150 ?_
      refine Ev.callS d_Mo_sheet_18 mt_Mo_in lk_Mo_107 st_Mo_in rfl (Nat.le_of_ble_eq_true rfl) rfl (Nat.le_of_ble_eq_true rfl) (by decide) rfl (c_Mo_in (by omega) (by omega) (by omega)) ?_
      refine Ev.if_eq (tgt := 30) d_Mo_sheet_21 rfl b01_b (fun hb21 => by exfalso; (first | rw [b01_ne] at hb21 | rw [b01_eq] at hb21); omega) (fun hb21 => ?_)
      rw [b01_ne] at hb21
      refine Ev.iload_n d_Mo_sheet_24 rfl ?_
      refine Ev.bipush d_Mo_sheet_25 rfl ?_
      refine Ev.icmp_le (tgt := 32) d_Mo_sheet_27 rfl (by first | omega | (simp [mu]; done) | (simp [mu]; omega)) (by first | omega | (simp [mu]; done) | (simp [mu]; omega)) (fun hb27 => ?_) (fun hb27 => by exfalso; first | omega | simp at hb27 | contradiction)
      refine Ev.iload_n d_Mo_sheet_32 rfl ?_
      refine Ev.if_ge (tgt := 39) d_Mo_sheet_33 rfl (by first | omega | (simp [mu]; done) | (simp [mu]; omega)) (fun hb33 => by exfalso; first | omega | simp at hb33 | contradiction) (fun hb33 => ?_)
      refine Ev.bipush d_Mo_sheet_36 rfl ?_
      exact Ev.to (Ev.ireturn d_Mo_sheet_38 rfl) rfl rfl
    · obtain ⟨m', g1, g2, g3⟩ := lp_Mo_sheet hM (k := k) (x2 := some (vi lane)) (x3 := none) (x3i := n) hk.1 60 0 (mu (mu m 85 k lane) 86 k n) (by omega) (by omega)
      refine ⟨m', ?_, ?_, fun a i h => ?_⟩
      · rw [sp_sheet, if_pos hk, if_neg hn]
        show Ev 2 m_Mo_sheet 0 [some (vr 57), some (vi k), some (vi lane), some (vi n), none] [] σ m _ σ _
        refine Ev.iload_n d_Mo_sheet_0 rfl ?_
        refine Ev.i2l d_Mo_sheet_1 (by first | omega | (simp [mu]; done) | (simp [mu]; omega)) ?_
        refine Ev.lconst (x := 0) d_Mo_sheet_2 rfl ?_
        refine Ev.ldc2 (x := 3) d_Mo_sheet_3 kl_Mo_295 ?_
        refine Ev.callS d_Mo_sheet_6 mt_Mo_in lk_Mo_107 st_Mo_in rfl (Nat.le_of_ble_eq_true rfl) rfl (Nat.le_of_ble_eq_true rfl) (by decide) rfl (c_Mo_in (by omega) (by omega) (by omega)) ?_
        refine Ev.if_eq (tgt := 30) d_Mo_sheet_9 rfl b01_b (fun hb9 => by exfalso; (first | rw [b01_ne] at hb9 | rw [b01_eq] at hb9); omega) (fun hb9 => ?_)
        rw [b01_ne] at hb9
        refine Ev.iload_n d_Mo_sheet_12 rfl ?_
        refine Ev.i2l d_Mo_sheet_13 (by first | omega | (simp [mu]; done) | (simp [mu]; omega)) ?_
        refine Ev.lconst (x := 0) d_Mo_sheet_14 rfl ?_
        refine Ev.ldc2 (x := 2) d_Mo_sheet_15 kl_Mo_150 ?_
        refine Ev.callS d_Mo_sheet_18 mt_Mo_in lk_Mo_107 st_Mo_in rfl (Nat.le_of_ble_eq_true rfl) rfl (Nat.le_of_ble_eq_true rfl) (by decide) rfl (c_Mo_in (by omega) (by omega) (by omega)) ?_
        refine Ev.if_eq (tgt := 30) d_Mo_sheet_21 rfl b01_b (fun hb21 => by exfalso; (first | rw [b01_ne] at hb21 | rw [b01_eq] at hb21); omega) (fun hb21 => ?_)
        rw [b01_ne] at hb21
        refine Ev.iload_n d_Mo_sheet_24 rfl ?_
        refine Ev.bipush d_Mo_sheet_25 rfl ?_
        refine Ev.icmp_le (tgt := 32) d_Mo_sheet_27 rfl (by first | omega | (simp [mu]; done) | (simp [mu]; omega)) (by first | omega | (simp [mu]; done) | (simp [mu]; omega)) (fun hb27 => ?_) (fun hb27 => by exfalso; first | omega | simp at hb27 | contradiction)
        refine Ev.iload_n d_Mo_sheet_32 rfl ?_
        refine Ev.if_ge (tgt := 39) d_Mo_sheet_33 rfl (by first | omega | (simp [mu]; done) | (simp [mu]; omega)) (fun hb33 => ?_) (fun hb33 => by exfalso; first | omega | simp at hb33 | contradiction)
        refine Ev.aload_n d_Mo_sheet_39 rfl ?_
        refine Ev.gr 36 d_Mo_sheet_40 lf_Mo_94 rfl rfl (is_57 hM) (by decide) (rf_57_36 hM) ?_
        refine Ev.iload_n d_Mo_sheet_43 rfl ?_
        refine Ev.iload_n d_Mo_sheet_44 rfl ?_
        refine Ev.iastore d_Mo_sheet_45 (is_85 hM) (by decide) (by first | omega | (simp [mu]; done) | (simp [mu]; omega)) ?_
        refine Ev.aload_n d_Mo_sheet_46 rfl ?_
        refine Ev.gr 37 d_Mo_sheet_47 lf_Mo_97 rfl rfl (is_57 hM) (by decide) (rf_57_37 hM) ?_
        refine Ev.iload_n d_Mo_sheet_50 rfl ?_
        refine Ev.iload_n d_Mo_sheet_51 rfl ?_
        refine Ev.iastore d_Mo_sheet_52 (is_86 hM) (by decide) (by first | omega | (simp [mu]; done) | (simp [mu]; omega)) ?_
        refine Ev.iconst d_Mo_sheet_53 ?_
        refine Ev.istore_4 d_Mo_sheet_54 rfl ?_
        exact g1
      · rw [st_sheet, if_pos (by omega)]
        intro z hz1 hz2
        obtain ⟨y1, y2, y3⟩ := hH z hz1 hz2
        by_cases e : z = k
        · subst e
          simp only [up, if_true]
          refine ⟨?_, ?_, fun i hi1 hi2 => g3 _ (by omega) (by omega)⟩
          · rw [g2 85 z (by omega)]; simp [mu]
          · rw [g2 86 z (by omega)]; simp [mu]
        · simp only [up, if_neg e]
          refine ⟨?_, ?_, fun i hi1 hi2 => ?_⟩
          · rw [g2 85 z (by omega)]; simp [mu, e, y1]
          · rw [g2 86 z (by omega)]; simp [mu, e, y2]
          · rw [g2 87 _ (by omega)]; simp [mu]; exact y3 i hi1 hi2
      · rw [g2 a i (by omega), mu_a (by omega), mu_a (by omega)]
  · refine ⟨m, ?_, by rw [st_sheet, if_neg (by omega)]; exact hH, FrH.rf⟩
    rw [sp_sheet, if_neg hk]
    show Ev 2 m_Mo_sheet 0 [some (vr 57), some (vi k), some (vi lane), some (vi n), none] [] σ m _ σ _
    refine Ev.iload_n d_Mo_sheet_0 rfl ?_
    refine Ev.i2l d_Mo_sheet_1 (by first | omega | (simp [mu]; done) | (simp [mu]; omega)) ?_
    refine Ev.lconst (x := 0) d_Mo_sheet_2 rfl ?_
    refine Ev.ldc2 (x := 3) d_Mo_sheet_3 kl_Mo_295 ?_
    refine Ev.callS d_Mo_sheet_6 mt_Mo_in lk_Mo_107 st_Mo_in rfl (Nat.le_of_ble_eq_true rfl) rfl (Nat.le_of_ble_eq_true rfl) (by decide) rfl (c_Mo_in (by omega) (by omega) (by omega)) ?_
    refine Ev.if_eq (tgt := 30) d_Mo_sheet_9 rfl b01_b (fun hb9 => ?_) (fun hb9 => ?_)
    · rw [b01_eq] at hb9
      refine Ev.iconst d_Mo_sheet_30 ?_
      exact Ev.to (Ev.ireturn d_Mo_sheet_31 rfl) rfl rfl
    · rw [b01_ne] at hb9
      refine Ev.iload_n d_Mo_sheet_12 rfl ?_
      refine Ev.i2l d_Mo_sheet_13 (by first | omega | (simp [mu]; done) | (simp [mu]; omega)) ?_
      refine Ev.lconst (x := 0) d_Mo_sheet_14 rfl ?_
      refine Ev.ldc2 (x := 2) d_Mo_sheet_15 kl_Mo_150 ?_
      refine Ev.callS d_Mo_sheet_18 mt_Mo_in lk_Mo_107 st_Mo_in rfl (Nat.le_of_ble_eq_true rfl) rfl (Nat.le_of_ble_eq_true rfl) (by decide) rfl (c_Mo_in (by omega) (by omega) (by omega)) ?_
      refine Ev.if_eq (tgt := 30) d_Mo_sheet_21 rfl b01_b (fun hb21 => ?_) (fun hb21 => ?_)
      · rw [b01_eq] at hb21
        refine Ev.iconst d_Mo_sheet_30 ?_
        exact Ev.to (Ev.ireturn d_Mo_sheet_31 rfl) rfl rfl
      · rw [b01_ne] at hb21
        refine Ev.iload_n d_Mo_sheet_24 rfl ?_
        refine Ev.bipush d_Mo_sheet_25 rfl ?_
        refine Ev.icmp_le (tgt := 32) d_Mo_sheet_27 rfl (by first | omega | (simp [mu]; done) | (simp [mu]; omega)) (by first | omega | (simp [mu]; done) | (simp [mu]; omega)) (fun hb27 => by exfalso; first | omega | simp at hb27 | contradiction) (fun hb27 => ?_)
        refine Ev.iconst d_Mo_sheet_30 ?_
        exact Ev.to (Ev.ireturn d_Mo_sheet_31 rfl) rfl rfl
def lnv (lane v : Int) : Int := if lane = 0 then v.bmod 256 else if lane = 1 then v.bmod 65536 else v
def sp_lay (H : SHt) (k i : Int) : Int := if 0 ≤ k ∧ k ≤ 3 then (if H.1 k = -4 then -11 else if 0 ≤ i ∧ i < H.2.1 k then 1 else -12) else -1
def st_lay (H : SHt) (k i v : Int) : SHt := if (0 ≤ k ∧ k ≤ 3) ∧ ¬ H.1 k = -4 ∧ 0 ≤ i ∧ i < H.2.1 k then (H.1, H.2.1, up H.2.2 k (up (H.2.2 k) i (lnv (H.1 k) v))) else H
theorem c_Mo_lay (hM : MoS σ) {H : SHt} (hH : MH m H) (hK : HK H) {k i v : Int} (h1 : -2147483648 ≤ k ∧ k ≤ 2147483647) (h2 : -2147483648 ≤ i ∧ i ≤ 2147483647) (h3 : -2147483648 ≤ v ∧ v ≤ 2147483647) : ∃ m', Call 2 m_Mo_lay [vr 57, vi k, vi i, vi v] σ m (some (vi (sp_lay H k i))) σ m' ∧ MH m' (st_lay H k i v) ∧ FrH m m' := by
  by_cases hk : 0 ≤ k ∧ k ≤ 3
  · obtain ⟨y1, y2, y3⟩ := hH k (by omega) (by omega)
    obtain ⟨z1, z2, z3⟩ := hK k (by omega) (by omega)
    by_cases hl : H.1 k = -4
    · refine ⟨m, ?_, by rw [st_lay, if_neg (fun q => q.2.1 hl)]; exact hH, FrH.rf⟩
      rw [sp_lay, if_pos hk, if_pos hl]
      show Ev 2 m_Mo_lay 0 [some (vr 57), some (vi k), some (vi i), some (vi v)] [] σ m _ σ _
      refine Ev.iload_n d_Mo_lay_0 rfl ?_
      refine Ev.i2l d_Mo_lay_1 (by first | omega | (simp [mu]; done) | (simp [mu]; omega)) ?_
      refine Ev.lconst (x := 0) d_Mo_lay_2 rfl ?_
      refine Ev.ldc2 (x := 3) d_Mo_lay_3 kl_Mo_295 ?_
      refine Ev.callS d_Mo_lay_6 mt_Mo_in lk_Mo_107 st_Mo_in rfl (Nat.le_of_ble_eq_true rfl) rfl (Nat.le_of_ble_eq_true rfl) (by decide) rfl (c_Mo_in (by omega) (by omega) (by omega)) ?_
      refine Ev.if_ne (tgt := 14) d_Mo_lay_9 rfl b01_b (fun hb9 => ?_) (fun hb9 => by exfalso; (first | rw [b01_ne] at hb9 | rw [b01_eq] at hb9); omega)
      rw [b01_ne] at hb9
      refine Ev.aload_n d_Mo_lay_14 rfl ?_
      refine Ev.gr 36 d_Mo_lay_15 lf_Mo_94 rfl rfl (is_57 hM) (by decide) (rf_57_36 hM) ?_
      refine Ev.iload_n d_Mo_lay_18 rfl ?_
      refine Ev.iaload d_Mo_lay_19 (is_85 hM) (by first | omega | (simp [mu]; done) | (simp [mu]; omega)) ?_
      refine Ev.bipush d_Mo_lay_20 rfl ?_
      refine Ev.icmp_ne (tgt := 28) d_Mo_lay_22 rfl (by first | omega | (simp [mu]; done) | (simp [mu]; omega)) (by first | omega | (simp [mu]; done) | (simp [mu]; omega)) (fun hb22 => by exfalso; first | omega | simp at hb22 | contradiction) (fun hb22 => ?_)
      refine Ev.bipush d_Mo_lay_25 rfl ?_
      exact Ev.to (Ev.ireturn d_Mo_lay_27 rfl) rfl rfl
    · by_cases hi : 0 ≤ i ∧ i < H.2.1 k
      · refine ⟨mu m 87 (60 * k + i) (lnv (H.1 k) v), ?_, ?_, fun a i h => mu_a (by omega)⟩
        · rw [sp_lay, if_pos hk, if_neg hl, if_pos hi]
          show Ev 2 m_Mo_lay 0 [some (vr 57), some (vi k), some (vi i), some (vi v)] [] σ m _ σ _
          refine Ev.iload_n d_Mo_lay_0 rfl ?_
          refine Ev.i2l d_Mo_lay_1 (by first | omega | (simp [mu]; done) | (simp [mu]; omega)) ?_
          refine Ev.lconst (x := 0) d_Mo_lay_2 rfl ?_
          refine Ev.ldc2 (x := 3) d_Mo_lay_3 kl_Mo_295 ?_
          refine Ev.callS d_Mo_lay_6 mt_Mo_in lk_Mo_107 st_Mo_in rfl (Nat.le_of_ble_eq_true rfl) rfl (Nat.le_of_ble_eq_true rfl) (by decide) rfl (c_Mo_in (by omega) (by omega) (by omega)) ?_
          refine Ev.if_ne (tgt := 14) d_Mo_lay_9 rfl b01_b (fun hb9 => ?_) (fun hb9 => by exfalso; (first | rw [b01_ne] at hb9 | rw [b01_eq] at hb9); omega)
          rw [b01_ne] at hb9
          refine Ev.aload_n d_Mo_lay_14 rfl ?_
          refine Ev.gr 36 d_Mo_lay_15 lf_Mo_94 rfl rfl (is_57 hM) (by decide) (rf_57_36 hM) ?_
          refine Ev.iload_n d_Mo_lay_18 rfl ?_
          refine Ev.iaload d_Mo_lay_19 (is_85 hM) (by first | omega | (simp [mu]; done) | (simp [mu]; omega)) ?_
          refine Ev.bipush d_Mo_lay_20 rfl ?_
          refine Ev.icmp_ne (tgt := 28) d_Mo_lay_22 rfl (by first | omega | (simp [mu]; done) | (simp [mu]; omega)) (by first | omega | (simp [mu]; done) | (simp [mu]; omega)) (fun hb22 => ?_) (fun hb22 => by exfalso; first | omega | simp at hb22 | contradiction)
          refine Ev.iload_n d_Mo_lay_28 rfl ?_
          refine Ev.i2l d_Mo_lay_29 (by first | omega | (simp [mu]; done) | (simp [mu]; omega)) ?_
          refine Ev.lconst (x := 0) d_Mo_lay_30 rfl ?_
          refine Ev.aload_n d_Mo_lay_31 rfl ?_
          refine Ev.gr 37 d_Mo_lay_32 lf_Mo_97 rfl rfl (is_57 hM) (by decide) (rf_57_37 hM) ?_
          refine Ev.iload_n d_Mo_lay_35 rfl ?_
          refine Ev.iaload d_Mo_lay_36 (is_86 hM) (by first | omega | (simp [mu]; done) | (simp [mu]; omega)) ?_
          refine Ev.iconst d_Mo_lay_37 ?_
          refine Ev.isub d_Mo_lay_38 ?_
          refine Ev.i2l d_Mo_lay_39 (by first | omega | (simp [mu]; done) | (simp [mu]; omega)) ?_
          refine Ev.callS d_Mo_lay_40 mt_Mo_in lk_Mo_107 st_Mo_in rfl (Nat.le_of_ble_eq_true rfl) rfl (Nat.le_of_ble_eq_true rfl) (by decide) rfl (c_Mo_in (by omega) (by omega) (by omega)) ?_
          refine Ev.if_ne (tgt := 49) d_Mo_lay_43 rfl b01_b (fun hb43 => ?_) (fun hb43 => by exfalso; (first | rw [b01_ne] at hb43 | rw [b01_eq] at hb43); omega)
          rw [b01_ne] at hb43
          refine Ev.aload_n d_Mo_lay_49 rfl ?_
          refine Ev.gr 38 d_Mo_lay_50 lf_Mo_100 rfl rfl (is_57 hM) (by decide) (rf_57_38 hM) ?_
          refine Ev.bipush d_Mo_lay_53 rfl ?_
          refine Ev.iload_n d_Mo_lay_55 rfl ?_
          refine Ev.imul d_Mo_lay_56 ?_
          refine Ev.iload_n d_Mo_lay_57 rfl ?_
          refine Ev.iadd d_Mo_lay_58 ?_
          refine Ev.aload_n d_Mo_lay_59 rfl ?_
          refine Ev.gr 36 d_Mo_lay_60 lf_Mo_94 rfl rfl (is_57 hM) (by decide) (rf_57_36 hM) ?_
          refine Ev.iload_n d_Mo_lay_63 rfl ?_
          refine Ev.iaload d_Mo_lay_64 (is_85 hM) (by first | omega | (simp [mu]; done) | (simp [mu]; omega)) ?_
          refine Ev.if_ne (tgt := 78) d_Mo_lay_65 rfl (by first | omega | (simp [mu]; done) | (simp [mu]; omega)) (fun hb65 => ?_) (fun hb65 => ?_)
          · refine Ev.aload_n d_Mo_lay_78 rfl ?_
            refine Ev.gr 36 d_Mo_lay_79 lf_Mo_94 rfl rfl (is_57 hM) (by decide) (rf_57_36 hM) ?_
            refine Ev.iload_n d_Mo_lay_82 rfl ?_
            refine Ev.iaload d_Mo_lay_83 (is_85 hM) (by first | omega | (simp [mu]; done) | (simp [mu]; omega)) ?_
            refine Ev.iconst d_Mo_lay_84 ?_
            refine Ev.icmp_ne (tgt := 98) d_Mo_lay_85 rfl (by first | omega | (simp [mu]; done) | (simp [mu]; omega)) (by first | omega | (simp [mu]; done) | (simp [mu]; omega)) (fun hb85 => ?_) (fun hb85 => ?_)
            · refine Ev.iload_n d_Mo_lay_98 rfl ?_
              refine Ev.iastore d_Mo_lay_99 (is_87 hM) (by decide) (by first | omega | (simp [mu]; done) | (simp [mu]; omega)) ?_
              refine Ev.iconst d_Mo_lay_100 ?_
              exact Ev.to (Ev.ireturn d_Mo_lay_101 rfl) rfl (by rw [show H.1 k = 2 by omega]; rfl)
            · refine Ev.iload_n d_Mo_lay_88 rfl ?_
              refine Ev.bipush d_Mo_lay_89 rfl ?_
              refine Ev.ishl d_Mo_lay_91 (by first | omega | (simp [mu]; done) | (simp [mu]; omega)) ?_
              refine Ev.bipush d_Mo_lay_92 rfl ?_
              refine Ev.ishrw d_Mo_lay_94 (by omega) ?_
              refine Ev.goto (tgt := 99) d_Mo_lay_95 rfl ?_
              refine Ev.iastore d_Mo_lay_99 (is_87 hM) (by decide) (by first | omega | (simp [mu]; done) | (simp [mu]; omega)) ?_
              refine Ev.iconst d_Mo_lay_100 ?_
              exact Ev.to (Ev.ireturn d_Mo_lay_101 rfl) rfl (by rw [show H.1 k = 1 by omega]; show mu m 87 (60 * k + i) ((v * 2 ^ 16).bmod 4294967296 / 2 ^ 16) = mu m 87 (60 * k + i) (v.bmod 65536); congr 1; simp only [Int.bmod_def]; omega)
          · refine Ev.iload_n d_Mo_lay_68 rfl ?_
            refine Ev.bipush d_Mo_lay_69 rfl ?_
            refine Ev.ishl d_Mo_lay_71 (by first | omega | (simp [mu]; done) | (simp [mu]; omega)) ?_
            refine Ev.bipush d_Mo_lay_72 rfl ?_
            refine Ev.ishrw d_Mo_lay_74 (by omega) ?_
            refine Ev.goto (tgt := 99) d_Mo_lay_75 rfl ?_
            refine Ev.iastore d_Mo_lay_99 (is_87 hM) (by decide) (by first | omega | (simp [mu]; done) | (simp [mu]; omega)) ?_
            refine Ev.iconst d_Mo_lay_100 ?_
            exact Ev.to (Ev.ireturn d_Mo_lay_101 rfl) rfl (by rw [show H.1 k = 0 by omega]; show mu m 87 (60 * k + i) ((v * 2 ^ 24).bmod 4294967296 / 2 ^ 24) = mu m 87 (60 * k + i) (v.bmod 256); congr 1; simp only [Int.bmod_def]; omega)
        · rw [st_lay, if_pos ⟨hk, hl, hi⟩]
          intro z hz1 hz2
          obtain ⟨w1, w2, w3⟩ := hH z hz1 hz2
          refine ⟨by rw [mu_a (by decide)]; exact w1, by rw [mu_a (by decide)]; exact w2, fun j hj1 hj2 => ?_⟩
          by_cases e : z = k
          · subst e
            simp only [up, if_true]
            by_cases e2 : j = i
            · rw [e2, mu_s, if_pos rfl]
            · rw [if_neg e2, mu_n (by omega)]; exact w3 j hj1 hj2
          · simp only [up, if_neg e]
            rw [mu_n (by omega)]; exact w3 j hj1 hj2
      · refine ⟨m, ?_, by rw [st_lay, if_neg (by omega)]; exact hH, FrH.rf⟩
        rw [sp_lay, if_pos hk, if_neg hl, if_neg hi]
        show Ev 2 m_Mo_lay 0 [some (vr 57), some (vi k), some (vi i), some (vi v)] [] σ m _ σ _
        refine Ev.iload_n d_Mo_lay_0 rfl ?_
        refine Ev.i2l d_Mo_lay_1 (by first | omega | (simp [mu]; done) | (simp [mu]; omega)) ?_
        refine Ev.lconst (x := 0) d_Mo_lay_2 rfl ?_
        refine Ev.ldc2 (x := 3) d_Mo_lay_3 kl_Mo_295 ?_
        refine Ev.callS d_Mo_lay_6 mt_Mo_in lk_Mo_107 st_Mo_in rfl (Nat.le_of_ble_eq_true rfl) rfl (Nat.le_of_ble_eq_true rfl) (by decide) rfl (c_Mo_in (by omega) (by omega) (by omega)) ?_
        refine Ev.if_ne (tgt := 14) d_Mo_lay_9 rfl b01_b (fun hb9 => ?_) (fun hb9 => by exfalso; (first | rw [b01_ne] at hb9 | rw [b01_eq] at hb9); omega)
        rw [b01_ne] at hb9
        refine Ev.aload_n d_Mo_lay_14 rfl ?_
        refine Ev.gr 36 d_Mo_lay_15 lf_Mo_94 rfl rfl (is_57 hM) (by decide) (rf_57_36 hM) ?_
        refine Ev.iload_n d_Mo_lay_18 rfl ?_
        refine Ev.iaload d_Mo_lay_19 (is_85 hM) (by first | omega | (simp [mu]; done) | (simp [mu]; omega)) ?_
        refine Ev.bipush d_Mo_lay_20 rfl ?_
        refine Ev.icmp_ne (tgt := 28) d_Mo_lay_22 rfl (by first | omega | (simp [mu]; done) | (simp [mu]; omega)) (by first | omega | (simp [mu]; done) | (simp [mu]; omega)) (fun hb22 => ?_) (fun hb22 => by exfalso; first | omega | simp at hb22 | contradiction)
        refine Ev.iload_n d_Mo_lay_28 rfl ?_
        refine Ev.i2l d_Mo_lay_29 (by first | omega | (simp [mu]; done) | (simp [mu]; omega)) ?_
        refine Ev.lconst (x := 0) d_Mo_lay_30 rfl ?_
        refine Ev.aload_n d_Mo_lay_31 rfl ?_
        refine Ev.gr 37 d_Mo_lay_32 lf_Mo_97 rfl rfl (is_57 hM) (by decide) (rf_57_37 hM) ?_
        refine Ev.iload_n d_Mo_lay_35 rfl ?_
        refine Ev.iaload d_Mo_lay_36 (is_86 hM) (by first | omega | (simp [mu]; done) | (simp [mu]; omega)) ?_
        refine Ev.iconst d_Mo_lay_37 ?_
        refine Ev.isub d_Mo_lay_38 ?_
        refine Ev.i2l d_Mo_lay_39 (by first | omega | (simp [mu]; done) | (simp [mu]; omega)) ?_
        refine Ev.callS d_Mo_lay_40 mt_Mo_in lk_Mo_107 st_Mo_in rfl (Nat.le_of_ble_eq_true rfl) rfl (Nat.le_of_ble_eq_true rfl) (by decide) rfl (c_Mo_in (by omega) (by omega) (by omega)) ?_
        refine Ev.if_ne (tgt := 49) d_Mo_lay_43 rfl b01_b (fun hb43 => by exfalso; (first | rw [b01_ne] at hb43 | rw [b01_eq] at hb43); omega) (fun hb43 => ?_)
        rw [b01_eq] at hb43
        refine Ev.bipush d_Mo_lay_46 rfl ?_
        exact Ev.to (Ev.ireturn d_Mo_lay_48 rfl) rfl rfl
  · refine ⟨m, ?_, by rw [st_lay, if_neg (fun q => hk q.1)]; exact hH, FrH.rf⟩
    rw [sp_lay, if_neg hk]
    show Ev 2 m_Mo_lay 0 [some (vr 57), some (vi k), some (vi i), some (vi v)] [] σ m _ σ _
    refine Ev.iload_n d_Mo_lay_0 rfl ?_
    refine Ev.i2l d_Mo_lay_1 (by first | omega | (simp [mu]; done) | (simp [mu]; omega)) ?_
    refine Ev.lconst (x := 0) d_Mo_lay_2 rfl ?_
    refine Ev.ldc2 (x := 3) d_Mo_lay_3 kl_Mo_295 ?_
    refine Ev.callS d_Mo_lay_6 mt_Mo_in lk_Mo_107 st_Mo_in rfl (Nat.le_of_ble_eq_true rfl) rfl (Nat.le_of_ble_eq_true rfl) (by decide) rfl (c_Mo_in (by omega) (by omega) (by omega)) ?_
    refine Ev.if_ne (tgt := 14) d_Mo_lay_9 rfl b01_b (fun hb9 => by exfalso; (first | rw [b01_ne] at hb9 | rw [b01_eq] at hb9); omega) (fun hb9 => ?_)
    rw [b01_eq] at hb9
    refine Ev.iconst d_Mo_lay_12 ?_
    exact Ev.to (Ev.ireturn d_Mo_lay_13 rfl) rfl rfl
theorem st_sheet_K {H : SHt} (h : HK H) {k lane n : Int} : HK (st_sheet H k lane n) := by
  unfold st_sheet
  split
  next hc =>
    intro z h1 h2
    obtain ⟨a1, a2, a3⟩ := h z h1 h2
    by_cases e : z = k
    · subst e
      simp only [up, if_true]
      exact ⟨by omega, by omega, fun i _ _ => by omega⟩
    · simp only [up, if_neg e]
      exact ⟨a1, a2, a3⟩
  next => exact h
theorem lnv_b {l v : Int} (h : -2147483648 ≤ v ∧ v ≤ 2147483647) : -2147483648 ≤ lnv l v ∧ lnv l v ≤ 2147483647 := by
  unfold lnv
  simp only [Int.bmod_def]
  split
  · omega
  split <;> omega
theorem st_lay_K {H : SHt} (h : HK H) {k i v : Int} (hv : -2147483648 ≤ v ∧ v ≤ 2147483647) : HK (st_lay H k i v) := by
  unfold st_lay
  split
  next hc =>
    intro z h1 h2
    obtain ⟨a1, a2, a3⟩ := h z h1 h2
    refine ⟨a1, a2, fun j hj1 hj2 => ?_⟩
    by_cases e : z = k
    · subst e
      simp only [up, if_true]
      split
      · exact lnv_b hv
      · exact a3 j hj1 hj2
    · simp only [up, if_neg e]
      exact a3 j hj1 hj2
  next => exact h
end
