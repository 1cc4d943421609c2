/-! the class's own methods: sheets, the tape, tangents, many -/
def CH (m : Mm) (H : SHt) : Prop := ∀ k, 0 ≤ k → k < 4 → ShM m (49 + 2 * k) (H.1 k) (H.2.1 k) (H.2.2 k)
def FrSh (m m' : Mm) : Prop := ∀ b j : Int, (b < 49 ∨ 56 < b) → m' b j = m b j
theorem CH_fr {m m' : Mm} {H : SHt} (h : CH m H) (f : ∀ b j : Int, 49 ≤ b → b ≤ 56 → m' b j = m b j) : CH m' H := fun k a b => ⟨(f _ _ (by omega) (by omega)).trans (h k a b).1, (f _ _ (by omega) (by omega)).trans (h k a b).2.1, fun i x y => (f _ _ (by omega) (by omega)).trans ((h k a b).2.2 i x y)⟩
theorem HK_k {H : SHt} (h : HK H) {k : Int} (hk : 0 ≤ k ∧ k < 4) : ShK (H.1 k) (H.2.1 k) (H.2.2 k) := h k hk.1 hk.2
section
variable {σ : Sg} {m : Mm}
theorem c_sAt (hF : FcS σ) {k : Int} (hk : 0 ≤ k ∧ k < 4) : Call 1 m_FC_sheetAt [vr 3, vi k] σ m (some (vr (49 + 2 * k))) σ m := by
  have hsa := sh_at hF hk
  show Ev 1 m_FC_sheetAt 0 [some (vr 3), some (vi k)] [] σ m _ σ m
  refine Ev.iload_n d_FC_sheetAt_0 rfl ?_
  refine Ev.if_lt (tgt := 18) d_FC_sheetAt_1 rfl (by first | omega | (simp [mu]; done) | (simp [mu]; omega)) (fun hb1 => by exfalso; first | omega | simp at hb1 | contradiction) (fun hb1 => ?_)
  refine Ev.iload_n d_FC_sheetAt_4 rfl ?_
  refine Ev.iconst d_FC_sheetAt_5 ?_
  refine Ev.icmp_ge (tgt := 18) d_FC_sheetAt_6 rfl (by first | omega | (simp [mu]; done) | (simp [mu]; omega)) (by first | omega | (simp [mu]; done) | (simp [mu]; omega)) (fun hb6 => by exfalso; first | omega | simp at hb6 | contradiction) (fun hb6 => ?_)
  refine Ev.aload_n d_FC_sheetAt_9 rfl ?_
  refine Ev.gr 8 d_FC_sheetAt_10 lf_FC_60 rfl rfl (fi_3 hF) (by decide) (fr_3_8 hF) ?_
  refine Ev.iload_n d_FC_sheetAt_13 rfl ?_
  refine Ev.aaload d_FC_sheetAt_14 (show Is σ 24 (200 + 4) 4 from fi_24 hF) (by first | omega | (simp [mu]; done) | (simp [mu]; omega)) hsa.2 ?_
  refine Ev.goto (tgt := 19) d_FC_sheetAt_15 rfl ?_
  exact Ev.to (Ev.areturn d_FC_sheetAt_19 rfl) rfl rfl
theorem c_sNo (hF : FcS σ) {k : Int} (h1 : -2147483648 ≤ k ∧ k ≤ 2147483647) (hk : ¬ (0 ≤ k ∧ k < 4)) : Call 1 m_FC_sheetAt [vr 3, vi k] σ m (some (vr (-1))) σ m := by
  show Ev 1 m_FC_sheetAt 0 [some (vr 3), some (vi k)] [] σ m _ σ m
  refine Ev.iload_n d_FC_sheetAt_0 rfl ?_
  refine Ev.if_lt (tgt := 18) d_FC_sheetAt_1 rfl (by first | omega | (simp [mu]; done) | (simp [mu]; omega)) (fun hb1 => ?_) (fun hb1 => ?_)
  · refine Ev.null d_FC_sheetAt_18 ?_
    exact Ev.to (Ev.areturn d_FC_sheetAt_19 rfl) rfl rfl
  · refine Ev.iload_n d_FC_sheetAt_4 rfl ?_
    refine Ev.iconst d_FC_sheetAt_5 ?_
    refine Ev.icmp_ge (tgt := 18) d_FC_sheetAt_6 rfl (by first | omega | (simp [mu]; done) | (simp [mu]; omega)) (by first | omega | (simp [mu]; done) | (simp [mu]; omega)) (fun hb6 => ?_) (fun hb6 => by exfalso; first | omega | simp at hb6 | contradiction)
    refine Ev.null d_FC_sheetAt_18 ?_
    exact Ev.to (Ev.areturn d_FC_sheetAt_19 rfl) rfl rfl
theorem CH_set {m' : Mm} {H : SHt} (hH : CH m H) {k l n : Int} {C : Int → Int} (hk : 0 ≤ k ∧ k < 4) (hS : ShM m' (49 + 2 * k) l n C) (f : ∀ b j : Int, b ≠ 49 + 2 * k → b ≠ 50 + 2 * k → m' b j = m b j) : CH m' (up H.1 k l, up H.2.1 k n, up H.2.2 k C) := fun q a b => by
  show ShM m' (49 + 2 * q) (up H.1 k l q) (up H.2.1 k n q) (up H.2.2 k C q)
  unfold up
  by_cases e : q = k
  · rw [if_pos e, if_pos e, if_pos e, e]; exact hS
  · rw [if_neg e, if_neg e, if_neg e]
    have := hH q a b
    exact ⟨(f _ _ (by omega) (by omega)).trans this.1, (f _ _ (by omega) (by omega)).trans this.2.1, fun i x y => (f _ _ (by omega) (by omega)).trans (this.2.2 i x y)⟩
theorem c_FC_sheet (hF : FcS σ) {H : SHt} (hH : CH m H) {k lane n : Int} (h1 : -2147483648 ≤ k ∧ k ≤ 2147483647) (h2 : -2147483648 ≤ lane ∧ lane ≤ 2147483647) (h3 : -2147483648 ≤ n ∧ n ≤ 2147483647) : ∃ m', Call 3 m_FC_sheet [vr 3, vi k, vi lane, vi n] σ m (some (vi (sp_sheet k lane n))) σ m' ∧ CH m' (st_sheet H k lane n) ∧ FrSh m m' := by
  unfold sp_sheet st_sheet
  have cl := c_Sh_isLane (σ := σ) (m := m) h2
  by_cases hk : 0 ≤ k ∧ k < 4
  · have hsa := (sh_at hF hk).1
    by_cases hc : (0 ≤ lane ∧ lane ≤ 2) ∧ n ≤ 60
    · rw [if_pos ⟨by omega, hc⟩]
      by_cases hn : n < 0
      · rw [if_pos hn, if_neg (by omega)]
        refine ⟨m, ?_, hH, fun _ _ _ => rfl⟩
        show Ev 3 m_FC_sheet 0 [some (vr 3), some (vi k), some (vi lane), some (vi n), none] [] σ m _ σ _
        refine Ev.aload_n d_FC_sheet_0 rfl ?_
        refine Ev.iload_n d_FC_sheet_1 rfl ?_
        refine Ev.callV d_FC_sheet_2 mt_FC_sheetAt lk_FC_229 in_FC_sheetAt se_FC_sheetAt rfl (Nat.le_of_ble_eq_true rfl) rfl (Nat.le_of_ble_eq_true rfl) (by decide) (fi_3 hF) (by decide) rfl rfl (c_sAt hF hk) ?_
        refine Ev.astore_4 d_FC_sheet_5 rfl ?_
        refine Ev.aload d_FC_sheet_7 rfl ?_
        refine Ev.ifnull (tgt := 25) d_FC_sheet_9 rfl (fun hb9 => by exfalso; first | omega | simp at hb9 | contradiction) (fun hb9 => ?_)
        refine Ev.iload_n d_FC_sheet_12 rfl ?_
        refine Ev.callS d_FC_sheet_13 mt_Sh_isLane lk_FC_233 st_Sh_isLane rfl (Nat.le_of_ble_eq_true rfl) rfl (Nat.le_of_ble_eq_true rfl) (by decide) rfl cl ?_
        refine Ev.if_eq (tgt := 25) d_FC_sheet_16 rfl b01_b (fun hb16 => by exfalso; (first | rw [b01_ne] at hb16 | rw [b01_eq] at hb16); omega) (fun hb16 => ?_)
        rw [b01_ne] at hb16
        refine Ev.iload_n d_FC_sheet_19 rfl ?_
        refine Ev.bipush d_FC_sheet_20 rfl ?_
        refine Ev.icmp_le (tgt := 27) d_FC_sheet_22 rfl (by first | omega | (simp [mu]; done) | (simp [mu]; omega)) (by first | omega | (simp [mu]; done) | (simp [mu]; omega)) (fun hb22 => ?_) (fun hb22 => by exfalso; first | omega | simp at hb22 | contradiction)
        refine Ev.iload_n d_FC_sheet_27 rfl ?_
        refine Ev.if_ge (tgt := 34) d_FC_sheet_28 rfl (by first | omega | (simp [mu]; done) | (simp [mu]; omega)) (fun hb28 => by exfalso; first | omega | simp at hb28 | contradiction) (fun hb28 => ?_)
        refine Ev.bipush d_FC_sheet_31 rfl ?_
        exact Ev.to (Ev.ireturn d_FC_sheet_33 rfl) rfl rfl
      · rw [if_neg hn, if_pos ⟨⟨by omega, hc⟩, by omega⟩]
        have cr := c_Sh_renew (m := m) hsa hc.1 (k := n) (by omega)
        refine ⟨ms (mu (mu m (49 + 2 * k) 1 lane) (49 + 2 * k) 2 n) (49 + 2 * k + 1) 0 60 (fun _ => 0), ?_, CH_set hH hk ⟨?_, ?_, fun i a b => ?_⟩ (fun b j x y => ?_), fun b j x => ?_⟩
        rotate_left
        · rw [ms_a (by omega), mu_n (by omega), mu_s]; unfold cl4; rw [if_neg (by omega)]
        · rw [ms_a (by omega), mu_s]
        · rw [ms_in ⟨a, b⟩]
        · rw [ms_a (by omega), mu_a x, mu_a x]
        · rw [ms_a (by omega), mu_a (by omega), mu_a (by omega)]
        show Ev 3 m_FC_sheet 0 [some (vr 3), some (vi k), some (vi lane), some (vi n), none] [] σ m _ σ _
        refine Ev.aload_n d_FC_sheet_0 rfl ?_
        refine Ev.iload_n d_FC_sheet_1 rfl ?_
        refine Ev.callV d_FC_sheet_2 mt_FC_sheetAt lk_FC_229 in_FC_sheetAt se_FC_sheetAt rfl (Nat.le_of_ble_eq_true rfl) rfl (Nat.le_of_ble_eq_true rfl) (by decide) (fi_3 hF) (by decide) rfl rfl (c_sAt hF hk) ?_
        refine Ev.astore_4 d_FC_sheet_5 rfl ?_
        refine Ev.aload d_FC_sheet_7 rfl ?_
        refine Ev.ifnull (tgt := 25) d_FC_sheet_9 rfl (fun hb9 => by exfalso; first | omega | simp at hb9 | contradiction) (fun hb9 => ?_)
        refine Ev.iload_n d_FC_sheet_12 rfl ?_
        refine Ev.callS d_FC_sheet_13 mt_Sh_isLane lk_FC_233 st_Sh_isLane rfl (Nat.le_of_ble_eq_true rfl) rfl (Nat.le_of_ble_eq_true rfl) (by decide) rfl cl ?_
        refine Ev.if_eq (tgt := 25) d_FC_sheet_16 rfl b01_b (fun hb16 => by exfalso; (first | rw [b01_ne] at hb16 | rw [b01_eq] at hb16); omega) (fun hb16 => ?_)
        rw [b01_ne] at hb16
        refine Ev.iload_n d_FC_sheet_19 rfl ?_
        refine Ev.bipush d_FC_sheet_20 rfl ?_
        refine Ev.icmp_le (tgt := 27) d_FC_sheet_22 rfl (by first | omega | (simp [mu]; done) | (simp [mu]; omega)) (by first | omega | (simp [mu]; done) | (simp [mu]; omega)) (fun hb22 => ?_) (fun hb22 => by exfalso; first | omega | simp at hb22 | contradiction)
        refine Ev.iload_n d_FC_sheet_27 rfl ?_
        refine Ev.if_ge (tgt := 34) d_FC_sheet_28 rfl (by first | omega | (simp [mu]; done) | (simp [mu]; omega)) (fun hb28 => ?_) (fun hb28 => by exfalso; first | omega | simp at hb28 | contradiction)
        refine Ev.aload d_FC_sheet_34 rfl ?_
        refine Ev.iload_n d_FC_sheet_36 rfl ?_
        refine Ev.iload_n d_FC_sheet_37 rfl ?_
        refine Ev.callVv d_FC_sheet_38 mt_Sh_renew lk_FC_236 in_Sh_renew se_Sh_renew rfl (Nat.le_of_ble_eq_true rfl) rfl (Nat.le_of_ble_eq_true rfl) (by decide) hsa.2.1 (by decide) rfl rfl cr ?_
        refine Ev.iconst d_FC_sheet_41 ?_
        exact Ev.to (Ev.ireturn d_FC_sheet_42 rfl) rfl rfl
    · rw [if_neg (fun h => hc h.2), if_neg (fun h => hc h.1.2)]
      refine ⟨m, ?_, hH, fun _ _ _ => rfl⟩
      show Ev 3 m_FC_sheet 0 [some (vr 3), some (vi k), some (vi lane), some (vi n), none] [] σ m _ σ _
      refine Ev.aload_n d_FC_sheet_0 rfl ?_
      refine Ev.iload_n d_FC_sheet_1 rfl ?_
      refine Ev.callV d_FC_sheet_2 mt_FC_sheetAt lk_FC_229 in_FC_sheetAt se_FC_sheetAt rfl (Nat.le_of_ble_eq_true rfl) rfl (Nat.le_of_ble_eq_true rfl) (by decide) (fi_3 hF) (by decide) rfl rfl (c_sAt hF hk) ?_
      refine Ev.astore_4 d_FC_sheet_5 rfl ?_
      refine Ev.aload d_FC_sheet_7 rfl ?_
      refine Ev.ifnull (tgt := 25) d_FC_sheet_9 rfl (fun hb9 => by exfalso; first | omega | simp at hb9 | contradiction) (fun hb9 => ?_)
      refine Ev.iload_n d_FC_sheet_12 rfl ?_
      refine Ev.callS d_FC_sheet_13 mt_Sh_isLane lk_FC_233 st_Sh_isLane rfl (Nat.le_of_ble_eq_true rfl) rfl (Nat.le_of_ble_eq_true rfl) (by decide) rfl cl ?_
      refine Ev.if_eq (tgt := 25) d_FC_sheet_16 rfl b01_b (fun hb16 => ?_) (fun hb16 => ?_)
      · rw [b01_eq] at hb16
        refine Ev.iconst d_FC_sheet_25 ?_
        exact Ev.to (Ev.ireturn d_FC_sheet_26 rfl) rfl rfl
      · rw [b01_ne] at hb16
        refine Ev.iload_n d_FC_sheet_19 rfl ?_
        refine Ev.bipush d_FC_sheet_20 rfl ?_
        refine Ev.icmp_le (tgt := 27) d_FC_sheet_22 rfl (by first | omega | (simp [mu]; done) | (simp [mu]; omega)) (by first | omega | (simp [mu]; done) | (simp [mu]; omega)) (fun hb22 => by exfalso; first | omega | simp at hb22 | contradiction) (fun hb22 => ?_)
        refine Ev.iconst d_FC_sheet_25 ?_
        exact Ev.to (Ev.ireturn d_FC_sheet_26 rfl) rfl rfl
  · rw [if_neg (by omega), if_neg (by omega)]
    refine ⟨m, ?_, hH, fun _ _ _ => rfl⟩
    show Ev 3 m_FC_sheet 0 [some (vr 3), some (vi k), some (vi lane), some (vi n), none] [] σ m _ σ _
    refine Ev.aload_n d_FC_sheet_0 rfl ?_
    refine Ev.iload_n d_FC_sheet_1 rfl ?_
    refine Ev.callV d_FC_sheet_2 mt_FC_sheetAt lk_FC_229 in_FC_sheetAt se_FC_sheetAt rfl (Nat.le_of_ble_eq_true rfl) rfl (Nat.le_of_ble_eq_true rfl) (by decide) (fi_3 hF) (by decide) rfl rfl (c_sNo hF h1 hk) ?_
    refine Ev.astore_4 d_FC_sheet_5 rfl ?_
    refine Ev.aload d_FC_sheet_7 rfl ?_
    refine Ev.ifnull (tgt := 25) d_FC_sheet_9 rfl (fun hb9 => ?_) (fun hb9 => by exfalso; first | omega | simp at hb9 | contradiction)
    refine Ev.iconst d_FC_sheet_25 ?_
    exact Ev.to (Ev.ireturn d_FC_sheet_26 rfl) rfl rfl
theorem c_FC_lay (hF : FcS σ) {H : SHt} (hH : CH m H) (hK : HK H) {k i v : Int} (h1 : -2147483648 ≤ k ∧ k ≤ 2147483647) (h2 : -2147483648 ≤ i ∧ i ≤ 2147483647) (h3 : -2147483648 ≤ v ∧ v ≤ 2147483647) : ∃ m', Call 3 m_FC_lay [vr 3, vi k, vi i, vi v] σ m (some (vi (sp_lay H k i))) σ m' ∧ CH m' (st_lay H k i v) ∧ FrSh m m' := by
  unfold sp_lay st_lay
  by_cases hk : 0 ≤ k ∧ k < 4
  · have hsa := (sh_at hF hk).1
    have hsm := hH k hk.1 hk.2
    have hsk := HK_k hK hk
    have cn_ := c_Sh_isNothing hsa hsm hsk
    have ch := c_Sh_hasCell hsa hsm hsk h2
    rw [if_pos (show 0 ≤ k ∧ k ≤ 3 by omega)]
    by_cases hn : H.1 k = -4
    · rw [if_pos hn, if_neg (fun h => h.2.1 hn)]
      refine ⟨m, ?_, hH, fun _ _ _ => rfl⟩
      show Ev 3 m_FC_lay 0 [some (vr 3), some (vi k), some (vi i), some (vi v), none] [] σ m _ σ _
      refine Ev.aload_n d_FC_lay_0 rfl ?_
      refine Ev.iload_n d_FC_lay_1 rfl ?_
      refine Ev.callV d_FC_lay_2 mt_FC_sheetAt lk_FC_229 in_FC_sheetAt se_FC_sheetAt rfl (Nat.le_of_ble_eq_true rfl) rfl (Nat.le_of_ble_eq_true rfl) (by decide) (fi_3 hF) (by decide) rfl rfl (c_sAt hF hk) ?_
      refine Ev.astore_4 d_FC_lay_5 rfl ?_
      refine Ev.aload d_FC_lay_7 rfl ?_
      refine Ev.ifnonnull (tgt := 14) d_FC_lay_9 rfl (fun hb9 => ?_) (fun hb9 => by exfalso; first | omega | simp at hb9 | contradiction)
      refine Ev.aload d_FC_lay_14 rfl ?_
      refine Ev.callV d_FC_lay_16 mt_Sh_isNothing lk_FC_240 in_Sh_isNothing se_Sh_isNothing rfl (Nat.le_of_ble_eq_true rfl) rfl (Nat.le_of_ble_eq_true rfl) (by decide) hsa.2.1 (by decide) rfl rfl cn_ ?_
      refine Ev.if_eq (tgt := 25) d_FC_lay_19 rfl b01_b (fun hb19 => by exfalso; (first | rw [b01_ne] at hb19 | rw [b01_eq] at hb19); omega) (fun hb19 => ?_)
      rw [b01_ne] at hb19
      refine Ev.bipush d_FC_lay_22 rfl ?_
      exact Ev.to (Ev.ireturn d_FC_lay_24 rfl) rfl rfl
    · rw [if_neg hn]
      by_cases hi : 0 ≤ i ∧ i < H.2.1 k
      · rw [if_pos hi, if_pos ⟨by omega, hn, hi⟩]
        have cw := c_Sh_write hsa hsm hsk hi hn h3
        have hb60 := hsk.2.1
        refine ⟨mu m (49 + 2 * k + 1) i (lnv (H.1 k) v), ?_, ?_, fun b j x => mu_a (by omega)⟩
        rotate_left
        · have := CH_set (m' := mu m (49 + 2 * k + 1) i (lnv (H.1 k) v)) hH hk (l := H.1 k) (n := H.2.1 k) (C := up (H.2.2 k) i (lnv (H.1 k) v)) ⟨(mu_a (by omega)).trans hsm.1, (mu_a (by omega)).trans hsm.2.1, fun j a b => by
            unfold up
            by_cases e : j = i
            · rw [if_pos e, e, mu_s]
            · rw [if_neg e, mu_n (Or.inr e)]; exact hsm.2.2 j a b⟩ (fun b j x y => mu_a (by omega))
          have u1 : up H.1 k (H.1 k) = H.1 := by funext z; unfold up; split <;> simp_all
          have u2 : up H.2.1 k (H.2.1 k) = H.2.1 := by funext z; unfold up; split <;> simp_all
          rw [u1, u2] at this
          exact this
        show Ev 3 m_FC_lay 0 [some (vr 3), some (vi k), some (vi i), some (vi v), none] [] σ m _ σ _
        refine Ev.aload_n d_FC_lay_0 rfl ?_
        refine Ev.iload_n d_FC_lay_1 rfl ?_
        refine Ev.callV d_FC_lay_2 mt_FC_sheetAt lk_FC_229 in_FC_sheetAt se_FC_sheetAt rfl (Nat.le_of_ble_eq_true rfl) rfl (Nat.le_of_ble_eq_true rfl) (by decide) (fi_3 hF) (by decide) rfl rfl (c_sAt hF hk) ?_
        refine Ev.astore_4 d_FC_lay_5 rfl ?_
        refine Ev.aload d_FC_lay_7 rfl ?_
        refine Ev.ifnonnull (tgt := 14) d_FC_lay_9 rfl (fun hb9 => ?_) (fun hb9 => by exfalso; first | omega | simp at hb9 | contradiction)
        refine Ev.aload d_FC_lay_14 rfl ?_
        refine Ev.callV d_FC_lay_16 mt_Sh_isNothing lk_FC_240 in_Sh_isNothing se_Sh_isNothing rfl (Nat.le_of_ble_eq_true rfl) rfl (Nat.le_of_ble_eq_true rfl) (by decide) hsa.2.1 (by decide) rfl rfl cn_ ?_
        refine Ev.if_eq (tgt := 25) d_FC_lay_19 rfl b01_b (fun hb19 => ?_) (fun hb19 => by exfalso; (first | rw [b01_ne] at hb19 | rw [b01_eq] at hb19); omega)
        rw [b01_eq] at hb19
        refine Ev.aload d_FC_lay_25 rfl ?_
        refine Ev.iload_n d_FC_lay_27 rfl ?_
        refine Ev.callV d_FC_lay_28 mt_Sh_hasCell lk_FC_243 in_Sh_hasCell se_Sh_hasCell rfl (Nat.le_of_ble_eq_true rfl) rfl (Nat.le_of_ble_eq_true rfl) (by decide) hsa.2.1 (by decide) rfl rfl ch ?_
        refine Ev.if_ne (tgt := 37) d_FC_lay_31 rfl b01_b (fun hb31 => ?_) (fun hb31 => by exfalso; (first | rw [b01_ne] at hb31 | rw [b01_eq] at hb31); omega)
        rw [b01_ne] at hb31
        refine Ev.aload d_FC_lay_37 rfl ?_
        refine Ev.iload_n d_FC_lay_39 rfl ?_
        refine Ev.iload_n d_FC_lay_40 rfl ?_
        refine Ev.callVv d_FC_lay_41 mt_Sh_write lk_FC_246 in_Sh_write se_Sh_write rfl (Nat.le_of_ble_eq_true rfl) rfl (Nat.le_of_ble_eq_true rfl) (by decide) hsa.2.1 (by decide) rfl rfl cw ?_
        refine Ev.iconst d_FC_lay_44 ?_
        exact Ev.to (Ev.ireturn d_FC_lay_45 rfl) rfl rfl
      · rw [if_neg hi, if_neg (fun h => hi h.2.2)]
        refine ⟨m, ?_, hH, fun _ _ _ => rfl⟩
        show Ev 3 m_FC_lay 0 [some (vr 3), some (vi k), some (vi i), some (vi v), none] [] σ m _ σ _
        refine Ev.aload_n d_FC_lay_0 rfl ?_
        refine Ev.iload_n d_FC_lay_1 rfl ?_
        refine Ev.callV d_FC_lay_2 mt_FC_sheetAt lk_FC_229 in_FC_sheetAt se_FC_sheetAt rfl (Nat.le_of_ble_eq_true rfl) rfl (Nat.le_of_ble_eq_true rfl) (by decide) (fi_3 hF) (by decide) rfl rfl (c_sAt hF hk) ?_
        refine Ev.astore_4 d_FC_lay_5 rfl ?_
        refine Ev.aload d_FC_lay_7 rfl ?_
        refine Ev.ifnonnull (tgt := 14) d_FC_lay_9 rfl (fun hb9 => ?_) (fun hb9 => by exfalso; first | omega | simp at hb9 | contradiction)
        refine Ev.aload d_FC_lay_14 rfl ?_
        refine Ev.callV d_FC_lay_16 mt_Sh_isNothing lk_FC_240 in_Sh_isNothing se_Sh_isNothing rfl (Nat.le_of_ble_eq_true rfl) rfl (Nat.le_of_ble_eq_true rfl) (by decide) hsa.2.1 (by decide) rfl rfl cn_ ?_
        refine Ev.if_eq (tgt := 25) d_FC_lay_19 rfl b01_b (fun hb19 => ?_) (fun hb19 => by exfalso; (first | rw [b01_ne] at hb19 | rw [b01_eq] at hb19); omega)
        rw [b01_eq] at hb19
        refine Ev.aload d_FC_lay_25 rfl ?_
        refine Ev.iload_n d_FC_lay_27 rfl ?_
        refine Ev.callV d_FC_lay_28 mt_Sh_hasCell lk_FC_243 in_Sh_hasCell se_Sh_hasCell rfl (Nat.le_of_ble_eq_true rfl) rfl (Nat.le_of_ble_eq_true rfl) (by decide) hsa.2.1 (by decide) rfl rfl ch ?_
        refine Ev.if_ne (tgt := 37) d_FC_lay_31 rfl b01_b (fun hb31 => by exfalso; (first | rw [b01_ne] at hb31 | rw [b01_eq] at hb31); omega) (fun hb31 => ?_)
        rw [b01_eq] at hb31
        refine Ev.bipush d_FC_lay_34 rfl ?_
        exact Ev.to (Ev.ireturn d_FC_lay_36 rfl) rfl rfl
  · rw [if_neg (by omega), if_neg (by omega)]
    refine ⟨m, ?_, hH, fun _ _ _ => rfl⟩
    show Ev 3 m_FC_lay 0 [some (vr 3), some (vi k), some (vi i), some (vi v), none] [] σ m _ σ _
    refine Ev.aload_n d_FC_lay_0 rfl ?_
    refine Ev.iload_n d_FC_lay_1 rfl ?_
    refine Ev.callV d_FC_lay_2 mt_FC_sheetAt lk_FC_229 in_FC_sheetAt se_FC_sheetAt rfl (Nat.le_of_ble_eq_true rfl) rfl (Nat.le_of_ble_eq_true rfl) (by decide) (fi_3 hF) (by decide) rfl rfl (c_sNo hF h1 hk) ?_
    refine Ev.astore_4 d_FC_lay_5 rfl ?_
    refine Ev.aload d_FC_lay_7 rfl ?_
    refine Ev.ifnonnull (tgt := 14) d_FC_lay_9 rfl (fun hb9 => by exfalso; first | omega | simp at hb9 | contradiction) (fun hb9 => ?_)
    refine Ev.iconst d_FC_lay_12 ?_
    exact Ev.to (Ev.ireturn d_FC_lay_13 rfl) rfl rfl
theorem lp_FC_draw (hF : FcS σ) {S : PS} {H : SHt} (hK : HK H) {k lane f d n : Int} (hk : 0 ≤ k ∧ k < 4) (hd : 1 ≤ d ∧ d ≤ 4) (hn : 0 ≤ n ∧ n ≤ 6) (hf : -2147483648 ≤ f ∧ f ≤ 2147483647) : ∀ (q : Nat) (i : Int) (m : Mm) (l : List Int) (x9 : Option AV), i + q = n → 0 ≤ i → (0 < i → f + 3 * i ≤ 60) → SR σ m → CS m S → CH m H → PicM m 5 d l → PK d l → l.length + q ≤ 6 → ∃ mF, Ev 4 m_FC_draw 79 [some (vr 3), some (vi k), some (vi lane), some (vi f), some (vi d), some (vi n), some (vr (49 + 2 * k)), some (vi (f + 3 * i)), some (vi i), x9] [] σ m (some (vi (if drc H k f d q i = 0 then (if S.1 = 8 then -3 else S.1) else drc H k f d q i))) σ mF ∧ CS mF (if drc H k f d q i = 0 ∧ ¬ S.1 = 8 then st_new S d (drl H k f q i l) else S) ∧ FrPi m mF
  | 0, i, m, l, x9, hi, h0, hf0, hR, hS, hH, hm, hl, hlen => by
    have hsa := (sh_at hF hk).1
    obtain ⟨m1, q1, q2, q3⟩ := c_FC_keepDraft hF hS hm hl
    have e : drc H k f d 0 i = 0 := rfl
    rw [if_pos e]
    refine ⟨m1, ?_, ?_, q3⟩
    rotate_left
    · by_cases h8 : S.1 = 8
      · rw [if_neg (fun h => h.2 h8)]; rw [if_pos h8] at q2; exact q2
      · rw [if_pos ⟨e, h8⟩]; rw [if_neg h8] at q2; exact q2
    refine Ev.iload d_FC_draw_79 rfl ?_
    refine Ev.iload d_FC_draw_81 rfl ?_
    refine Ev.icmp_ge (tgt := 162) d_FC_draw_83 rfl (by first | omega | (simp [mu]; done) | (simp [mu]; omega)) (by first | omega | (simp [mu]; done) | (simp [mu]; omega)) (fun hb83 => ?_) (fun hb83 => by exfalso; first | omega | simp at hb83 | contradiction)
    refine Ev.aload_n d_FC_draw_162 rfl ?_
    refine Ev.callV d_FC_draw_163 mt_FC_keepDraft lk_FC_73 in_FC_keepDraft se_FC_keepDraft rfl (Nat.le_of_ble_eq_true rfl) rfl (Nat.le_of_ble_eq_true rfl) (by decide) (fi_3 hF) (by decide) rfl rfl q1 ?_
    exact Ev.to (Ev.ireturn d_FC_draw_166 rfl) rfl rfl
  | q + 1, i, m, l, x9, hi, h0, hf0, hR, hS, hH, hm, hl, hlen => by
    have hsa := (sh_at hF hk).1
    have hsm := hH k hk.1 hk.2
    have hsk := HK_k hK hk
    have hnb := hsk.2.1
    have c3 := c_Sh_hasThreeFrom hsa hsm hsk (i := f + 3 * i) (by
      by_cases h : 0 < i
      · have := hf0 h; omega
      · have : i = 0 := by omega
        omega)
    by_cases hc : 0 ≤ f + 3 * i ∧ f + 3 * i ≤ H.2.1 k - 3
    · have r0 := hsk.2.2 (f + 3 * i) (by omega) (by omega)
      have r1 := hsk.2.2 (f + 3 * i + 1) (by omega) (by omega)
      have r2 := hsk.2.2 (f + 3 * i + 2) (by omega) (by omega)
      have s0 := c_Sh_read hsa hsm hsk (i := f + 3 * i) (by omega)
      have s1 := c_Sh_read hsa hsm hsk (i := f + 3 * i + 1) (by omega)
      have s2 := c_Sh_read hsa hsm hsk (i := f + 3 * i + 2) (by omega)
      have cs := c_Pic_spotOf hR (pic_5 hF) hm hd r0 r1 r2
      by_cases hok : 0 ≤ H.2.2 k (f + 3 * i) ∧ H.2.2 k (f + 3 * i) < H.2.2 k (f + 3 * i + 1) ∧ H.2.2 k (f + 3 * i + 1) < d ∧ 1 ≤ H.2.2 k (f + 3 * i + 2) ∧ H.2.2 k (f + 3 * i + 2) ≤ 4
      · have ed : drc H k f d (q + 1) i = drc H k f d q (i + 1) := by simp only [drc]; rw [if_pos hc, if_pos hok]
        have el : drl H k f (q + 1) i l = drl H k f q (i + 1) (ins (spot (H.2.2 k (f + 3 * i)) (H.2.2 k (f + 3 * i + 1)) (H.2.2 k (f + 3 * i + 2))) l) := rfl
        rw [if_pos hok] at cs
        have hso := spot_ok hd.2 hok
        obtain ⟨m1, q1, q2, q3⟩ := c_Pic_add hR (pic_5 hF) hm hso.2.2.2 (Adds_ins _ l)
        have il := ins_len (spot (H.2.2 k (f + 3 * i)) (H.2.2 k (f + 3 * i + 1)) (H.2.2 k (f + 3 * i + 2))) l
        obtain ⟨mF, g1, g2, g3⟩ := lp_FC_draw hF hK hk hd hn hf (lane := lane) q (i + 1) m1 _ (some (vi (spot (H.2.2 k (f + 3 * i)) (H.2.2 k (f + 3 * i + 1)) (H.2.2 k (f + 3 * i + 2))))) (by omega) (by omega) (fun _ => by omega) (SR_fr hR (fun b j h => q3 b j (by omega) (by omega) (by omega))) (CS_fr hS (fun b j h => q3 b j (by omega) (by omega) (by omega))) (CH_fr hH (fun b j x y => q3 b j (by omega) (by omega) (by omega))) q2 (ins_PK hl hok (by omega)) (by omega)
        rw [ed, el]
        refine ⟨mF, ?_, g2, fun b j x y z => (g3 b j x y z).trans (q3 b j (by omega) (by omega) (by omega))⟩
        have ef : f + 3 * (i + 1) = f + 3 * i + 3 := by omega
        rw [ef] at g1
        refine Ev.iload d_FC_draw_79 rfl ?_
        refine Ev.iload d_FC_draw_81 rfl ?_
        refine Ev.icmp_ge (tgt := 162) d_FC_draw_83 rfl (by first | omega | (simp [mu]; done) | (simp [mu]; omega)) (by first | omega | (simp [mu]; done) | (simp [mu]; omega)) (fun hb83 => by exfalso; first | omega | simp at hb83 | contradiction) (fun hb83 => ?_)
        refine Ev.aload d_FC_draw_86 rfl ?_
        refine Ev.iload d_FC_draw_88 rfl ?_
        refine Ev.callV d_FC_draw_90 mt_Sh_hasThreeFrom lk_FC_252 in_Sh_hasThreeFrom se_Sh_hasThreeFrom rfl (Nat.le_of_ble_eq_true rfl) rfl (Nat.le_of_ble_eq_true rfl) (by decide) hsa.2.1 (by decide) rfl rfl c3 ?_
        refine Ev.if_ne (tgt := 99) d_FC_draw_93 rfl b01_b (fun hb93 => ?_) (fun hb93 => by exfalso; (first | rw [b01_ne] at hb93 | rw [b01_eq] at hb93); omega)
        rw [b01_ne] at hb93
        refine Ev.aload_n d_FC_draw_99 rfl ?_
        refine Ev.gr 1 d_FC_draw_100 lf_FC_16 rfl rfl (fi_3 hF) (by decide) (fr_3_1 hF) ?_
        refine Ev.aload d_FC_draw_103 rfl ?_
        refine Ev.iload d_FC_draw_105 rfl ?_
        refine Ev.callV d_FC_draw_107 mt_Sh_read lk_FC_255 in_Sh_read se_Sh_read rfl (Nat.le_of_ble_eq_true rfl) rfl (Nat.le_of_ble_eq_true rfl) (by decide) hsa.2.1 (by decide) rfl rfl s0 ?_
        refine Ev.aload d_FC_draw_110 rfl ?_
        refine Ev.iload d_FC_draw_112 rfl ?_
        refine Ev.iconst d_FC_draw_114 ?_
        refine Ev.iadd d_FC_draw_115 ?_
        refine Ev.callV d_FC_draw_116 mt_Sh_read lk_FC_255 in_Sh_read se_Sh_read rfl (Nat.le_of_ble_eq_true rfl) rfl (Nat.le_of_ble_eq_true rfl) (by decide) hsa.2.1 (by decide) rfl rfl s1 ?_
        refine Ev.aload d_FC_draw_119 rfl ?_
        refine Ev.iload d_FC_draw_121 rfl ?_
        refine Ev.iconst d_FC_draw_123 ?_
        refine Ev.iadd d_FC_draw_124 ?_
        refine Ev.callV d_FC_draw_125 mt_Sh_read lk_FC_255 in_Sh_read se_Sh_read rfl (Nat.le_of_ble_eq_true rfl) rfl (Nat.le_of_ble_eq_true rfl) (by decide) hsa.2.1 (by decide) rfl rfl s2 ?_
        refine Ev.callV d_FC_draw_128 mt_Pic_spotOf lk_FC_81 in_Pic_spotOf se_Pic_spotOf rfl (Nat.le_of_ble_eq_true rfl) rfl (Nat.le_of_ble_eq_true rfl) (by decide) (fi_5 hF) (by decide) rfl rfl cs ?_
        refine Ev.istore_9 d_FC_draw_131 rfl ?_
        refine Ev.iload d_FC_draw_133 rfl ?_
        refine Ev.if_ge (tgt := 144) d_FC_draw_135 rfl (by first | omega | (simp [mu]; done) | (simp [mu]; omega)) (fun hb135 => ?_) (fun hb135 => by exfalso; first | omega | simp at hb135 | contradiction)
        refine Ev.aload_n d_FC_draw_144 rfl ?_
        refine Ev.gr 1 d_FC_draw_145 lf_FC_16 rfl rfl (fi_3 hF) (by decide) (fr_3_1 hF) ?_
        refine Ev.iload d_FC_draw_148 rfl ?_
        refine Ev.callVv d_FC_draw_150 mt_Pic_add lk_FC_88 in_Pic_add se_Pic_add rfl (Nat.le_of_ble_eq_true rfl) rfl (Nat.le_of_ble_eq_true rfl) (by decide) (fi_5 hF) (by decide) rfl rfl q1 ?_
        refine Ev.iinc_7 d_FC_draw_153 rfl ?_
        refine Ev.iinc_8 d_FC_draw_156 rfl ?_
        refine Ev.goto (tgt := 79) d_FC_draw_159 rfl ?_
        exact g1
      · have ed : drc H k f d (q + 1) i = -20 - i := by simp only [drc]; rw [if_pos hc, if_neg hok]
        rw [if_neg hok] at cs
        rw [ed, if_neg (by omega), if_neg (fun h => by omega)]
        refine ⟨m, ?_, hS, FrPi.rf⟩
        refine Ev.iload d_FC_draw_79 rfl ?_
        refine Ev.iload d_FC_draw_81 rfl ?_
        refine Ev.icmp_ge (tgt := 162) d_FC_draw_83 rfl (by first | omega | (simp [mu]; done) | (simp [mu]; omega)) (by first | omega | (simp [mu]; done) | (simp [mu]; omega)) (fun hb83 => by exfalso; first | omega | simp at hb83 | contradiction) (fun hb83 => ?_)
        refine Ev.aload d_FC_draw_86 rfl ?_
        refine Ev.iload d_FC_draw_88 rfl ?_
        refine Ev.callV d_FC_draw_90 mt_Sh_hasThreeFrom lk_FC_252 in_Sh_hasThreeFrom se_Sh_hasThreeFrom rfl (Nat.le_of_ble_eq_true rfl) rfl (Nat.le_of_ble_eq_true rfl) (by decide) hsa.2.1 (by decide) rfl rfl c3 ?_
        refine Ev.if_ne (tgt := 99) d_FC_draw_93 rfl b01_b (fun hb93 => ?_) (fun hb93 => by exfalso; (first | rw [b01_ne] at hb93 | rw [b01_eq] at hb93); omega)
        rw [b01_ne] at hb93
        refine Ev.aload_n d_FC_draw_99 rfl ?_
        refine Ev.gr 1 d_FC_draw_100 lf_FC_16 rfl rfl (fi_3 hF) (by decide) (fr_3_1 hF) ?_
        refine Ev.aload d_FC_draw_103 rfl ?_
        refine Ev.iload d_FC_draw_105 rfl ?_
        refine Ev.callV d_FC_draw_107 mt_Sh_read lk_FC_255 in_Sh_read se_Sh_read rfl (Nat.le_of_ble_eq_true rfl) rfl (Nat.le_of_ble_eq_true rfl) (by decide) hsa.2.1 (by decide) rfl rfl s0 ?_
        refine Ev.aload d_FC_draw_110 rfl ?_
        refine Ev.iload d_FC_draw_112 rfl ?_
        refine Ev.iconst d_FC_draw_114 ?_
        refine Ev.iadd d_FC_draw_115 ?_
        refine Ev.callV d_FC_draw_116 mt_Sh_read lk_FC_255 in_Sh_read se_Sh_read rfl (Nat.le_of_ble_eq_true rfl) rfl (Nat.le_of_ble_eq_true rfl) (by decide) hsa.2.1 (by decide) rfl rfl s1 ?_
        refine Ev.aload d_FC_draw_119 rfl ?_
        refine Ev.iload d_FC_draw_121 rfl ?_
        refine Ev.iconst d_FC_draw_123 ?_
        refine Ev.iadd d_FC_draw_124 ?_
        refine Ev.callV d_FC_draw_125 mt_Sh_read lk_FC_255 in_Sh_read se_Sh_read rfl (Nat.le_of_ble_eq_true rfl) rfl (Nat.le_of_ble_eq_true rfl) (by decide) hsa.2.1 (by decide) rfl rfl s2 ?_
        refine Ev.callV d_FC_draw_128 mt_Pic_spotOf lk_FC_81 in_Pic_spotOf se_Pic_spotOf rfl (Nat.le_of_ble_eq_true rfl) rfl (Nat.le_of_ble_eq_true rfl) (by decide) (fi_5 hF) (by decide) rfl rfl cs ?_
        refine Ev.istore_9 d_FC_draw_131 rfl ?_
        refine Ev.iload d_FC_draw_133 rfl ?_
        refine Ev.if_ge (tgt := 144) d_FC_draw_135 rfl (by first | omega | (simp [mu]; done) | (simp [mu]; omega)) (fun hb135 => by exfalso; first | omega | simp at hb135 | contradiction) (fun hb135 => ?_)
        refine Ev.bipush d_FC_draw_138 rfl ?_
        refine Ev.iload d_FC_draw_140 rfl ?_
        refine Ev.isub d_FC_draw_142 ?_
        exact Ev.to (Ev.ireturn d_FC_draw_143 rfl) rfl rfl
    · have ed : drc H k f d (q + 1) i = -12 := by simp only [drc]; rw [if_neg hc]
      rw [ed, if_neg (by decide), if_neg (fun h => by omega)]
      refine ⟨m, ?_, hS, FrPi.rf⟩
      refine Ev.iload d_FC_draw_79 rfl ?_
      refine Ev.iload d_FC_draw_81 rfl ?_
      refine Ev.icmp_ge (tgt := 162) d_FC_draw_83 rfl (by first | omega | (simp [mu]; done) | (simp [mu]; omega)) (by first | omega | (simp [mu]; done) | (simp [mu]; omega)) (fun hb83 => by exfalso; first | omega | simp at hb83 | contradiction) (fun hb83 => ?_)
      refine Ev.aload d_FC_draw_86 rfl ?_
      refine Ev.iload d_FC_draw_88 rfl ?_
      refine Ev.callV d_FC_draw_90 mt_Sh_hasThreeFrom lk_FC_252 in_Sh_hasThreeFrom se_Sh_hasThreeFrom rfl (Nat.le_of_ble_eq_true rfl) rfl (Nat.le_of_ble_eq_true rfl) (by decide) hsa.2.1 (by decide) rfl rfl c3 ?_
      refine Ev.if_ne (tgt := 99) d_FC_draw_93 rfl b01_b (fun hb93 => by exfalso; (first | rw [b01_ne] at hb93 | rw [b01_eq] at hb93); omega) (fun hb93 => ?_)
      rw [b01_eq] at hb93
      refine Ev.bipush d_FC_draw_96 rfl ?_
      exact Ev.to (Ev.ireturn d_FC_draw_98 rfl) rfl rfl
theorem c_FC_draw (hF : FcS σ) {S : PS} (hS : CS m S) {H : SHt} (hH : CH m H) (hK : HK H) (hR : SR σ m) {k lane f d n : Int} (h1 : -2147483648 ≤ k ∧ k ≤ 2147483647) (h2 : -2147483648 ≤ lane ∧ lane ≤ 2147483647) (h3 : -2147483648 ≤ f ∧ f ≤ 2147483647) (h4 : -2147483648 ≤ d ∧ d ≤ 2147483647) (h5 : -2147483648 ≤ n ∧ n ≤ 2147483647) : ∃ m', Call 4 m_FC_draw [vr 3, vi k, vi lane, vi f, vi d, vi n] σ m (some (vi (sp_draw S H k lane f d n))) σ m' ∧ CS m' (st_draw S H k lane f d n) ∧ FrPi m m' := by
  unfold sp_draw st_draw
  have cl := c_Sh_isLane (σ := σ) (m := m) h2
  have cdg := c_FC_isDegree (σ := σ) (m := m) h4
  by_cases hk : 0 ≤ k ∧ k < 4
  · have hsa := (sh_at hF hk).1
    have hsm := hH k hk.1 hk.2
    have hsk := HK_k hK hk
    have hsl := hsk.1
    by_cases hc : (0 ≤ lane ∧ lane ≤ 2) ∧ (0 ≤ n ∧ n ≤ 6) ∧ 1 ≤ d ∧ d ≤ 4
    · rw [if_pos ⟨by omega, hc⟩]
      have cn_ := c_Sh_isNothing hsa hsm hsk
      have co := c_Sh_isOfLane hsa hsm hsk hc.1
      by_cases hn : H.1 k = -4
      · rw [if_neg (by omega), if_pos hn, if_neg (fun h => by omega)]
        refine ⟨m, ?_, hS, FrPi.rf⟩
        show Ev 4 m_FC_draw 0 [some (vr 3), some (vi k), some (vi lane), some (vi f), some (vi d), some (vi n), none, none, none, none] [] σ m _ σ _
        refine Ev.aload_n d_FC_draw_0 rfl ?_
        refine Ev.iload_n d_FC_draw_1 rfl ?_
        refine Ev.callV d_FC_draw_2 mt_FC_sheetAt lk_FC_229 in_FC_sheetAt se_FC_sheetAt rfl (Nat.le_of_ble_eq_true rfl) rfl (Nat.le_of_ble_eq_true rfl) (by decide) (fi_3 hF) (by decide) rfl rfl (c_sAt hF hk) ?_
        refine Ev.astore_6 d_FC_draw_5 rfl ?_
        refine Ev.aload d_FC_draw_7 rfl ?_
        refine Ev.ifnull (tgt := 39) d_FC_draw_9 rfl (fun hb9 => by exfalso; first | omega | simp at hb9 | contradiction) (fun hb9 => ?_)
        refine Ev.iload_n d_FC_draw_12 rfl ?_
        refine Ev.callS d_FC_draw_13 mt_Sh_isLane lk_FC_233 st_Sh_isLane rfl (Nat.le_of_ble_eq_true rfl) rfl (Nat.le_of_ble_eq_true rfl) (by decide) rfl cl ?_
        refine Ev.if_eq (tgt := 39) d_FC_draw_16 rfl b01_b (fun hb16 => by exfalso; (first | rw [b01_ne] at hb16 | rw [b01_eq] at hb16); omega) (fun hb16 => ?_)
        rw [b01_ne] at hb16
        refine Ev.iload d_FC_draw_19 rfl ?_
        refine Ev.if_lt (tgt := 39) d_FC_draw_21 rfl (by first | omega | (simp [mu]; done) | (simp [mu]; omega)) (fun hb21 => by exfalso; first | omega | simp at hb21 | contradiction) (fun hb21 => ?_)
        refine Ev.iload d_FC_draw_24 rfl ?_
        refine Ev.bipush d_FC_draw_26 rfl ?_
        refine Ev.icmp_gt (tgt := 39) d_FC_draw_28 rfl (by first | omega | (simp [mu]; done) | (simp [mu]; omega)) (by first | omega | (simp [mu]; done) | (simp [mu]; omega)) (fun hb28 => by exfalso; first | omega | simp at hb28 | contradiction) (fun hb28 => ?_)
        refine Ev.iload d_FC_draw_31 rfl ?_
        refine Ev.callS d_FC_draw_33 mt_FC_isDegree lk_FC_65 st_FC_isDegree rfl (Nat.le_of_ble_eq_true rfl) rfl (Nat.le_of_ble_eq_true rfl) (by decide) rfl cdg ?_
        refine Ev.if_ne (tgt := 41) d_FC_draw_36 rfl b01_b (fun hb36 => ?_) (fun hb36 => by exfalso; (first | rw [b01_ne] at hb36 | rw [b01_eq] at hb36); omega)
        rw [b01_ne] at hb36
        refine Ev.aload d_FC_draw_41 rfl ?_
        refine Ev.callV d_FC_draw_43 mt_Sh_isNothing lk_FC_240 in_Sh_isNothing se_Sh_isNothing rfl (Nat.le_of_ble_eq_true rfl) rfl (Nat.le_of_ble_eq_true rfl) (by decide) hsa.2.1 (by decide) rfl rfl cn_ ?_
        refine Ev.if_eq (tgt := 52) d_FC_draw_46 rfl b01_b (fun hb46 => by exfalso; (first | rw [b01_ne] at hb46 | rw [b01_eq] at hb46); omega) (fun hb46 => ?_)
        rw [b01_ne] at hb46
        refine Ev.bipush d_FC_draw_49 rfl ?_
        exact Ev.to (Ev.ireturn d_FC_draw_51 rfl) rfl rfl
      · by_cases hl : H.1 k = lane
        · rw [if_pos hl]
          obtain ⟨m1, q1, q2, q3⟩ := c_Pic_clear (m := m) (pic_5 hF) hc.2.2
          obtain ⟨mF, g1, g2, g3⟩ := lp_FC_draw hF (S := S) hK hk hc.2.2 hc.2.1 h3 (lane := lane) n.toNat 0 m1 [] none (by omega) (by decide) (fun h => by omega) (SR_fr hR (fun b j h => q3 b j (by omega) (by omega) (by omega))) (CS_fr hS (fun b j h => q3 b j (by omega) (by omega) (by omega))) (CH_fr hH (fun b j x y => q3 b j (by omega) (by omega) (by omega))) q2 ⟨hc.2.2, by simp, List.Pairwise.nil, fun s h => by cases h⟩ (by simp only [List.length_nil]; omega)
          refine ⟨mF, ?_, ?_, fun b j x y z => (g3 b j x y z).trans (q3 b j (by omega) (by omega) (by omega))⟩
          rotate_left
          · by_cases hz : drc H k f d n.toNat 0 = 0 ∧ ¬ S.1 = 8
            · rw [if_pos ⟨⟨by omega, hc⟩, hl, hz⟩]; rw [if_pos hz] at g2; exact g2
            · rw [if_neg (fun h => hz h.2.2)]; rw [if_neg hz] at g2; exact g2
          rw [show f + 3 * 0 = f by omega] at g1
          show Ev 4 m_FC_draw 0 [some (vr 3), some (vi k), some (vi lane), some (vi f), some (vi d), some (vi n), none, none, none, none] [] σ m _ σ _
          refine Ev.aload_n d_FC_draw_0 rfl ?_
          refine Ev.iload_n d_FC_draw_1 rfl ?_
          refine Ev.callV d_FC_draw_2 mt_FC_sheetAt lk_FC_229 in_FC_sheetAt se_FC_sheetAt rfl (Nat.le_of_ble_eq_true rfl) rfl (Nat.le_of_ble_eq_true rfl) (by decide) (fi_3 hF) (by decide) rfl rfl (c_sAt hF hk) ?_
          refine Ev.astore_6 d_FC_draw_5 rfl ?_
          refine Ev.aload d_FC_draw_7 rfl ?_
          refine Ev.ifnull (tgt := 39) d_FC_draw_9 rfl (fun hb9 => by exfalso; first | omega | simp at hb9 | contradiction) (fun hb9 => ?_)
          refine Ev.iload_n d_FC_draw_12 rfl ?_
          refine Ev.callS d_FC_draw_13 mt_Sh_isLane lk_FC_233 st_Sh_isLane rfl (Nat.le_of_ble_eq_true rfl) rfl (Nat.le_of_ble_eq_true rfl) (by decide) rfl cl ?_
          refine Ev.if_eq (tgt := 39) d_FC_draw_16 rfl b01_b (fun hb16 => by exfalso; (first | rw [b01_ne] at hb16 | rw [b01_eq] at hb16); omega) (fun hb16 => ?_)
          rw [b01_ne] at hb16
          refine Ev.iload d_FC_draw_19 rfl ?_
          refine Ev.if_lt (tgt := 39) d_FC_draw_21 rfl (by first | omega | (simp [mu]; done) | (simp [mu]; omega)) (fun hb21 => by exfalso; first | omega | simp at hb21 | contradiction) (fun hb21 => ?_)
          refine Ev.iload d_FC_draw_24 rfl ?_
          refine Ev.bipush d_FC_draw_26 rfl ?_
          refine Ev.icmp_gt (tgt := 39) d_FC_draw_28 rfl (by first | omega | (simp [mu]; done) | (simp [mu]; omega)) (by first | omega | (simp [mu]; done) | (simp [mu]; omega)) (fun hb28 => by exfalso; first | omega | simp at hb28 | contradiction) (fun hb28 => ?_)
          refine Ev.iload d_FC_draw_31 rfl ?_
          refine Ev.callS d_FC_draw_33 mt_FC_isDegree lk_FC_65 st_FC_isDegree rfl (Nat.le_of_ble_eq_true rfl) rfl (Nat.le_of_ble_eq_true rfl) (by decide) rfl cdg ?_
          refine Ev.if_ne (tgt := 41) d_FC_draw_36 rfl b01_b (fun hb36 => ?_) (fun hb36 => by exfalso; (first | rw [b01_ne] at hb36 | rw [b01_eq] at hb36); omega)
          rw [b01_ne] at hb36
          refine Ev.aload d_FC_draw_41 rfl ?_
          refine Ev.callV d_FC_draw_43 mt_Sh_isNothing lk_FC_240 in_Sh_isNothing se_Sh_isNothing rfl (Nat.le_of_ble_eq_true rfl) rfl (Nat.le_of_ble_eq_true rfl) (by decide) hsa.2.1 (by decide) rfl rfl cn_ ?_
          refine Ev.if_eq (tgt := 52) d_FC_draw_46 rfl b01_b (fun hb46 => ?_) (fun hb46 => by exfalso; (first | rw [b01_ne] at hb46 | rw [b01_eq] at hb46); omega)
          rw [b01_eq] at hb46
          refine Ev.aload d_FC_draw_52 rfl ?_
          refine Ev.iload_n d_FC_draw_54 rfl ?_
          refine Ev.callV d_FC_draw_55 mt_Sh_isOfLane lk_FC_249 in_Sh_isOfLane se_Sh_isOfLane rfl (Nat.le_of_ble_eq_true rfl) rfl (Nat.le_of_ble_eq_true rfl) (by decide) hsa.2.1 (by decide) rfl rfl co ?_
          refine Ev.if_ne (tgt := 64) d_FC_draw_58 rfl b01_b (fun hb58 => ?_) (fun hb58 => by exfalso; (first | rw [b01_ne] at hb58 | rw [b01_eq] at hb58); omega)
          rw [b01_ne] at hb58
          refine Ev.aload_n d_FC_draw_64 rfl ?_
          refine Ev.gr 1 d_FC_draw_65 lf_FC_16 rfl rfl (fi_3 hF) (by decide) (fr_3_1 hF) ?_
          refine Ev.iload d_FC_draw_68 rfl ?_
          refine Ev.callVv d_FC_draw_70 mt_Pic_clear lk_FC_69 in_Pic_clear se_Pic_clear rfl (Nat.le_of_ble_eq_true rfl) rfl (Nat.le_of_ble_eq_true rfl) (by decide) (fi_5 hF) (by decide) rfl rfl q1 ?_
          refine Ev.iload_n d_FC_draw_73 rfl ?_
          refine Ev.istore_7 d_FC_draw_74 rfl ?_
          refine Ev.iconst d_FC_draw_76 ?_
          refine Ev.istore_8 d_FC_draw_77 rfl ?_
          exact g1
        · rw [if_neg hl, if_neg hn, if_neg (fun h => hl h.2.1)]
          refine ⟨m, ?_, hS, FrPi.rf⟩
          show Ev 4 m_FC_draw 0 [some (vr 3), some (vi k), some (vi lane), some (vi f), some (vi d), some (vi n), none, none, none, none] [] σ m _ σ _
          refine Ev.aload_n d_FC_draw_0 rfl ?_
          refine Ev.iload_n d_FC_draw_1 rfl ?_
          refine Ev.callV d_FC_draw_2 mt_FC_sheetAt lk_FC_229 in_FC_sheetAt se_FC_sheetAt rfl (Nat.le_of_ble_eq_true rfl) rfl (Nat.le_of_ble_eq_true rfl) (by decide) (fi_3 hF) (by decide) rfl rfl (c_sAt hF hk) ?_
          refine Ev.astore_6 d_FC_draw_5 rfl ?_
          refine Ev.aload d_FC_draw_7 rfl ?_
          refine Ev.ifnull (tgt := 39) d_FC_draw_9 rfl (fun hb9 => by exfalso; first | omega | simp at hb9 | contradiction) (fun hb9 => ?_)
          refine Ev.iload_n d_FC_draw_12 rfl ?_
          refine Ev.callS d_FC_draw_13 mt_Sh_isLane lk_FC_233 st_Sh_isLane rfl (Nat.le_of_ble_eq_true rfl) rfl (Nat.le_of_ble_eq_true rfl) (by decide) rfl cl ?_
          refine Ev.if_eq (tgt := 39) d_FC_draw_16 rfl b01_b (fun hb16 => by exfalso; (first | rw [b01_ne] at hb16 | rw [b01_eq] at hb16); omega) (fun hb16 => ?_)
          rw [b01_ne] at hb16
          refine Ev.iload d_FC_draw_19 rfl ?_
          refine Ev.if_lt (tgt := 39) d_FC_draw_21 rfl (by first | omega | (simp [mu]; done) | (simp [mu]; omega)) (fun hb21 => by exfalso; first | omega | simp at hb21 | contradiction) (fun hb21 => ?_)
          refine Ev.iload d_FC_draw_24 rfl ?_
          refine Ev.bipush d_FC_draw_26 rfl ?_
          refine Ev.icmp_gt (tgt := 39) d_FC_draw_28 rfl (by first | omega | (simp [mu]; done) | (simp [mu]; omega)) (by first | omega | (simp [mu]; done) | (simp [mu]; omega)) (fun hb28 => by exfalso; first | omega | simp at hb28 | contradiction) (fun hb28 => ?_)
          refine Ev.iload d_FC_draw_31 rfl ?_
          refine Ev.callS d_FC_draw_33 mt_FC_isDegree lk_FC_65 st_FC_isDegree rfl (Nat.le_of_ble_eq_true rfl) rfl (Nat.le_of_ble_eq_true rfl) (by decide) rfl cdg ?_
          refine Ev.if_ne (tgt := 41) d_FC_draw_36 rfl b01_b (fun hb36 => ?_) (fun hb36 => by exfalso; (first | rw [b01_ne] at hb36 | rw [b01_eq] at hb36); omega)
          rw [b01_ne] at hb36
          refine Ev.aload d_FC_draw_41 rfl ?_
          refine Ev.callV d_FC_draw_43 mt_Sh_isNothing lk_FC_240 in_Sh_isNothing se_Sh_isNothing rfl (Nat.le_of_ble_eq_true rfl) rfl (Nat.le_of_ble_eq_true rfl) (by decide) hsa.2.1 (by decide) rfl rfl cn_ ?_
          refine Ev.if_eq (tgt := 52) d_FC_draw_46 rfl b01_b (fun hb46 => ?_) (fun hb46 => by exfalso; (first | rw [b01_ne] at hb46 | rw [b01_eq] at hb46); omega)
          rw [b01_eq] at hb46
          refine Ev.aload d_FC_draw_52 rfl ?_
          refine Ev.iload_n d_FC_draw_54 rfl ?_
          refine Ev.callV d_FC_draw_55 mt_Sh_isOfLane lk_FC_249 in_Sh_isOfLane se_Sh_isOfLane rfl (Nat.le_of_ble_eq_true rfl) rfl (Nat.le_of_ble_eq_true rfl) (by decide) hsa.2.1 (by decide) rfl rfl co ?_
          refine Ev.if_ne (tgt := 64) d_FC_draw_58 rfl b01_b (fun hb58 => by exfalso; (first | rw [b01_ne] at hb58 | rw [b01_eq] at hb58); omega) (fun hb58 => ?_)
          rw [b01_eq] at hb58
          refine Ev.bipush d_FC_draw_61 rfl ?_
          exact Ev.to (Ev.ireturn d_FC_draw_63 rfl) rfl rfl
    · rw [if_neg (fun h => hc h.2), if_neg (fun h => hc h.1.2)]
      refine ⟨m, ?_, hS, FrPi.rf⟩
      show Ev 4 m_FC_draw 0 [some (vr 3), some (vi k), some (vi lane), some (vi f), some (vi d), some (vi n), none, none, none, none] [] σ m _ σ _
      refine Ev.aload_n d_FC_draw_0 rfl ?_
      refine Ev.iload_n d_FC_draw_1 rfl ?_
      refine Ev.callV d_FC_draw_2 mt_FC_sheetAt lk_FC_229 in_FC_sheetAt se_FC_sheetAt rfl (Nat.le_of_ble_eq_true rfl) rfl (Nat.le_of_ble_eq_true rfl) (by decide) (fi_3 hF) (by decide) rfl rfl (c_sAt hF hk) ?_
      refine Ev.astore_6 d_FC_draw_5 rfl ?_
      refine Ev.aload d_FC_draw_7 rfl ?_
      refine Ev.ifnull (tgt := 39) d_FC_draw_9 rfl (fun hb9 => by exfalso; first | omega | simp at hb9 | contradiction) (fun hb9 => ?_)
      refine Ev.iload_n d_FC_draw_12 rfl ?_
      refine Ev.callS d_FC_draw_13 mt_Sh_isLane lk_FC_233 st_Sh_isLane rfl (Nat.le_of_ble_eq_true rfl) rfl (Nat.le_of_ble_eq_true rfl) (by decide) rfl cl ?_
      refine Ev.if_eq (tgt := 39) d_FC_draw_16 rfl b01_b (fun hb16 => ?_) (fun hb16 => ?_)
      · rw [b01_eq] at hb16
        refine Ev.iconst d_FC_draw_39 ?_
        exact Ev.to (Ev.ireturn d_FC_draw_40 rfl) rfl rfl
      · rw [b01_ne] at hb16
        refine Ev.iload d_FC_draw_19 rfl ?_
        refine Ev.if_lt (tgt := 39) d_FC_draw_21 rfl (by first | omega | (simp [mu]; done) | (simp [mu]; omega)) (fun hb21 => ?_) (fun hb21 => ?_)
        · refine Ev.iconst d_FC_draw_39 ?_
          exact Ev.to (Ev.ireturn d_FC_draw_40 rfl) rfl rfl
        · refine Ev.iload d_FC_draw_24 rfl ?_
          refine Ev.bipush d_FC_draw_26 rfl ?_
          refine Ev.icmp_gt (tgt := 39) d_FC_draw_28 rfl (by first | omega | (simp [mu]; done) | (simp [mu]; omega)) (by first | omega | (simp [mu]; done) | (simp [mu]; omega)) (fun hb28 => ?_) (fun hb28 => ?_)
          · refine Ev.iconst d_FC_draw_39 ?_
            exact Ev.to (Ev.ireturn d_FC_draw_40 rfl) rfl rfl
          · refine Ev.iload d_FC_draw_31 rfl ?_
            refine Ev.callS d_FC_draw_33 mt_FC_isDegree lk_FC_65 st_FC_isDegree rfl (Nat.le_of_ble_eq_true rfl) rfl (Nat.le_of_ble_eq_true rfl) (by decide) rfl cdg ?_
            refine Ev.if_ne (tgt := 41) d_FC_draw_36 rfl b01_b (fun hb36 => by exfalso; (first | rw [b01_ne] at hb36 | rw [b01_eq] at hb36); omega) (fun hb36 => ?_)
            rw [b01_eq] at hb36
            refine Ev.iconst d_FC_draw_39 ?_
            exact Ev.to (Ev.ireturn d_FC_draw_40 rfl) rfl rfl
  · rw [if_neg (by omega), if_neg (by omega)]
    refine ⟨m, ?_, hS, FrPi.rf⟩
    show Ev 4 m_FC_draw 0 [some (vr 3), some (vi k), some (vi lane), some (vi f), some (vi d), some (vi n), none, none, none, none] [] σ m _ σ _
    refine Ev.aload_n d_FC_draw_0 rfl ?_
    refine Ev.iload_n d_FC_draw_1 rfl ?_
    refine Ev.callV d_FC_draw_2 mt_FC_sheetAt lk_FC_229 in_FC_sheetAt se_FC_sheetAt rfl (Nat.le_of_ble_eq_true rfl) rfl (Nat.le_of_ble_eq_true rfl) (by decide) (fi_3 hF) (by decide) rfl rfl (c_sNo hF h1 hk) ?_
    refine Ev.astore_6 d_FC_draw_5 rfl ?_
    refine Ev.aload d_FC_draw_7 rfl ?_
    refine Ev.ifnull (tgt := 39) d_FC_draw_9 rfl (fun hb9 => ?_) (fun hb9 => by exfalso; first | omega | simp at hb9 | contradiction)
    refine Ev.iconst d_FC_draw_39 ?_
    exact Ev.to (Ev.ireturn d_FC_draw_40 rfl) rfl rfl
theorem lp_FC_all (hF : FcS σ) {S : PS} (hS : CS m S) : ∀ (n : Nat) (p acc : Int) (x3 : Option AV), p + n = S.1 → 0 ≤ p → Ev 2 m_FC_stairsOfAll 4 [some (vr 3), some (vi acc), some (vi p), x3] [] σ m (some (vi (acc + sumN (fun p => (S.2.2 p).length) n p))) σ m
  | 0, p, acc, x3, hp, h0 => by
    have hS1 := hS.1
    have hS2 := hS.2.1
    simp only [sumN]
    refine Ev.iload_n d_FC_stairsOfAll_4 rfl ?_
    refine Ev.aload_n d_FC_stairsOfAll_5 rfl ?_
    refine Ev.gf 9 d_FC_stairsOfAll_6 lf_FC_98 rfl rfl (fi_3 hF) (by decide) ?_
    rw [hS1]
    refine Ev.icmp_ge (tgt := 39) d_FC_stairsOfAll_9 rfl (by first | omega | (simp [mu]; done) | (simp [mu]; omega)) (by first | omega | (simp [mu]; done) | (simp [mu]; omega)) (fun hb9 => ?_) (fun hb9 => by exfalso; first | omega | simp at hb9 | contradiction)
    refine Ev.iload_n d_FC_stairsOfAll_39 rfl ?_
    exact Ev.to (Ev.ireturn d_FC_stairsOfAll_40 rfl) (ri (by omega)) rfl
  | n + 1, p, acc, x3, hp, h0 => by
    have hS1 := hS.1
    have hS2 := hS.2.1
    have hpp : 0 ≤ p ∧ p < S.1 := by omega
    obtain ⟨hPM, hK⟩ := hS.2.2 p h0 (by omega)
    have hpa := (pic_at hF (p := p) (by omega)).1
    simp only [sumN]
    refine Ev.iload_n d_FC_stairsOfAll_4 rfl ?_
    refine Ev.aload_n d_FC_stairsOfAll_5 rfl ?_
    refine Ev.gf 9 d_FC_stairsOfAll_6 lf_FC_98 rfl rfl (fi_3 hF) (by decide) ?_
    rw [hS1]
    refine Ev.icmp_ge (tgt := 39) d_FC_stairsOfAll_9 rfl (by first | omega | (simp [mu]; done) | (simp [mu]; omega)) (by first | omega | (simp [mu]; done) | (simp [mu]; omega)) (fun hb9 => by exfalso; first | omega | simp at hb9 | contradiction) (fun hb9 => ?_)
    refine Ev.aload_n d_FC_stairsOfAll_12 rfl ?_
    refine Ev.iload_n d_FC_stairsOfAll_13 rfl ?_
    refine Ev.callV d_FC_stairsOfAll_14 mt_FC_pictureAt lk_FC_77 in_FC_pictureAt se_FC_pictureAt rfl (Nat.le_of_ble_eq_true rfl) rfl (Nat.le_of_ble_eq_true rfl) (by decide) (fi_3 hF) (by decide) rfl rfl (c_pAt hF hS hpp) ?_
    refine Ev.astore_3 d_FC_stairsOfAll_17 rfl ?_
    refine Ev.iload_n d_FC_stairsOfAll_18 rfl ?_
    refine Ev.aload_n d_FC_stairsOfAll_19 rfl ?_
    refine Ev.ifnonnull (tgt := 27) d_FC_stairsOfAll_20 rfl (fun hb20 => ?_) (fun hb20 => by exfalso; first | omega | simp at hb20 | contradiction)
    refine Ev.aload_n d_FC_stairsOfAll_27 rfl ?_
    refine Ev.callV d_FC_stairsOfAll_28 mt_Pic_stairCount lk_FC_85 in_Pic_stairCount se_Pic_stairCount rfl (Nat.le_of_ble_eq_true rfl) rfl (Nat.le_of_ble_eq_true rfl) (by decide) hpa.2.1 (by decide) rfl rfl (c_Pic_stairCount hpa hPM) ?_
    refine Ev.iadd d_FC_stairsOfAll_31 ?_
    refine Ev.istore_1 d_FC_stairsOfAll_32 rfl ?_
    refine Ev.iinc_2 d_FC_stairsOfAll_33 rfl ?_
    refine Ev.goto (tgt := 4) d_FC_stairsOfAll_36 rfl ?_
    exact Ev.to (lp_FC_all hF hS n (p + 1) _ _ (by omega) (by omega)) (ri (by omega)) rfl
theorem c_FC_many (hF : FcS σ) {S : PS} (hS : CS m S) {H : SHt} (hH : CH m H) (hK : HK H) {T : TPt} (hT : TpM m T) (hTK : TK T) {what : Int} (h1 : -2147483648 ≤ what ∧ what ≤ 2147483647) : Call 3 m_FC_many [vr 3, vi what] σ m (some (vi (sp_many S H T what))) σ m := by
  have hS1 := hS.1
  have hS2 := hS.2.1
  have hk0 : (0 : Int) ≤ 0 ∧ (0 : Int) < 4 := by decide
  have hsa := (sh_at hF hk0).1
  have hsm := hH 0 hk0.1 hk0.2
  have hsk := HK_k hK hk0
  have c1 : Call 2 m_FC_stairsOfAll [vr 3] σ m (some (vi (sumN (fun p => (S.2.2 p).length) S.1.toNat 0))) σ m := by
    show Ev 2 m_FC_stairsOfAll 0 [some (vr 3), none, none, none] [] σ m _ σ m
    refine Ev.iconst d_FC_stairsOfAll_0 ?_
    refine Ev.istore_1 d_FC_stairsOfAll_1 rfl ?_
    refine Ev.iconst d_FC_stairsOfAll_2 ?_
    refine Ev.istore_2 d_FC_stairsOfAll_3 rfl ?_
    exact Ev.to (lp_FC_all hF hS S.1.toNat 0 0 none (by omega) (by decide)) (ri (by omega)) rfl
  have c2 : Call 2 m_FC_cellsOfFirstSheet [vr 3] σ m (some (vi (if H.1 0 = -4 then -4 else H.2.1 0))) σ m := by
    have cn_ := c_Sh_isNothing hsa hsm hsk
    have cl := c_Sh_length hsa hsm hsk
    show Ev 2 m_FC_cellsOfFirstSheet 0 [some (vr 3), none] [] σ m _ σ m
    refine Ev.aload_n d_FC_cellsOfFirstSheet_0 rfl ?_
    refine Ev.iconst d_FC_cellsOfFirstSheet_1 ?_
    refine Ev.callV d_FC_cellsOfFirstSheet_2 mt_FC_sheetAt lk_FC_229 in_FC_sheetAt se_FC_sheetAt rfl (Nat.le_of_ble_eq_true rfl) rfl (Nat.le_of_ble_eq_true rfl) (by decide) (fi_3 hF) (by decide) rfl rfl (c_sAt hF hk0) ?_
    refine Ev.astore_1 d_FC_cellsOfFirstSheet_5 rfl ?_
    refine Ev.aload_n d_FC_cellsOfFirstSheet_6 rfl ?_
    refine Ev.ifnull (tgt := 17) d_FC_cellsOfFirstSheet_7 rfl (fun hb7 => by exfalso; first | omega | simp at hb7 | contradiction) (fun hb7 => ?_)
    refine Ev.aload_n d_FC_cellsOfFirstSheet_10 rfl ?_
    refine Ev.callV d_FC_cellsOfFirstSheet_11 mt_Sh_isNothing lk_FC_240 in_Sh_isNothing se_Sh_isNothing rfl (Nat.le_of_ble_eq_true rfl) rfl (Nat.le_of_ble_eq_true rfl) (by decide) hsa.2.1 (by decide) rfl rfl cn_ ?_
    refine Ev.if_eq (tgt := 22) d_FC_cellsOfFirstSheet_14 rfl b01_b (fun hb14 => ?_) (fun hb14 => ?_)
    · rw [b01_eq] at hb14
      refine Ev.aload_n d_FC_cellsOfFirstSheet_22 rfl ?_
      refine Ev.callV d_FC_cellsOfFirstSheet_23 mt_Sh_length lk_FC_268 in_Sh_length se_Sh_length rfl (Nat.le_of_ble_eq_true rfl) rfl (Nat.le_of_ble_eq_true rfl) (by decide) hsa.2.1 (by decide) rfl rfl cl ?_
      exact Ev.to (Ev.ireturn d_FC_cellsOfFirstSheet_26 rfl) (ri (if_neg hb14).symm) rfl
    · rw [b01_ne] at hb14
      refine Ev.bipush d_FC_cellsOfFirstSheet_17 rfl ?_
      refine Ev.goto (tgt := 26) d_FC_cellsOfFirstSheet_19 rfl ?_
      exact Ev.to (Ev.ireturn d_FC_cellsOfFirstSheet_26 rfl) (ri (if_pos hb14).symm) rfl
  have cTl := c_Tp_length hF hT hTK
  unfold sp_many
  show Ev 3 m_FC_many 0 [some (vr 3), some (vi what)] [] σ m _ σ m
  refine Ev.iload_n d_FC_many_0 rfl ?_
  rcases (show (what < 0 ∨ 3 < what) ∨ what = 0 ∨ what = 1 ∨ what = 2 ∨ what = 3 by omega) with hsw | rfl | rfl | rfl | rfl
  · refine Ev.tableOut (tgt := 55) d_FC_many_1 (by omega) hsw rfl ?_
    refine Ev.iconst d_FC_many_55 ?_
    exact Ev.to (Ev.ireturn d_FC_many_56 rfl) (ri (by rw [if_neg (by omega), if_neg (by omega), if_neg (by omega), if_neg (by omega)])) rfl
  · refine Ev.tableIn (off := 31) (tgt := 32) d_FC_many_1 (by omega) (by omega) (by omega) rfl rfl ?_
    refine Ev.aload_n d_FC_many_32 rfl ?_
    refine Ev.gf 9 d_FC_many_33 lf_FC_98 rfl rfl (fi_3 hF) (by decide) ?_
    exact Ev.to (Ev.ireturn d_FC_many_36 rfl) (ri (by rw [if_pos rfl]; exact hS1)) rfl
  · refine Ev.tableIn (off := 36) (tgt := 37) d_FC_many_1 (by omega) (by omega) (by omega) rfl rfl ?_
    refine Ev.aload_n d_FC_many_37 rfl ?_
    refine Ev.callV d_FC_many_38 mt_FC_cellsOfFirstSheet lk_FC_257 in_FC_cellsOfFirstSheet se_FC_cellsOfFirstSheet rfl (Nat.le_of_ble_eq_true rfl) rfl (Nat.le_of_ble_eq_true rfl) (by decide) (fi_3 hF) (by decide) rfl rfl c2 ?_
    exact Ev.to (Ev.ireturn d_FC_many_41 rfl) (ri (by simp)) rfl
  · refine Ev.tableIn (off := 41) (tgt := 42) d_FC_many_1 (by omega) (by omega) (by omega) rfl rfl ?_
    refine Ev.aload_n d_FC_many_42 rfl ?_
    refine Ev.gr 5 d_FC_many_43 lf_FC_43 rfl rfl (fi_3 hF) (by decide) (fr_3_5 hF) ?_
    refine Ev.callV d_FC_many_46 mt_Tp_length lk_FC_200 in_Tp_length se_Tp_length rfl (Nat.le_of_ble_eq_true rfl) rfl (Nat.le_of_ble_eq_true rfl) (by decide) (fi_17 hF) (by decide) rfl rfl cTl ?_
    exact Ev.to (Ev.ireturn d_FC_many_49 rfl) (ri (by simp)) rfl
  · refine Ev.tableIn (off := 49) (tgt := 50) d_FC_many_1 (by omega) (by omega) (by omega) rfl rfl ?_
    refine Ev.aload_n d_FC_many_50 rfl ?_
    refine Ev.callV d_FC_many_51 mt_FC_stairsOfAll lk_FC_260 in_FC_stairsOfAll se_FC_stairsOfAll rfl (Nat.le_of_ble_eq_true rfl) rfl (Nat.le_of_ble_eq_true rfl) (by decide) (fi_3 hF) (by decide) rfl rfl c1 ?_
    exact Ev.to (Ev.ireturn d_FC_many_54 rfl) (ri (by simp)) rfl
end
