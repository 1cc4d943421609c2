/-! the class's own methods: the tape, tangents -/
def TPD (m : Mm) (D : TDt) : Prop := (D.1 = 0 → m 17 2 = 0) ∧ (D.1 = 1 → m 17 2 = pkF D.2)
theorem pkF_c {f g : Int → Int} (h : ∀ j : Int, 0 ≤ j → j < 12 → f j = g j) : pkF f = pkF g := by
  unfold pkF
  rw [h 1 (by decide) (by decide), h 2 (by decide) (by decide), h 3 (by decide) (by decide), h 4 (by decide) (by decide), h 5 (by decide) (by decide), h 7 (by decide) (by decide), h 8 (by decide) (by decide), h 9 (by decide) (by decide), h 10 (by decide) (by decide), h 11 (by decide) (by decide)]
def amOk (i l k : Nat) : Bool := decide (am (pkA i) l k = cn (6 * (l : Int) + k) (rT i))
theorem am_ok : ∀ i : Nat, i < 73 → ∀ l : Nat, l < 2 → ∀ k : Nat, k < 6 → 1 ≤ k → amOk i l k = true := by decide +kernel
theorem ask_b {i : Nat} (hi : i < 73) : dgR (pkA i) = tsum (rT i) ∧ 1 ≤ pkA i ∧ pkA i ≤ 1073741823 := by
  have ha := ask_ok i hi
  unfold askOk at ha
  simp only [Bool.and_eq_true, decide_eq_true_eq, beq_iff_eq] at ha
  exact ⟨ha.1.1.1, ha.1.1.2⟩
section
variable {σ : Sg} {m : Mm}
theorem c_FC_feed (hF : FcS σ) {T : TPt} (hT : TpM m T) (hK : TK T) {v : Int} (hv : -9223372036854775808 ≤ v ∧ v ≤ 9223372036854775807) : ∃ m', Call 2 m_FC_feed [vr 3, vl v] σ m (some (vi (sp_feed T))) σ m' ∧ TpM m' (st_feed T v) ∧ (∀ b j : Int, ¬ (b = 17 ∧ j = 1) → b ≠ 18 → m' b j = m b j) := by
  obtain ⟨m1, q1, q2, q3⟩ := c_Tp_appendEight hF hT hK hv
  have cl := c_Tp_length hF q2 (st_feed_K hK v)
  refine ⟨m1, ?_, q2, q3⟩
  show Ev 2 m_FC_feed 0 [some (vr 3), some (vl v), none] [] σ m _ σ m1
  unfold sp_feed
  by_cases hc : T.1 + 8 ≤ 80
  · rw [if_pos hc]
    have es : (st_feed T v).1 = T.1 + 8 := by unfold st_feed; rw [if_pos hc]
    rw [es] at cl
    refine Ev.aload_n d_FC_feed_0 rfl ?_
    refine Ev.gr 5 d_FC_feed_1 lf_FC_43 rfl rfl (fi_3 hF) (by decide) (fr_3_5 hF) ?_
    refine Ev.lload_n d_FC_feed_4 rfl ?_
    refine Ev.callV d_FC_feed_5 mt_Tp_appendEight lk_FC_196 in_Tp_appendEight se_Tp_appendEight rfl (Nat.le_of_ble_eq_true rfl) rfl (Nat.le_of_ble_eq_true rfl) (by decide) (fi_17 hF) (by decide) rfl rfl q1 ?_
    refine Ev.if_eq (tgt := 21) d_FC_feed_8 rfl b01_b (fun hb8 => by exfalso; (first | rw [b01_ne] at hb8 | rw [b01_eq] at hb8); omega) (fun hb8 => ?_)
    rw [b01_ne] at hb8
    refine Ev.aload_n d_FC_feed_11 rfl ?_
    refine Ev.gr 5 d_FC_feed_12 lf_FC_43 rfl rfl (fi_3 hF) (by decide) (fr_3_5 hF) ?_
    refine Ev.callV d_FC_feed_15 mt_Tp_length lk_FC_200 in_Tp_length se_Tp_length rfl (Nat.le_of_ble_eq_true rfl) rfl (Nat.le_of_ble_eq_true rfl) (by decide) (fi_17 hF) (by decide) rfl rfl cl ?_
    refine Ev.goto (tgt := 23) d_FC_feed_18 rfl ?_
    exact Ev.to (Ev.ireturn d_FC_feed_23 rfl) rfl rfl
  · rw [if_neg hc]
    refine Ev.aload_n d_FC_feed_0 rfl ?_
    refine Ev.gr 5 d_FC_feed_1 lf_FC_43 rfl rfl (fi_3 hF) (by decide) (fr_3_5 hF) ?_
    refine Ev.lload_n d_FC_feed_4 rfl ?_
    refine Ev.callV d_FC_feed_5 mt_Tp_appendEight lk_FC_196 in_Tp_appendEight se_Tp_appendEight rfl (Nat.le_of_ble_eq_true rfl) rfl (Nat.le_of_ble_eq_true rfl) (by decide) (fi_17 hF) (by decide) rfl rfl q1 ?_
    refine Ev.if_eq (tgt := 21) d_FC_feed_8 rfl b01_b (fun hb8 => ?_) (fun hb8 => by exfalso; (first | rw [b01_ne] at hb8 | rw [b01_eq] at hb8); omega)
    rw [b01_eq] at hb8
    refine Ev.bipush d_FC_feed_21 rfl ?_
    exact Ev.to (Ev.ireturn d_FC_feed_23 rfl) rfl rfl
theorem c_FC_end (hF : FcS σ) {T : TPt} (hT : TpM m T) (hK : TK T) {n : Int} (h1 : -2147483648 ≤ n ∧ n ≤ 2147483647) : ∃ m', Call 2 m_FC_end [vr 3, vi n] σ m (some (vi (sp_end T n))) σ m' ∧ TpM m' (st_end T n) ∧ (∀ b j : Int, ¬ (b = 17 ∧ j = 1) → m' b j = m b j) := by
  have cl := c_Tp_length hF hT hK
  have ck := c_Tp_keepFirst hF hT hK h1
  unfold sp_end st_end
  by_cases hc : 0 ≤ n ∧ n ≤ T.1
  · rw [if_pos hc] at ck
    rw [if_pos hc, if_pos hc]
    refine ⟨mu m 17 1 n, ?_, ⟨mu_s, fun i a b => ?_⟩, fun b j x => mu_n (by omega)⟩
    rotate_left
    · have b : i < n := b
      rw [mu_a (by decide)]; exact hT.2 i a (by omega)
    show Ev 2 m_FC_end 0 [some (vr 3), some (vi n), none] [] σ m _ σ _
    refine Ev.aload_n d_FC_end_0 rfl ?_
    refine Ev.gr 5 d_FC_end_1 lf_FC_43 rfl rfl (fi_3 hF) (by decide) (fr_3_5 hF) ?_
    refine Ev.callV d_FC_end_4 mt_Tp_length lk_FC_200 in_Tp_length se_Tp_length rfl (Nat.le_of_ble_eq_true rfl) rfl (Nat.le_of_ble_eq_true rfl) (by decide) (fi_17 hF) (by decide) rfl rfl cl ?_
    refine Ev.istore_2 d_FC_end_7 rfl ?_
    refine Ev.aload_n d_FC_end_8 rfl ?_
    refine Ev.gr 5 d_FC_end_9 lf_FC_43 rfl rfl (fi_3 hF) (by decide) (fr_3_5 hF) ?_
    refine Ev.iload_n d_FC_end_12 rfl ?_
    refine Ev.callV d_FC_end_13 mt_Tp_keepFirst lk_FC_203 in_Tp_keepFirst se_Tp_keepFirst rfl (Nat.le_of_ble_eq_true rfl) rfl (Nat.le_of_ble_eq_true rfl) (by decide) (fi_17 hF) (by decide) rfl rfl ck ?_
    refine Ev.if_eq (tgt := 23) d_FC_end_16 rfl b01_b (fun hb16 => by exfalso; (first | rw [b01_ne] at hb16 | rw [b01_eq] at hb16); omega) (fun hb16 => ?_)
    rw [b01_ne] at hb16
    refine Ev.iload_n d_FC_end_19 rfl ?_
    refine Ev.goto (tgt := 24) d_FC_end_20 rfl ?_
    exact Ev.to (Ev.ireturn d_FC_end_24 rfl) rfl rfl
  · rw [if_neg hc] at ck
    rw [if_neg hc, if_neg hc]
    refine ⟨m, ?_, hT, fun _ _ _ => rfl⟩
    show Ev 2 m_FC_end 0 [some (vr 3), some (vi n), none] [] σ m _ σ _
    refine Ev.aload_n d_FC_end_0 rfl ?_
    refine Ev.gr 5 d_FC_end_1 lf_FC_43 rfl rfl (fi_3 hF) (by decide) (fr_3_5 hF) ?_
    refine Ev.callV d_FC_end_4 mt_Tp_length lk_FC_200 in_Tp_length se_Tp_length rfl (Nat.le_of_ble_eq_true rfl) rfl (Nat.le_of_ble_eq_true rfl) (by decide) (fi_17 hF) (by decide) rfl rfl cl ?_
    refine Ev.istore_2 d_FC_end_7 rfl ?_
    refine Ev.aload_n d_FC_end_8 rfl ?_
    refine Ev.gr 5 d_FC_end_9 lf_FC_43 rfl rfl (fi_3 hF) (by decide) (fr_3_5 hF) ?_
    refine Ev.iload_n d_FC_end_12 rfl ?_
    refine Ev.callV d_FC_end_13 mt_Tp_keepFirst lk_FC_203 in_Tp_keepFirst se_Tp_keepFirst rfl (Nat.le_of_ble_eq_true rfl) rfl (Nat.le_of_ble_eq_true rfl) (by decide) (fi_17 hF) (by decide) rfl rfl ck ?_
    refine Ev.if_eq (tgt := 23) d_FC_end_16 rfl b01_b (fun hb16 => ?_) (fun hb16 => by exfalso; (first | rw [b01_ne] at hb16 | rw [b01_eq] at hb16); omega)
    rw [b01_eq] at hb16
    refine Ev.iconst d_FC_end_23 ?_
    exact Ev.to (Ev.ireturn d_FC_end_24 rfl) rfl rfl
theorem ps_place {T : TPt} : ∀ (q : Nat) (p l s : Int) (R : Int → Int), 0 ≤ p → 0 ≤ (ps T q p l s R).2.1 ∧ (ps T q p l s R).2.1 ≤ p + q ∧ 0 ≤ (ps T q p l s R).1 ∧ (ps T q p l s R).1 ≤ 3
  | 0, p, l, s, R, h => by
    simp only [ps]
    split
    · exact ⟨h, by show p ≤ p + ((0 : Nat) : Int); omega, by show (0 : Int) ≤ 2; decide, by show (2 : Int) ≤ 3; decide⟩
    · exact ⟨h, by show p ≤ p + ((0 : Nat) : Int); omega, by show (0 : Int) ≤ 0; decide, by show (0 : Int) ≤ 3; decide⟩
  | q + 1, p, l, s, R, h => by
    have nx := fun (l s : Int) (R : Int → Int) => ps_place (T := T) q (p + 1) l s R (by omega)
    have st : ∀ (c : Int) (X : Int) (Y : Int → Int), 0 ≤ c ∧ c ≤ 3 → 0 ≤ ((c, p, X, Y) : PRt).2.1 ∧ ((c, p, X, Y) : PRt).2.1 ≤ p + ((q + 1 : Nat) : Int) ∧ 0 ≤ ((c, p, X, Y) : PRt).1 ∧ ((c, p, X, Y) : PRt).1 ≤ 3 := fun c X Y hc => ⟨h, by show p ≤ _; omega, hc.1, hc.2⟩
    have nx' := fun (l s : Int) (R : Int → Int) => (show 0 ≤ (ps T q (p + 1) l s R).2.1 ∧ (ps T q (p + 1) l s R).2.1 ≤ p + ((q + 1 : Nat) : Int) ∧ 0 ≤ (ps T q (p + 1) l s R).1 ∧ (ps T q (p + 1) l s R).1 ≤ 3 from ⟨(nx l s R).1, by have := (nx l s R).2.1; omega, (nx l s R).2.2⟩)
    simp only [ps]
    split
    · exact nx' _ _ _
    · split
      · exact st _ _ _ (by decide)
      · split
        · split
          · exact nx' _ _ _
          · exact st _ _ _ (by decide)
        · split
          · exact st _ _ _ (by decide)
          · split
            · exact st _ _ _ (by decide)
            · exact nx' _ _ _
theorem c_FC_text (hF : FcS σ) {T : TPt} (hT : TpM m T) (hK : TK T) {D : TDt} (hD : TPD m D) : ∃ m', Call 3 m_FC_text [vr 3] σ m (some (vi (sp_text T))) σ m' ∧ TpM m' (0, T.2) ∧ m' 17 3 = (if (txt T).1 = 0 then 0 else (txt T).1) ∧ TPD m' (st_textD T D) ∧ (∀ b j : Int, b ≠ 17 → m' b j = m b j) := by
  have hK1 := hK.1
  have cr := c_Tp_read hF hT hK
  have hpl := ps_place (T := T) T.1.toNat 0 (-4) 0 (fun _ => 0) (by decide)
  have hpl : 0 ≤ (txt T).2.1 ∧ (txt T).2.1 ≤ 0 + (T.1.toNat : Int) ∧ 0 ≤ (txt T).1 ∧ (txt T).1 ≤ 3 := hpl
  have FR : ∀ b j : Int, ¬ (b = 17 ∧ (j = 2 ∨ j = 3)) → rdE m (txt T) b j = m b j := fun b j x => by
    unfold rdE
    split
    · rw [mu_n (by omega), mu_n (by omega)]
    · rw [mu_n (by omega)]
  have hT1 : TpM (rdE m (txt T)) T := ⟨(FR _ _ (by decide)).trans hT.1, fun i a b => (FR _ _ (by omega)).trans (hT.2 i a b)⟩
  have ck := c_Tp_keepFirst hF hT1 hK (n := 0) (by decide)
  rw [if_pos (by omega)] at ck
  have e3 : mu (rdE m (txt T)) 17 1 0 17 3 = (if (txt T).1 = 0 then 0 else (txt T).1) := by
    rw [mu_n (by omega)]
    unfold rdE
    split
    · rw [mu_s]
    · rw [mu_s]
  have e2 : mu (rdE m (txt T)) 17 1 0 17 2 = (if (txt T).1 = 0 then pkF (txt T).2.2.2 else m 17 2) := by
    rw [mu_n (by omega)]
    unfold rdE
    split
    · rw [mu_n (by omega), mu_s]
    · rw [mu_n (by omega)]
  refine ⟨mu (rdE m (txt T)) 17 1 0, ?_, ⟨mu_s, fun i a b => ?_⟩, e3, ?_, fun b j x => by rw [mu_a x]; exact FR b j (by omega)⟩
  rotate_left
  · have b : i < 0 := b
    omega
  · unfold st_textD
    by_cases h0 : (txt T).1 = 0
    · rw [if_pos h0] at e2 ⊢
      exact ⟨fun h => absurd (show (1 : Int) = 0 from h) (by decide), fun _ => e2⟩
    · rw [if_neg h0] at e2 ⊢
      exact ⟨fun h => e2.trans (hD.1 h), fun h => e2.trans (hD.2 h)⟩
  have ct := c_Tp_toldRows (m := mu (rdE m (txt T)) 17 1 0) hF
  rw [e2] at ct
  unfold sp_text
  show Ev 3 m_FC_text 0 [some (vr 3), none] [] σ m _ σ _
  by_cases h0 : (txt T).1 = 0
  · obtain ⟨i, i1, i2, i3⟩ := ps_told T.1.toNat 0 (-4) 0 (fun _ => 0) 0 (Or.inl rfl) ⟨by decide, fun j _ _ => rfl⟩ rfl h0
    have ep : pkF (txt T).2.2.2 = pkA i := pkF_c i2
    have hb := ask_b i1
    have i3 : (txt T).2.2.1 = tsum (rT i) := i3
    have ev : rdV (txt T) = -1 := if_pos h0
    rw [ev] at cr
    rw [if_pos h0, ep] at ct
    rw [if_pos h0, i3, ← hb.1]
    refine Ev.aload_n d_FC_text_0 rfl ?_
    refine Ev.gr 5 d_FC_text_1 lf_FC_43 rfl rfl (fi_3 hF) (by decide) (fr_3_5 hF) ?_
    refine Ev.callV d_FC_text_4 mt_Tp_read lk_FC_206 in_Tp_read se_Tp_read rfl (Nat.le_of_ble_eq_true rfl) rfl (Nat.le_of_ble_eq_true rfl) (by decide) (fi_17 hF) (by decide) rfl rfl cr ?_
    refine Ev.istore_1 d_FC_text_7 rfl ?_
    refine Ev.aload_n d_FC_text_8 rfl ?_
    refine Ev.gr 5 d_FC_text_9 lf_FC_43 rfl rfl (fi_3 hF) (by decide) (fr_3_5 hF) ?_
    refine Ev.iconst d_FC_text_12 ?_
    refine Ev.callV d_FC_text_13 mt_Tp_keepFirst lk_FC_203 in_Tp_keepFirst se_Tp_keepFirst rfl (Nat.le_of_ble_eq_true rfl) rfl (Nat.le_of_ble_eq_true rfl) (by decide) (fi_17 hF) (by decide) rfl rfl ck ?_
    refine Ev.pop d_FC_text_16 rfl ?_
    refine Ev.iload_n d_FC_text_17 rfl ?_
    refine Ev.if_ge (tgt := 34) d_FC_text_18 rfl (by first | omega | (simp [mu]; done) | (simp [mu]; omega)) (fun hb18 => by exfalso; first | omega | simp at hb18 | contradiction) (fun hb18 => ?_)
    refine Ev.aload_n d_FC_text_21 rfl ?_
    refine Ev.gr 5 d_FC_text_22 lf_FC_43 rfl rfl (fi_3 hF) (by decide) (fr_3_5 hF) ?_
    refine Ev.callV d_FC_text_25 mt_Tp_toldRows lk_FC_209 in_Tp_toldRows se_Tp_toldRows rfl (Nat.le_of_ble_eq_true rfl) rfl (Nat.le_of_ble_eq_true rfl) (by decide) (fi_17 hF) (by decide) rfl rfl ct ?_
    refine Ev.callS d_FC_text_28 mt_Rows_degreeOf lk_FC_212 st_Rows_degreeOf rfl (Nat.le_of_ble_eq_true rfl) rfl (Nat.le_of_ble_eq_true rfl) (by decide) rfl (c_Rows_degreeOf (by omega)) ?_
    refine Ev.goto (tgt := 38) d_FC_text_31 rfl ?_
    exact Ev.to (Ev.ireturn d_FC_text_38 rfl) rfl rfl
  · have ev : rdV (txt T) = (txt T).2.1 := if_neg h0
    rw [ev] at cr
    rw [if_neg h0]
    refine Ev.aload_n d_FC_text_0 rfl ?_
    refine Ev.gr 5 d_FC_text_1 lf_FC_43 rfl rfl (fi_3 hF) (by decide) (fr_3_5 hF) ?_
    refine Ev.callV d_FC_text_4 mt_Tp_read lk_FC_206 in_Tp_read se_Tp_read rfl (Nat.le_of_ble_eq_true rfl) rfl (Nat.le_of_ble_eq_true rfl) (by decide) (fi_17 hF) (by decide) rfl rfl cr ?_
    refine Ev.istore_1 d_FC_text_7 rfl ?_
    refine Ev.aload_n d_FC_text_8 rfl ?_
    refine Ev.gr 5 d_FC_text_9 lf_FC_43 rfl rfl (fi_3 hF) (by decide) (fr_3_5 hF) ?_
    refine Ev.iconst d_FC_text_12 ?_
    refine Ev.callV d_FC_text_13 mt_Tp_keepFirst lk_FC_203 in_Tp_keepFirst se_Tp_keepFirst rfl (Nat.le_of_ble_eq_true rfl) rfl (Nat.le_of_ble_eq_true rfl) (by decide) (fi_17 hF) (by decide) rfl rfl ck ?_
    refine Ev.pop d_FC_text_16 rfl ?_
    refine Ev.iload_n d_FC_text_17 rfl ?_
    refine Ev.if_ge (tgt := 34) d_FC_text_18 rfl (by first | omega | (simp [mu]; done) | (simp [mu]; omega)) (fun hb18 => ?_) (fun hb18 => by exfalso; first | omega | simp at hb18 | contradiction)
    refine Ev.bipush d_FC_text_34 rfl ?_
    refine Ev.iload_n d_FC_text_36 rfl ?_
    refine Ev.isub d_FC_text_37 ?_
    exact Ev.to (Ev.ireturn d_FC_text_38 rfl) rfl rfl
theorem c_FC_fault (hF : FcS σ) : Call 2 m_FC_fault [vr 3] σ m (some (vi (m 17 3))) σ m := by
  show Ev 2 m_FC_fault 0 [some (vr 3)] [] σ m _ σ m
  refine Ev.aload_n d_FC_fault_0 rfl ?_
  refine Ev.gr 5 d_FC_fault_1 lf_FC_43 rfl rfl (fi_3 hF) (by decide) (fr_3_5 hF) ?_
  refine Ev.callV d_FC_fault_4 mt_Tp_latestFault lk_FC_217 in_Tp_latestFault se_Tp_latestFault rfl (Nat.le_of_ble_eq_true rfl) rfl (Nat.le_of_ble_eq_true rfl) (by decide) (fi_17 hF) (by decide) rfl rfl (c_Tp_latestFault hF) ?_
  exact Ev.to (Ev.ireturn d_FC_fault_7 rfl) rfl rfl
theorem c_FC_tangent (hF : FcS σ) {D : TDt} (hD : TPD m D) (hK : TDV D) {i : Nat} (hi : D.1 = 1 → TDR D i) {K : Nat} (hG : TGS m K) {n : Int} (h1 : -2147483648 ≤ n ∧ n ≤ 2147483647) : ∃ m', Call 16 m_FC_tangent [vr 3, vi n] σ m (some (vl (sp_tangent D i n))) σ m' ∧ (∃ K', TGS m' K') ∧ FrZ m m' := by
  unfold sp_tangent
  have ct := c_Tp_toldRows (m := m) hF
  have hK1 := hK.1
  by_cases hn : 0 ≤ n ∧ n ≤ 10
  · rw [if_pos hn]
    by_cases h0 : D.1 = 0
    · rw [if_pos h0]
      rw [hD.1 h0] at ct
      refine ⟨m, ?_, ⟨K, hG⟩, fun _ _ _ => rfl⟩
      show Ev 16 m_FC_tangent 0 [some (vr 3), some (vi n)] [] σ m _ σ _
      refine Ev.iload_n d_FC_tangent_0 rfl ?_
      refine Ev.if_lt (tgt := 10) d_FC_tangent_1 rfl (by first | omega | (simp [mu]; done) | (simp [mu]; omega)) (fun hb1 => by exfalso; first | omega | simp at hb1 | contradiction) (fun hb1 => ?_)
      refine Ev.iload_n d_FC_tangent_4 rfl ?_
      refine Ev.bipush d_FC_tangent_5 rfl ?_
      refine Ev.icmp_le (tgt := 14) d_FC_tangent_7 rfl (by first | omega | (simp [mu]; done) | (simp [mu]; omega)) (by first | omega | (simp [mu]; done) | (simp [mu]; omega)) (fun hb7 => ?_) (fun hb7 => by exfalso; first | omega | simp at hb7 | contradiction)
      refine Ev.aload_n d_FC_tangent_14 rfl ?_
      refine Ev.gr 5 d_FC_tangent_15 lf_FC_43 rfl rfl (fi_3 hF) (by decide) (fr_3_5 hF) ?_
      refine Ev.callV d_FC_tangent_18 mt_Tp_toldRows lk_FC_209 in_Tp_toldRows se_Tp_toldRows rfl (Nat.le_of_ble_eq_true rfl) rfl (Nat.le_of_ble_eq_true rfl) (by decide) (fi_17 hF) (by decide) rfl rfl ct ?_
      refine Ev.if_ne (tgt := 28) d_FC_tangent_21 rfl (by decide) (fun hb21 => by exfalso; first | omega | simp at hb21 | contradiction) (fun hb21 => ?_)
      refine Ev.ldc2 (x := (-2)) d_FC_tangent_24 kl_FC_149 ?_
      exact Ev.to (Ev.lreturn d_FC_tangent_27 rfl) rfl rfl
    · rw [if_neg h0]
      have hd1 : D.1 = 1 := by omega
      obtain ⟨i1, i2⟩ := hi hd1
      have hb := ask_b i1
      have ep : pkF D.2 = pkA i := pkF_c i2
      rw [hD.2 hd1, ep] at ct
      obtain ⟨m1, q1, q2, q3⟩ := c_Tg_valueOf hF hG i1 hn
      refine ⟨m1, ?_, q2, q3⟩
      show Ev 16 m_FC_tangent 0 [some (vr 3), some (vi n)] [] σ m _ σ _
      refine Ev.iload_n d_FC_tangent_0 rfl ?_
      refine Ev.if_lt (tgt := 10) d_FC_tangent_1 rfl (by first | omega | (simp [mu]; done) | (simp [mu]; omega)) (fun hb1 => by exfalso; first | omega | simp at hb1 | contradiction) (fun hb1 => ?_)
      refine Ev.iload_n d_FC_tangent_4 rfl ?_
      refine Ev.bipush d_FC_tangent_5 rfl ?_
      refine Ev.icmp_le (tgt := 14) d_FC_tangent_7 rfl (by first | omega | (simp [mu]; done) | (simp [mu]; omega)) (by first | omega | (simp [mu]; done) | (simp [mu]; omega)) (fun hb7 => ?_) (fun hb7 => by exfalso; first | omega | simp at hb7 | contradiction)
      refine Ev.aload_n d_FC_tangent_14 rfl ?_
      refine Ev.gr 5 d_FC_tangent_15 lf_FC_43 rfl rfl (fi_3 hF) (by decide) (fr_3_5 hF) ?_
      refine Ev.callV d_FC_tangent_18 mt_Tp_toldRows lk_FC_209 in_Tp_toldRows se_Tp_toldRows rfl (Nat.le_of_ble_eq_true rfl) rfl (Nat.le_of_ble_eq_true rfl) (by decide) (fi_17 hF) (by decide) rfl rfl ct ?_
      refine Ev.if_ne (tgt := 28) d_FC_tangent_21 rfl (by first | omega | (simp [mu]; done) | (simp [mu]; omega)) (fun hb21 => ?_) (fun hb21 => by exfalso; first | omega | simp at hb21 | contradiction)
      refine Ev.aload_n d_FC_tangent_28 rfl ?_
      refine Ev.gr 6 d_FC_tangent_29 lf_FC_50 rfl rfl (fi_3 hF) (by decide) (fr_3_6 hF) ?_
      refine Ev.aload_n d_FC_tangent_32 rfl ?_
      refine Ev.gr 5 d_FC_tangent_33 lf_FC_43 rfl rfl (fi_3 hF) (by decide) (fr_3_5 hF) ?_
      refine Ev.callV d_FC_tangent_36 mt_Tp_toldRows lk_FC_209 in_Tp_toldRows se_Tp_toldRows rfl (Nat.le_of_ble_eq_true rfl) rfl (Nat.le_of_ble_eq_true rfl) (by decide) (fi_17 hF) (by decide) rfl rfl ct ?_
      refine Ev.iload_n d_FC_tangent_39 rfl ?_
      refine Ev.callV d_FC_tangent_40 mt_Tg_valueOf lk_FC_220 in_Tg_valueOf se_Tg_valueOf rfl (Nat.le_of_ble_eq_true rfl) rfl (Nat.le_of_ble_eq_true rfl) (by decide) (fi_19 hF) (by decide) rfl rfl q1 ?_
      exact Ev.to (Ev.lreturn d_FC_tangent_43 rfl) rfl rfl
  · rw [if_neg hn]
    refine ⟨m, ?_, ⟨K, hG⟩, fun _ _ _ => rfl⟩
    show Ev 16 m_FC_tangent 0 [some (vr 3), some (vi n)] [] σ m _ σ _
    refine Ev.iload_n d_FC_tangent_0 rfl ?_
    refine Ev.if_lt (tgt := 10) d_FC_tangent_1 rfl (by first | omega | (simp [mu]; done) | (simp [mu]; omega)) (fun hb1 => ?_) (fun hb1 => ?_)
    · refine Ev.ldc2 (x := (-1)) d_FC_tangent_10 kl_FC_139 ?_
      exact Ev.to (Ev.lreturn d_FC_tangent_13 rfl) rfl rfl
    · refine Ev.iload_n d_FC_tangent_4 rfl ?_
      refine Ev.bipush d_FC_tangent_5 rfl ?_
      refine Ev.icmp_le (tgt := 14) d_FC_tangent_7 rfl (by first | omega | (simp [mu]; done) | (simp [mu]; omega)) (by first | omega | (simp [mu]; done) | (simp [mu]; omega)) (fun hb7 => by exfalso; first | omega | simp at hb7 | contradiction) (fun hb7 => ?_)
      refine Ev.ldc2 (x := (-1)) d_FC_tangent_10 kl_FC_139 ?_
      exact Ev.to (Ev.lreturn d_FC_tangent_13 rfl) rfl rfl
theorem c_FC_has (hF : FcS σ) {D : TDt} (hD : TPD m D) (hK : TDV D) {i : Nat} (hi : D.1 = 1 → TDR D i) {l k : Int} (h1 : -2147483648 ≤ l ∧ l ≤ 2147483647) (h2 : -2147483648 ≤ k ∧ k ≤ 2147483647) : Call 2 m_FC_has [vr 3, vi l, vi k] σ m (some (vi (sp_has D l k))) σ m := by
  unfold sp_has
  have ct := c_Tp_toldRows (m := m) hF
  have hK1 := hK.1
  show Ev 2 m_FC_has 0 [some (vr 3), some (vi l), some (vi k)] [] σ m _ σ _
  by_cases hn : (0 ≤ l ∧ l ≤ 1) ∧ 1 ≤ k ∧ k ≤ 5
  · rw [if_pos hn]
    by_cases h0 : D.1 = 0
    · rw [if_pos h0]
      rw [hD.1 h0] at ct
      refine Ev.iload_n d_FC_has_0 rfl ?_
      refine Ev.if_lt (tgt := 19) d_FC_has_1 rfl (by first | omega | (simp [mu]; done) | (simp [mu]; omega)) (fun hb1 => by exfalso; first | omega | simp at hb1 | contradiction) (fun hb1 => ?_)
      refine Ev.iload_n d_FC_has_4 rfl ?_
      refine Ev.iconst d_FC_has_5 ?_
      refine Ev.icmp_gt (tgt := 19) d_FC_has_6 rfl (by first | omega | (simp [mu]; done) | (simp [mu]; omega)) (by first | omega | (simp [mu]; done) | (simp [mu]; omega)) (fun hb6 => by exfalso; first | omega | simp at hb6 | contradiction) (fun hb6 => ?_)
      refine Ev.iload_n d_FC_has_9 rfl ?_
      refine Ev.iconst d_FC_has_10 ?_
      refine Ev.icmp_lt (tgt := 19) d_FC_has_11 rfl (by first | omega | (simp [mu]; done) | (simp [mu]; omega)) (by first | omega | (simp [mu]; done) | (simp [mu]; omega)) (fun hb11 => by exfalso; first | omega | simp at hb11 | contradiction) (fun hb11 => ?_)
      refine Ev.iload_n d_FC_has_14 rfl ?_
      refine Ev.iconst d_FC_has_15 ?_
      refine Ev.icmp_le (tgt := 21) d_FC_has_16 rfl (by first | omega | (simp [mu]; done) | (simp [mu]; omega)) (by first | omega | (simp [mu]; done) | (simp [mu]; omega)) (fun hb16 => ?_) (fun hb16 => by exfalso; first | omega | simp at hb16 | contradiction)
      refine Ev.aload_n d_FC_has_21 rfl ?_
      refine Ev.gr 5 d_FC_has_22 lf_FC_43 rfl rfl (fi_3 hF) (by decide) (fr_3_5 hF) ?_
      refine Ev.callV d_FC_has_25 mt_Tp_toldRows lk_FC_209 in_Tp_toldRows se_Tp_toldRows rfl (Nat.le_of_ble_eq_true rfl) rfl (Nat.le_of_ble_eq_true rfl) (by decide) (fi_17 hF) (by decide) rfl rfl ct ?_
      refine Ev.if_ne (tgt := 34) d_FC_has_28 rfl (by decide) (fun hb28 => by exfalso; first | omega | simp at hb28 | contradiction) (fun hb28 => ?_)
      refine Ev.bipush d_FC_has_31 rfl ?_
      exact Ev.to (Ev.ireturn d_FC_has_33 rfl) rfl rfl
    · rw [if_neg h0]
      have hd1 : D.1 = 1 := by omega
      obtain ⟨i1, i2⟩ := hi hd1
      have hb := ask_b i1
      have ep : pkF D.2 = pkA i := pkF_c i2
      rw [hD.2 hd1, ep] at ct
      have ha := am_ok i i1 l.toNat (by omega) k.toNat (by omega) (by omega)
      unfold amOk at ha
      rw [Int.toNat_of_nonneg (by omega), Int.toNat_of_nonneg (by omega)] at ha
      have ha := of_decide_eq_true ha
      rw [i2 (6 * l + k) (by omega) (by omega), ← ha]
      refine Ev.iload_n d_FC_has_0 rfl ?_
      refine Ev.if_lt (tgt := 19) d_FC_has_1 rfl (by first | omega | (simp [mu]; done) | (simp [mu]; omega)) (fun hb1 => by exfalso; first | omega | simp at hb1 | contradiction) (fun hb1 => ?_)
      refine Ev.iload_n d_FC_has_4 rfl ?_
      refine Ev.iconst d_FC_has_5 ?_
      refine Ev.icmp_gt (tgt := 19) d_FC_has_6 rfl (by first | omega | (simp [mu]; done) | (simp [mu]; omega)) (by first | omega | (simp [mu]; done) | (simp [mu]; omega)) (fun hb6 => by exfalso; first | omega | simp at hb6 | contradiction) (fun hb6 => ?_)
      refine Ev.iload_n d_FC_has_9 rfl ?_
      refine Ev.iconst d_FC_has_10 ?_
      refine Ev.icmp_lt (tgt := 19) d_FC_has_11 rfl (by first | omega | (simp [mu]; done) | (simp [mu]; omega)) (by first | omega | (simp [mu]; done) | (simp [mu]; omega)) (fun hb11 => by exfalso; first | omega | simp at hb11 | contradiction) (fun hb11 => ?_)
      refine Ev.iload_n d_FC_has_14 rfl ?_
      refine Ev.iconst d_FC_has_15 ?_
      refine Ev.icmp_le (tgt := 21) d_FC_has_16 rfl (by first | omega | (simp [mu]; done) | (simp [mu]; omega)) (by first | omega | (simp [mu]; done) | (simp [mu]; omega)) (fun hb16 => ?_) (fun hb16 => by exfalso; first | omega | simp at hb16 | contradiction)
      refine Ev.aload_n d_FC_has_21 rfl ?_
      refine Ev.gr 5 d_FC_has_22 lf_FC_43 rfl rfl (fi_3 hF) (by decide) (fr_3_5 hF) ?_
      refine Ev.callV d_FC_has_25 mt_Tp_toldRows lk_FC_209 in_Tp_toldRows se_Tp_toldRows rfl (Nat.le_of_ble_eq_true rfl) rfl (Nat.le_of_ble_eq_true rfl) (by decide) (fi_17 hF) (by decide) rfl rfl ct ?_
      refine Ev.if_ne (tgt := 34) d_FC_has_28 rfl (by first | omega | (simp [mu]; done) | (simp [mu]; omega)) (fun hb28 => ?_) (fun hb28 => by exfalso; first | omega | simp at hb28 | contradiction)
      refine Ev.aload_n d_FC_has_34 rfl ?_
      refine Ev.gr 5 d_FC_has_35 lf_FC_43 rfl rfl (fi_3 hF) (by decide) (fr_3_5 hF) ?_
      refine Ev.callV d_FC_has_38 mt_Tp_toldRows lk_FC_209 in_Tp_toldRows se_Tp_toldRows rfl (Nat.le_of_ble_eq_true rfl) rfl (Nat.le_of_ble_eq_true rfl) (by decide) (fi_17 hF) (by decide) rfl rfl ct ?_
      refine Ev.iload_n d_FC_has_41 rfl ?_
      refine Ev.iload_n d_FC_has_42 rfl ?_
      refine Ev.callS d_FC_has_43 mt_Rows_amount lk_FC_223 st_Rows_amount rfl (Nat.le_of_ble_eq_true rfl) rfl (Nat.le_of_ble_eq_true rfl) (by decide) rfl (c_Rows_amount (by omega) (by omega) (by omega)) ?_
      exact Ev.to (Ev.ireturn d_FC_has_46 rfl) rfl rfl
  · rw [if_neg hn]
    refine Ev.iload_n d_FC_has_0 rfl ?_
    refine Ev.if_lt (tgt := 19) d_FC_has_1 rfl (by first | omega | (simp [mu]; done) | (simp [mu]; omega)) (fun hb1 => ?_) (fun hb1 => ?_)
    · refine Ev.iconst d_FC_has_19 ?_
      exact Ev.to (Ev.ireturn d_FC_has_20 rfl) rfl rfl
    · refine Ev.iload_n d_FC_has_4 rfl ?_
      refine Ev.iconst d_FC_has_5 ?_
      refine Ev.icmp_gt (tgt := 19) d_FC_has_6 rfl (by first | omega | (simp [mu]; done) | (simp [mu]; omega)) (by first | omega | (simp [mu]; done) | (simp [mu]; omega)) (fun hb6 => ?_) (fun hb6 => ?_)
      · refine Ev.iconst d_FC_has_19 ?_
        exact Ev.to (Ev.ireturn d_FC_has_20 rfl) rfl rfl
      · refine Ev.iload_n d_FC_has_9 rfl ?_
        refine Ev.iconst d_FC_has_10 ?_
        refine Ev.icmp_lt (tgt := 19) d_FC_has_11 rfl (by first | omega | (simp [mu]; done) | (simp [mu]; omega)) (by first | omega | (simp [mu]; done) | (simp [mu]; omega)) (fun hb11 => ?_) (fun hb11 => ?_)
        · refine Ev.iconst d_FC_has_19 ?_
          exact Ev.to (Ev.ireturn d_FC_has_20 rfl) rfl rfl
        · refine Ev.iload_n d_FC_has_14 rfl ?_
          refine Ev.iconst d_FC_has_15 ?_
          refine Ev.icmp_le (tgt := 21) d_FC_has_16 rfl (by first | omega | (simp [mu]; done) | (simp [mu]; omega)) (by first | omega | (simp [mu]; done) | (simp [mu]; omega)) (fun hb16 => by exfalso; first | omega | simp at hb16 | contradiction) (fun hb16 => ?_)
          refine Ev.iconst d_FC_has_19 ?_
          exact Ev.to (Ev.ireturn d_FC_has_20 rfl) rfl rfl
end
