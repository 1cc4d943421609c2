section
variable {σ : Sg} {m : Mm}
/-! the pictures, as both sides have them -/
abbrev PS : Type := Int × (Int → Int) × (Int → List Int)
def MS (m : Mm) (S : PS) : Prop := MP m S.1 S.2.1 S.2.2
def FrM (m m' : Mm) : Prop := ∀ a i : Int, ¬ (a = 57 ∧ i = 0) → (a < 58 ∨ 62 < a) → m' a i = m a i
theorem FrM.rf {m : Mm} : FrM m m := fun _ _ _ _ => rfl
def ins (s : Int) : List Int → List Int
  | [] => [s]
  | x :: t => if x ≤ s then x :: ins s t else s :: x :: t
def del (s : Int) : List Int → List Int
  | [] => []
  | x :: t => if x = s then t else x :: del s t
def spot (i j w : Int) : Int := 4 * pairS i j + w - 1
def okS (d i j w : Int) : Prop := 0 ≤ i ∧ i < j ∧ j < d ∧ 1 ≤ w ∧ w ≤ 4
theorem spot_ok {d i j w : Int} (hd : d ≤ 4) (h : okS d i j w) : fS (spot i j w) = i ∧ tS (spot i j w) = j ∧ wS (spot i j w) = w ∧ 0 ≤ spot i j w ∧ spot i j w < 24 := by
  obtain ⟨h1, h2, h3, h4, h5⟩ := h
  rcases (show (i = 0 ∧ j = 1) ∨ (i = 0 ∧ j = 2) ∨ (i = 0 ∧ j = 3) ∨ (i = 1 ∧ j = 2) ∨ (i = 1 ∧ j = 3) ∨ (i = 2 ∧ j = 3) by omega) with ⟨rfl, rfl⟩ | ⟨rfl, rfl⟩ | ⟨rfl, rfl⟩ | ⟨rfl, rfl⟩ | ⟨rfl, rfl⟩ | ⟨rfl, rfl⟩ <;>
    rcases (show w = 1 ∨ w = 2 ∨ w = 3 ∨ w = 4 by omega) with rfl | rfl | rfl | rfl <;> decide
theorem ins_mid {s : Int} : ∀ {pre suf : List Int}, (∀ y ∈ pre, y ≤ s) → (∀ y ∈ suf, s < y) → ins s (pre ++ suf) = pre ++ s :: suf
  | [], [], _, _ => rfl
  | [], y :: t, _, h2 => by
    have := h2 y List.mem_cons_self
    simp only [List.nil_append, ins]
    rw [if_neg (by omega)]
  | x :: t, suf, h1, h2 => by
    have := h1 x List.mem_cons_self
    simp only [List.cons_append, ins]
    rw [if_pos this, ins_mid (fun y hy => h1 y (List.mem_cons_of_mem _ hy)) h2]
theorem ins_len (s : Int) : ∀ l : List Int, (ins s l).length = l.length + 1
  | [] => rfl
  | x :: t => by
    simp only [ins]
    split
    · simp [ins_len s t]
    · simp
theorem ins_mem {s y : Int} : ∀ {l : List Int}, y ∈ ins s l ↔ y = s ∨ y ∈ l
  | [] => by simp [ins]
  | x :: t => by
    simp only [ins]
    split
    · simp only [List.mem_cons, ins_mem (l := t)]
      constructor <;> (intro h; rcases h with h | h | h <;> simp [h])
    · simp
theorem ins_srt {s : Int} : ∀ {l : List Int}, l.Pairwise (· ≤ ·) → (ins s l).Pairwise (· ≤ ·)
  | [], _ => by simp [ins]
  | x :: t, h => by
    have h1 := List.pairwise_cons.mp h
    simp only [ins]
    split
    next hx =>
      refine List.pairwise_cons.mpr ⟨fun y hy => ?_, ins_srt h1.2⟩
      rcases ins_mem.mp hy with rfl | hy
      · exact hx
      · exact h1.1 y hy
    next hx =>
      refine List.pairwise_cons.mpr ⟨fun y hy => ?_, h⟩
      rcases List.mem_cons.mp hy with rfl | hy
      · omega
      · have := h1.1 y hy; omega
theorem ins_PK {d i j w : Int} {l : List Int} (hK : PK d l) (h : okS d i j w) (h6 : l.length < 6) : PK d (ins (spot i j w) l) := by
  obtain ⟨e1, e2, e3, e4, e5⟩ := spot_ok hK.1.2 h
  refine ⟨hK.1, by rw [ins_len]; omega, ins_srt hK.2.2.1, fun y hy => ?_⟩
  rcases ins_mem.mp hy with rfl | hy
  · exact ⟨e4, e5, by rw [e2]; exact h.2.2.1⟩
  · exact hK.2.2.2 y hy
theorem del_sub {s y : Int} : ∀ {l : List Int}, y ∈ del s l → y ∈ l
  | [], h => by simp [del] at h
  | x :: t, h => by
    simp only [del] at h
    split at h
    · exact List.mem_cons_of_mem _ h
    · rcases List.mem_cons.mp h with rfl | h
      · exact List.mem_cons_self
      · exact List.mem_cons_of_mem _ (del_sub h)
theorem del_len {s : Int} : ∀ {l : List Int}, s ∈ l → (del s l).length + 1 = l.length
  | [], h => by simp at h
  | x :: t, h => by
    simp only [del]
    split
    · simp
    next hx =>
      rcases List.mem_cons.mp h with rfl | h
      · exact absurd rfl hx
      · simp [del_len h]
theorem del_srt {s : Int} : ∀ {l : List Int}, l.Pairwise (· ≤ ·) → (del s l).Pairwise (· ≤ ·)
  | [], _ => by simp [del]
  | x :: t, h => by
    have h1 := List.pairwise_cons.mp h
    simp only [del]
    split
    · exact h1.2
    · exact List.pairwise_cons.mpr ⟨fun y hy => h1.1 y (del_sub hy), del_srt h1.2⟩
theorem del_PK {d s : Int} {l : List Int} (hK : PK d l) (h : s ∈ l) : PK d (del s l) := by
  have := del_len h
  exact ⟨hK.1, by have := hK.2.1; omega, del_srt hK.2.2.1, fun y hy => hK.2.2.2 y (del_sub hy)⟩
theorem At_get {m : Mm} : ∀ {a : Int} {l : List Int}, At m a l → ∀ j : Nat, j < l.length → m 60 (a + j) = fS (l.getD j 0) ∧ m 61 (a + j) = tS (l.getD j 0) ∧ m 62 (a + j) = wS (l.getD j 0)
  | a, s :: t, h, 0, _ => by simpa using h.1
  | a, s :: t, h, j + 1, hj => by
    have := At_get h.2 j (by simpa using hj)
    rw [show a + ((j + 1 : Nat) : Int) = a + 1 + j by omega]
    simpa using this
/-- another picture's rows stay -/
theorem MS_set {m m' : Mm} {S : PS} {p d : Int} {l : List Int} (h : MS m S) (hp : 0 ≤ p ∧ p < S.1) (hP : PM m' p d l) (hK : PK d l) (h0 : m' 57 0 = m 57 0) (hd : ∀ q, q ≠ p → m' 58 q = m 58 q ∧ m' 59 q = m 59 q) (ha : ∀ a j : Int, a = 60 ∨ a = 61 ∨ a = 62 → (j < 6 * p ∨ 6 * p + 6 ≤ j) → m' a j = m a j) : MS m' (S.1, up S.2.1 p d, up S.2.2 p l) := by
  refine ⟨h.1, h0.trans h.2.1, fun q hq1 hq2 => ?_⟩
  by_cases e : q = p
  · subst e
    simp only [up, if_true]
    exact ⟨hP, hK⟩
  · simp only [up, if_neg e]
    obtain ⟨⟨g1, g2, g3⟩, g4⟩ := h.2.2 q hq1 hq2
    refine ⟨⟨(hd q e).1.trans g1, (hd q e).2.trans g2, At_eq (fun j hj1 hj2 => ?_) g3⟩, g4⟩
    have := g4.2.1
    have hj : j < 6 * p ∨ 6 * p + 6 ≤ j := by omega
    exact ⟨ha 60 j (by omega) hj, ha 61 j (by omega) hj, ha 62 j (by omega) hj⟩
def trn (l : List Int) : Nat → Int → Bool
  | 0, _ => true
  | n + 1, f => decide (-1 ≤ outL f l) && trn l n (f + 1)
def sp_turned (S : PS) (p : Int) : Int := if 0 ≤ p ∧ p < S.1 then b01 (trn (S.2.2 p) (S.2.1 p).toNat 0 = true) else -1
theorem lp_Mo_turned (hM : MoS σ) {p d : Int} {l : List Int} (hp : 0 ≤ p ∧ p ≤ 8) (hd : m 58 p = d) (hd4 : 0 ≤ d ∧ d ≤ 4) (hn : m 59 p = l.length) (h6 : l.length ≤ 6) (hA : At m (6 * p) l) : ∀ (n : Nat) (f acc : Int), f + n = d → 0 ≤ f → (acc = 0 ∨ acc = 1) → Ev 3 m_Mo_turned 14 [some (vr 57), some (vi p), some (vi acc), some (vi f)] [] σ m (some (vi (b01 (acc = 1 ∧ trn l n f = true)))) σ m
  | 0, f, acc, hf, h0, ha => by
    refine Ev.iload_n d_Mo_turned_14 rfl ?_
    refine Ev.aload_n d_Mo_turned_15 rfl ?_
    refine Ev.gr 1 d_Mo_turned_16 lf_Mo_7 rfl rfl (is_57 hM) (by decide) (rf_57_1 hM) ?_
    refine Ev.iload_n d_Mo_turned_19 rfl ?_
    refine Ev.iaload d_Mo_turned_20 (is_58 hM) (by omega) ?_
    refine Ev.icmp_ge (tgt := 46) d_Mo_turned_21 rfl (by omega) (by omega) (fun hb21 => ?_) (fun hb21 => by exfalso; first | omega | simp at hb21 | contradiction)
    refine Ev.iload_n d_Mo_turned_46 rfl ?_
    exact Ev.to (Ev.ireturn d_Mo_turned_47 rfl) (by rcases ha with rfl | rfl <;> simp [b01, trn]) rfl
  | n + 1, f, acc, hf, h0, ha => by
    have ho := outL_b f l
    refine Ev.iload_n d_Mo_turned_14 rfl ?_
    refine Ev.aload_n d_Mo_turned_15 rfl ?_
    refine Ev.gr 1 d_Mo_turned_16 lf_Mo_7 rfl rfl (is_57 hM) (by decide) (rf_57_1 hM) ?_
    refine Ev.iload_n d_Mo_turned_19 rfl ?_
    refine Ev.iaload d_Mo_turned_20 (is_58 hM) (by omega) ?_
    refine Ev.icmp_ge (tgt := 46) d_Mo_turned_21 rfl (by omega) (by omega) (fun hb21 => by exfalso; first | omega | simp at hb21 | contradiction) (fun hb21 => ?_)
    refine Ev.aload_n d_Mo_turned_24 rfl ?_
    refine Ev.iload_n d_Mo_turned_25 rfl ?_
    refine Ev.iload_n d_Mo_turned_26 rfl ?_
    refine Ev.callV d_Mo_turned_27 mt_Mo_outOf lk_Mo_128 in_Mo_outOf se_Mo_outOf rfl (Nat.le_of_ble_eq_true rfl) rfl (Nat.le_of_ble_eq_true rfl) (by decide) (is_57 hM) (by decide) rfl rfl (c_Mo_outOf hM hp (by omega) hn h6 hA) ?_
    refine Ev.iconst d_Mo_turned_30 ?_
    refine Ev.icmp_ge (tgt := 38) d_Mo_turned_31 rfl (by omega) (by omega) (fun hb31 => ?_) (fun hb31 => ?_)
    · refine Ev.iload_n d_Mo_turned_38 rfl ?_
      refine Ev.istore_2 d_Mo_turned_39 rfl ?_
      refine Ev.iinc_3 d_Mo_turned_40 rfl ?_
      refine Ev.goto (tgt := 14) d_Mo_turned_43 rfl ?_
      exact Ev.to (lp_Mo_turned hM hp hd hd4 hn h6 hA n (f + 1) acc (by omega) (by omega) (by omega)) (rb (by simp [trn, show -1 ≤ outL f l by omega])) rfl
    · refine Ev.iconst d_Mo_turned_34 ?_
      refine Ev.goto (tgt := 39) d_Mo_turned_35 rfl ?_
      refine Ev.istore_2 d_Mo_turned_39 rfl ?_
      refine Ev.iinc_3 d_Mo_turned_40 rfl ?_
      refine Ev.goto (tgt := 14) d_Mo_turned_43 rfl ?_
      exact Ev.to (lp_Mo_turned hM hp hd hd4 hn h6 hA n (f + 1) 0 (by omega) (by omega) (by omega)) (rb (by simp [trn, show ¬ -1 ≤ outL f l by omega])) rfl
theorem c_Mo_turned (hM : MoS σ) {S : PS} (hS : MS m S) {p : Int} (h1 : -2147483648 ≤ p ∧ p ≤ 2147483647) : Call 3 m_Mo_turned [vr 57, vi p] σ m (some (vi (sp_turned S p))) σ m := by
  show Ev 3 m_Mo_turned 0 [some (vr 57), some (vi p), none, none] [] σ m _ σ m
  have hS1 := hS.1
  have hS2 := hS.2.1
  refine Ev.aload_n d_Mo_turned_0 rfl ?_
  refine Ev.iload_n d_Mo_turned_1 rfl ?_
  refine Ev.callV d_Mo_turned_2 mt_Mo_is lk_Mo_117 in_Mo_is se_Mo_is rfl (Nat.le_of_ble_eq_true rfl) rfl (Nat.le_of_ble_eq_true rfl) (by decide) (is_57 hM) (by decide) rfl rfl (c_Mo_is hM (by omega) (by omega)) ?_
  refine Ev.if_ne (tgt := 10) d_Mo_turned_5 rfl b01_b (fun hb5 => ?_) (fun hb5 => ?_)
  · rw [b01_ne] at hb5
    obtain ⟨⟨g1, g2, g3⟩, g4⟩ := hS.2.2 p (by omega) (by have := hS.2.1; omega)
    obtain ⟨⟨k1, k2⟩, k3, k4, k5⟩ := g4
    refine Ev.iconst d_Mo_turned_10 ?_
    refine Ev.istore_2 d_Mo_turned_11 rfl ?_
    refine Ev.iconst d_Mo_turned_12 ?_
    refine Ev.istore_3 d_Mo_turned_13 rfl ?_
    exact Ev.to (lp_Mo_turned hM (by omega) g1 (by omega) g2 k3 g3 (S.2.1 p).toNat 0 1 (by omega) (by omega) (by omega)) (ri (by unfold sp_turned; rw [if_pos (by omega)]; exact congrArg (fun x : Option AV => x.elim 0 (fun v => v.elim id (fun _ => 0))) (rb (by simp)))) rfl
  · rw [b01_eq] at hb5
    refine Ev.iconst d_Mo_turned_8 ?_
    exact Ev.to (Ev.ireturn d_Mo_turned_9 rfl) (ri (by unfold sp_turned; rw [if_neg (by omega)])) rfl
def sp_out (S : PS) (p f : Int) : Int := if (0 ≤ p ∧ p < S.1) ∧ 0 ≤ f ∧ f < S.2.1 p then outL f (S.2.2 p) else -1000
theorem c_Mo_out (hM : MoS σ) {S : PS} (hS : MS m S) {p f : Int} (h1 : -2147483648 ≤ p ∧ p ≤ 2147483647) (h2 : -2147483648 ≤ f ∧ f ≤ 2147483647) : Call 3 m_Mo_out [vr 57, vi p, vi f] σ m (some (vi (sp_out S p f))) σ m := by
  show Ev 3 m_Mo_out 0 [some (vr 57), some (vi p), some (vi f)] [] σ m _ σ m
  have hS1 := hS.1
  have hS2 := hS.2.1
  refine Ev.aload_n d_Mo_out_0 rfl ?_
  refine Ev.iload_n d_Mo_out_1 rfl ?_
  refine Ev.callV d_Mo_out_2 mt_Mo_is lk_Mo_117 in_Mo_is se_Mo_is rfl (Nat.le_of_ble_eq_true rfl) rfl (Nat.le_of_ble_eq_true rfl) (by decide) (is_57 hM) (by decide) rfl rfl (c_Mo_is hM (by omega) (by omega)) ?_
  refine Ev.if_eq (tgt := 35) d_Mo_out_5 rfl b01_b (fun hb5 => ?_) (fun hb5 => ?_)
  · rw [b01_eq] at hb5
    refine Ev.sipush d_Mo_out_35 rfl ?_
    exact Ev.to (Ev.ireturn d_Mo_out_38 rfl) (ri (by unfold sp_out; first | rw [if_pos (by omega)] | rw [if_neg (by omega)])) rfl
  · rw [b01_ne] at hb5
    obtain ⟨⟨g1, g2, g3⟩, g4⟩ := hS.2.2 p (by omega) (by have := hS.2.1; omega)
    obtain ⟨⟨k1, k2⟩, k3, k4, k5⟩ := g4
    refine Ev.iload_n d_Mo_out_8 rfl ?_
    refine Ev.i2l d_Mo_out_9 (by omega) ?_
    refine Ev.lconst (x := 0) d_Mo_out_10 rfl ?_
    refine Ev.aload_n d_Mo_out_11 rfl ?_
    refine Ev.gr 1 d_Mo_out_12 lf_Mo_7 rfl rfl (is_57 hM) (by decide) (rf_57_1 hM) ?_
    refine Ev.iload_n d_Mo_out_15 rfl ?_
    refine Ev.iaload d_Mo_out_16 (is_58 hM) (by omega) ?_
    refine Ev.iconst d_Mo_out_17 ?_
    refine Ev.isub d_Mo_out_18 ?_
    refine Ev.i2l d_Mo_out_19 (by omega) ?_
    refine Ev.callS d_Mo_out_20 mt_Mo_in lk_Mo_107 st_Mo_in rfl (Nat.le_of_ble_eq_true rfl) rfl (Nat.le_of_ble_eq_true rfl) (by decide) rfl (c_Mo_in (by omega) (by omega) (by omega)) ?_
    refine Ev.if_eq (tgt := 35) d_Mo_out_23 rfl b01_b (fun hb23 => ?_) (fun hb23 => ?_)
    · rw [b01_eq] at hb23
      refine Ev.sipush d_Mo_out_35 rfl ?_
      exact Ev.to (Ev.ireturn d_Mo_out_38 rfl) (ri (by unfold sp_out; first | rw [if_pos (by omega)] | rw [if_neg (by omega)])) rfl
    · rw [b01_ne] at hb23
      refine Ev.aload_n d_Mo_out_26 rfl ?_
      refine Ev.iload_n d_Mo_out_27 rfl ?_
      refine Ev.iload_n d_Mo_out_28 rfl ?_
      refine Ev.callV d_Mo_out_29 mt_Mo_outOf lk_Mo_128 in_Mo_outOf se_Mo_outOf rfl (Nat.le_of_ble_eq_true rfl) rfl (Nat.le_of_ble_eq_true rfl) (by decide) (is_57 hM) (by decide) rfl rfl (c_Mo_outOf hM (by omega) (by omega) g2 k3 g3) ?_
      refine Ev.goto (tgt := 38) d_Mo_out_32 rfl ?_
      exact Ev.to (Ev.ireturn d_Mo_out_38 rfl) (ri (by unfold sp_out; first | rw [if_pos (by omega)] | rw [if_neg (by omega)])) rfl
def sp_told (S : PS) (p s what : Int) : Int := if (0 ≤ p ∧ p < S.1) ∧ (0 ≤ s ∧ s < (S.2.2 p).length) ∧ 0 ≤ what ∧ what ≤ 2 then (if what = 0 then fS ((S.2.2 p).getD s.toNat 0) else if what = 1 then tS ((S.2.2 p).getD s.toNat 0) else wS ((S.2.2 p).getD s.toNat 0)) else -1
theorem c_Mo_told (hM : MoS σ) {S : PS} (hS : MS m S) {p s what : Int} (h1 : -2147483648 ≤ p ∧ p ≤ 2147483647) (h2 : -2147483648 ≤ s ∧ s ≤ 2147483647) (h3 : -2147483648 ≤ what ∧ what ≤ 2147483647) : Call 3 m_Mo_told [vr 57, vi p, vi s, vi what] σ m (some (vi (sp_told S p s what))) σ m := by
  show Ev 3 m_Mo_told 0 [some (vr 57), some (vi p), some (vi s), some (vi what), none] [] σ m _ σ m
  have hS1 := hS.1
  have hS2 := hS.2.1
  refine Ev.aload_n d_Mo_told_0 rfl ?_
  refine Ev.iload_n d_Mo_told_1 rfl ?_
  refine Ev.callV d_Mo_told_2 mt_Mo_is lk_Mo_117 in_Mo_is se_Mo_is rfl (Nat.le_of_ble_eq_true rfl) rfl (Nat.le_of_ble_eq_true rfl) (by decide) (is_57 hM) (by decide) rfl rfl (c_Mo_is hM (by omega) (by omega)) ?_
  refine Ev.if_eq (tgt := 38) d_Mo_told_5 rfl b01_b (fun hb5 => ?_) (fun hb5 => ?_)
  · rw [b01_eq] at hb5
    refine Ev.iconst d_Mo_told_38 ?_
    exact Ev.to (Ev.ireturn d_Mo_told_39 rfl) (ri (by unfold sp_told; rw [if_neg (by omega)])) rfl
  · rw [b01_ne] at hb5
    obtain ⟨⟨g1, g2, g3⟩, g4⟩ := hS.2.2 p (by omega) (by have := hS.2.1; omega)
    obtain ⟨⟨k1, k2⟩, k3, k4, k5⟩ := g4
    refine Ev.iload_n d_Mo_told_8 rfl ?_
    refine Ev.i2l d_Mo_told_9 (by omega) ?_
    refine Ev.lconst (x := 0) d_Mo_told_10 rfl ?_
    refine Ev.aload_n d_Mo_told_11 rfl ?_
    refine Ev.gr 2 d_Mo_told_12 lf_Mo_13 rfl rfl (is_57 hM) (by decide) (rf_57_2 hM) ?_
    refine Ev.iload_n d_Mo_told_15 rfl ?_
    refine Ev.iaload d_Mo_told_16 (is_59 hM) (by omega) ?_
    refine Ev.iconst d_Mo_told_17 ?_
    refine Ev.isub d_Mo_told_18 ?_
    refine Ev.i2l d_Mo_told_19 (by omega) ?_
    refine Ev.callS d_Mo_told_20 mt_Mo_in lk_Mo_107 st_Mo_in rfl (Nat.le_of_ble_eq_true rfl) rfl (Nat.le_of_ble_eq_true rfl) (by decide) rfl (c_Mo_in (by omega) (by omega) (by omega)) ?_
    refine Ev.if_eq (tgt := 38) d_Mo_told_23 rfl b01_b (fun hb23 => ?_) (fun hb23 => ?_)
    · rw [b01_eq] at hb23
      refine Ev.iconst d_Mo_told_38 ?_
      exact Ev.to (Ev.ireturn d_Mo_told_39 rfl) (ri (by unfold sp_told; rw [if_neg (by omega)])) rfl
    · rw [b01_ne] at hb23
      refine Ev.iload_n d_Mo_told_26 rfl ?_
      refine Ev.i2l d_Mo_told_27 (by omega) ?_
      refine Ev.lconst (x := 0) d_Mo_told_28 rfl ?_
      refine Ev.ldc2 (x := 2) d_Mo_told_29 kl_Mo_150 ?_
      refine Ev.callS d_Mo_told_32 mt_Mo_in lk_Mo_107 st_Mo_in rfl (Nat.le_of_ble_eq_true rfl) rfl (Nat.le_of_ble_eq_true rfl) (by decide) rfl (c_Mo_in (by omega) (by omega) (by omega)) ?_
      refine Ev.if_ne (tgt := 40) d_Mo_told_35 rfl b01_b (fun hb35 => ?_) (fun hb35 => ?_)
      · rw [b01_ne] at hb35
        obtain ⟨q1, q2, q3⟩ := At_get g3 s.toNat (by omega)
        rw [show ((s.toNat : Nat) : Int) = s by omega] at q1 q2 q3
        refine Ev.bipush d_Mo_told_40 rfl ?_
        refine Ev.iload_n d_Mo_told_42 rfl ?_
        refine Ev.imul d_Mo_told_43 ?_
        refine Ev.iload_n d_Mo_told_44 rfl ?_
        refine Ev.iadd d_Mo_told_45 ?_
        refine Ev.istore_4 d_Mo_told_46 rfl ?_
        refine Ev.iload_n d_Mo_told_48 rfl ?_
        refine Ev.if_ne (tgt := 62) d_Mo_told_49 rfl (by omega) (fun hb49 => ?_) (fun hb49 => ?_)
        · refine Ev.iload_n d_Mo_told_62 rfl ?_
          refine Ev.iconst d_Mo_told_63 ?_
          refine Ev.icmp_ne (tgt := 77) d_Mo_told_64 rfl (by omega) (by omega) (fun hb64 => ?_) (fun hb64 => ?_)
          · refine Ev.aload_n d_Mo_told_77 rfl ?_
            refine Ev.gr 5 d_Mo_told_78 lf_Mo_22 rfl rfl (is_57 hM) (by decide) (rf_57_5 hM) ?_
            refine Ev.iload d_Mo_told_81 rfl ?_
            refine Ev.iaload d_Mo_told_83 (is_62 hM) (by omega) ?_
            exact Ev.to (Ev.ireturn d_Mo_told_84 rfl) (ri (by unfold sp_told; rw [if_pos (by omega)]; (first | rw [if_pos (by omega)] | (rw [if_neg (by omega)]; first | rw [if_pos (by omega)] | rw [if_neg (by omega)])); (first | exact q1 | exact q2 | exact q3))) rfl
          · refine Ev.aload_n d_Mo_told_67 rfl ?_
            refine Ev.gr 4 d_Mo_told_68 lf_Mo_19 rfl rfl (is_57 hM) (by decide) (rf_57_4 hM) ?_
            refine Ev.iload d_Mo_told_71 rfl ?_
            refine Ev.iaload d_Mo_told_73 (is_61 hM) (by omega) ?_
            refine Ev.goto (tgt := 84) d_Mo_told_74 rfl ?_
            exact Ev.to (Ev.ireturn d_Mo_told_84 rfl) (ri (by unfold sp_told; rw [if_pos (by omega)]; (first | rw [if_pos (by omega)] | (rw [if_neg (by omega)]; first | rw [if_pos (by omega)] | rw [if_neg (by omega)])); (first | exact q1 | exact q2 | exact q3))) rfl
        · refine Ev.aload_n d_Mo_told_52 rfl ?_
          refine Ev.gr 3 d_Mo_told_53 lf_Mo_16 rfl rfl (is_57 hM) (by decide) (rf_57_3 hM) ?_
          refine Ev.iload d_Mo_told_56 rfl ?_
          refine Ev.iaload d_Mo_told_58 (is_60 hM) (by omega) ?_
          refine Ev.goto (tgt := 84) d_Mo_told_59 rfl ?_
          exact Ev.to (Ev.ireturn d_Mo_told_84 rfl) (ri (by unfold sp_told; rw [if_pos (by omega)]; (first | rw [if_pos (by omega)] | (rw [if_neg (by omega)]; first | rw [if_pos (by omega)] | rw [if_neg (by omega)])); (first | exact q1 | exact q2 | exact q3))) rfl
      · rw [b01_eq] at hb35
        refine Ev.iconst d_Mo_told_38 ?_
        exact Ev.to (Ev.ireturn d_Mo_told_39 rfl) (ri (by unfold sp_told; rw [if_neg (by omega)])) rfl
end
