/-! a walk over all spots is a walk over the sorted list of stairs -/
def gfold {α : Type} (G : Int → α → α) : List Int → α → α
  | [], a => a
  | s :: t, a => gfold G t (G s a)
def itn {α : Type} (g : α → α) : Nat → α → α
  | 0, a => a
  | n + 1, a => itn g n (g a)
def spf {α : Type} (F : Int → Int → α → α) (l : List Int) : Nat → Int → α → α
  | 0, _, a => a
  | q + 1, x, a => spf F l q (x + 1) (F x (cn x l) a)
theorem spl (x : Int) : ∀ l : List Int, l.Pairwise (· ≤ ·) → (∀ y ∈ l, x ≤ y) → ∃ (n : Nat) (r : List Int), l = List.replicate n x ++ r ∧ (∀ y ∈ r, x + 1 ≤ y) ∧ r.Pairwise (· ≤ ·)
  | [], _, _ => ⟨0, [], rfl, fun _ h => (by cases h), List.Pairwise.nil⟩
  | y :: t, hs, hx => by
    have h1 := List.pairwise_cons.mp hs
    by_cases e : y = x
    · obtain ⟨n, r, e1, e2, e3⟩ := spl x t h1.2 (fun z hz => hx z (List.mem_cons_of_mem _ hz))
      exact ⟨n + 1, r, by rw [e1, e]; rfl, e2, e3⟩
    · refine ⟨0, y :: t, rfl, fun z hz => ?_, hs⟩
      have hy := hx y List.mem_cons_self
      rcases List.mem_cons.mp hz with rfl | h
      · omega
      · have := h1.1 z h; omega
theorem cn_rep (x z : Int) (r : List Int) : ∀ n : Nat, cn z (List.replicate n x ++ r) = (if z = x then (n : Int) else 0) + cn z r
  | 0 => by simp
  | n + 1 => by
    rw [List.replicate_succ, List.cons_append]
    simp only [cn]
    rw [cn_rep x z r n]
    by_cases e : z = x
    · rw [if_pos e, if_pos e, if_pos e.symm]; omega
    · rw [if_neg e, if_neg e, if_neg (fun h => e h.symm)]; omega
theorem gfold_rep {α : Type} (G : Int → α → α) (x : Int) (r : List Int) : ∀ (n : Nat) (a : α), gfold G (List.replicate n x ++ r) a = gfold G r (itn (G x) n a)
  | 0, _ => rfl
  | n + 1, a => by
    rw [List.replicate_succ, List.cons_append]
    exact gfold_rep G x r n (G x a)
theorem spf_congr {α : Type} (F : Int → Int → α → α) {l r : List Int} : ∀ (q : Nat) (x : Int) (a : α), (∀ z, x ≤ z → cn z l = cn z r) → spf F l q x a = spf F r q x a
  | 0, _, _, _ => rfl
  | q + 1, x, a, h => by
    simp only [spf]
    rw [h x (by omega)]
    exact spf_congr F q (x + 1) _ (fun z hz => h z (by omega))
theorem cn_none {z : Int} {l : List Int} (h : ∀ y ∈ l, z + 1 ≤ y) : cn z l = 0 := cn_zero z l (fun y hy => by have := h y hy; omega)
theorem spf_fold {α : Type} (F : Int → Int → α → α) (G : Int → α → α) (hF : ∀ (x : Int) (n : Nat) (a : α), F x n a = itn (G x) n a) : ∀ (q : Nat) (x : Int) (l : List Int) (a : α), l.Pairwise (· ≤ ·) → (∀ y ∈ l, x ≤ y ∧ y < x + q) → spf F l q x a = gfold G l a
  | 0, x, l, a, _, hx => by
    have : l = [] := List.eq_nil_iff_forall_not_mem.mpr (fun y hy => by have := hx y hy; omega)
    rw [this]; rfl
  | q + 1, x, l, a, hs, hx => by
    obtain ⟨n, r, e1, e2, e3⟩ := spl x l hs (fun y hy => (hx y hy).1)
    have hc : cn x l = n := by rw [e1, cn_rep, if_pos rfl, cn_none e2]; omega
    simp only [spf]
    rw [hc, hF, spf_congr F q (x + 1) _ (r := r) (fun z hz => by rw [e1, cn_rep, if_neg (by omega)]; omega), spf_fold F G hF q (x + 1) r _ e3 (fun y hy => ?_), e1, gfold_rep]
    have h1 := e2 y hy
    have h2 := hx y (by rw [e1]; exact List.mem_append.mpr (Or.inr hy))
    omega
def ssl (l : List Int) (s : Int) : Nat → Int → Int → Int
  | 0, _, _ => -1
  | q + 1, x, c => if s < c + cn x l then x else ssl l s q (x + 1) (c + cn x l)
theorem ssl_congr {l r : List Int} {s : Int} : ∀ (q : Nat) (x c : Int), (∀ z, x ≤ z → cn z l = cn z r) → ssl l s q x c = ssl r s q x c
  | 0, _, _, _ => rfl
  | q + 1, x, c, h => by
    simp only [ssl]
    rw [h x (by omega), ssl_congr q (x + 1) _ (fun z hz => h z (by omega))]
theorem getD_rep (x : Int) (r : List Int) : ∀ (n k : Nat), (List.replicate n x ++ r).getD k 0 = if k < n then x else r.getD (k - n) 0
  | 0, k => by simp
  | n + 1, 0 => by simp [List.replicate_succ]
  | n + 1, k + 1 => by
    have := getD_rep x r n k
    rw [List.replicate_succ, List.cons_append]
    simp only [List.getD_cons_succ]
    rw [this]
    by_cases e : k < n
    · rw [if_pos e, if_pos (by omega)]
    · rw [if_neg e, if_neg (by omega), show k + 1 - (n + 1) = k - n by omega]
theorem ssl_get : ∀ (q : Nat) (x c s : Int) (l : List Int), l.Pairwise (· ≤ ·) → (∀ y ∈ l, x ≤ y ∧ y < x + q) → c ≤ s → s < c + l.length → ssl l s q x c = l.getD (s - c).toNat 0
  | 0, x, c, s, l, _, hx, h1, h2 => by
    have : l = [] := List.eq_nil_iff_forall_not_mem.mpr (fun y hy => by have := hx y hy; omega)
    rw [this] at h2
    simp only [List.length_nil] at h2
    omega
  | q + 1, x, c, s, l, hs, hx, h1, h2 => by
    obtain ⟨n, r, e1, e2, e3⟩ := spl x l hs (fun y hy => (hx y hy).1)
    have hc : cn x l = n := by rw [e1, cn_rep, if_pos rfl, cn_none e2]; omega
    have hl : l.length = n + r.length := by rw [e1, List.length_append, List.length_replicate]
    simp only [ssl]
    rw [hc, e1, getD_rep]
    by_cases h : s < c + n
    · rw [if_pos h, if_pos (by omega)]
    · rw [if_neg h, if_neg (by omega), ssl_congr q (x + 1) _ (r := r) (fun z hz => by rw [cn_rep, if_neg (by omega)]; omega), ssl_get q (x + 1) (c + n) s r e3 (fun y hy => ?_) (by omega) (by omega), show (s - c).toNat - n = (s - (c + n)).toNat by omega]
      have h1 := e2 y hy
      have h2 := hx y (by rw [e1]; exact List.mem_append.mpr (Or.inr hy))
      omega
/-- one stair more -/
def Adds (x : Int) (l l' : List Int) : Prop := l'.length = l.length + 1 ∧ (∀ s, cn s l' = cn s l + (if s = x then 1 else 0)) ∧ ∀ f, outL f l' = outL f l + oc f x
theorem Adds_cons (x : Int) (l : List Int) : Adds x l (x :: l) := ⟨rfl, fun s => by
  simp only [cn]
  by_cases e : s = x
  · rw [if_pos e, if_pos e.symm]; omega
  · rw [if_neg e, if_neg (fun h => e h.symm)]; omega, fun f => by simp only [outL]; omega⟩
theorem Adds_ins (x : Int) : ∀ l : List Int, Adds x l (ins x l)
  | [] => Adds_cons x []
  | y :: t => by
    by_cases e : y ≤ x
    · have e1 : ins x (y :: t) = y :: ins x t := by simp [ins, e]
      obtain ⟨h1, h2, h3⟩ := Adds_ins x t
      rw [e1]
      refine ⟨by simp only [List.length_cons]; omega, fun s => ?_, fun f => ?_⟩
      · simp only [cn]; rw [h2 s]; omega
      · simp only [outL]; rw [h3 f]; omega
    · have e1 : ins x (y :: t) = x :: y :: t := by simp [ins, e]
      rw [e1]
      exact Adds_cons x _
theorem Adds_del (x : Int) : ∀ l : List Int, x ∈ l → Adds x (del x l) l
  | [], h => by cases h
  | y :: t, h => by
    by_cases e : y = x
    · have e1 : del x (y :: t) = t := by simp [del, e]
      rw [e1, e]; exact Adds_cons x t
    · have e1 : del x (y :: t) = y :: del x t := by simp [del, e]
      have hx : x ∈ t := by
        rcases List.mem_cons.mp h with h | h
        · exact absurd h.symm e
        · exact h
      obtain ⟨h1, h2, h3⟩ := Adds_del x t hx
      rw [e1]
      refine ⟨by simp only [List.length_cons]; omega, fun s => ?_, fun f => ?_⟩
      · simp only [cn]; rw [h2 s]; omega
      · simp only [outL]; rw [h3 f]; omega
theorem cn_mem {x : Int} : ∀ {l : List Int}, x ∈ l ↔ 0 < cn x l
  | [] => by simp [cn]
  | y :: t => by
    have ih := cn_mem (x := x) (l := t)
    have := cn_b x t
    simp only [cn, List.mem_cons]
    by_cases e : y = x
    · rw [if_pos e]; constructor
      · intro _; omega
      · intro _; exact Or.inl e.symm
    · rw [if_neg e, Int.zero_add, ← ih]
      constructor
      · rintro (h | h)
        · exact absurd h.symm e
        · exact h
      · exact Or.inr
section
variable {σ : Sg} {m : Mm}
def spk (i j w : Int) : Nat → Int → Int
  | 0, _ => -1
  | q + 1, k => if pF k = i ∧ pT k = j then k * 4 + w - 1 else spk i j w q (k + 1)
theorem pF_b (k : Int) : 0 ≤ pF k ∧ pF k ≤ 2 := by unfold pF; split <;> (try split) <;> omega
theorem pT_b (k : Int) : 1 ≤ pT k ∧ pT k ≤ 3 := by unfold pT; repeat (split <;> try omega)
theorem spk_ok {i j w : Int} (hj : j ≤ 3) : spk i j w 6 0 = if 0 ≤ i ∧ i < j then spot i j w else -1 := by
  by_cases h : 0 ≤ i ∧ i < j
  · rw [if_pos h]
    rcases (show (i = 0 ∧ j = 1) ∨ (i = 0 ∧ j = 2) ∨ (i = 0 ∧ j = 3) ∨ (i = 1 ∧ j = 2) ∨ (i = 1 ∧ j = 3) ∨ (i = 2 ∧ j = 3) by omega) with ⟨rfl, rfl⟩ | ⟨rfl, rfl⟩ | ⟨rfl, rfl⟩ | ⟨rfl, rfl⟩ | ⟨rfl, rfl⟩ | ⟨rfl, rfl⟩ <;> simp [spk, pF, pT, spot, pairS]
  · rw [if_neg h]
    simp only [spk]
    rw [if_neg (by simp [pF, pT]; omega), if_neg (by simp [pF, pT]; omega), if_neg (by simp [pF, pT]; omega), if_neg (by simp [pF, pT]; omega), if_neg (by simp [pF, pT]; omega), if_neg (by simp [pF, pT]; omega)]
theorem lp_Pic_spotOf {a : Int} (hS : SR σ m) {i j w : Int} (h1 : -2147483648 ≤ i ∧ i ≤ 2147483647) (h2 : -2147483648 ≤ j ∧ j ≤ 2147483647) : ∀ (q : Nat) (k : Int), k + q = 6 → 0 ≤ k → Ev 2 m_Pic_spotOf 23 [some (vr a), some (vi i), some (vi j), some (vi w), some (vi k)] [] σ m (some (vi (spk i j w q k))) σ m
  | 0, k, hk, h0 => by
    simp only [spk]
    refine Ev.iload d_Pic_spotOf_23 rfl ?_
    refine Ev.bipush d_Pic_spotOf_25 rfl ?_
    refine Ev.icmp_ge (tgt := 65) d_Pic_spotOf_27 rfl (by first | omega | (simp [mu]; done) | (simp [mu]; omega)) (by first | omega | (simp [mu]; done) | (simp [mu]; omega)) (fun hb27 => ?_) (fun hb27 => by exfalso; first | omega | simp at hb27 | contradiction)
    refine Ev.iconst d_Pic_spotOf_65 ?_
    exact Ev.to (Ev.ireturn d_Pic_spotOf_66 rfl) rfl rfl
  | q + 1, k, hk, h0 => by
    have e1 := hS.2.2.1 k h0 (by omega)
    have e2 := hS.2.2.2 k h0 (by omega)
    have b1 := pF_b k
    have b2 := pT_b k
    by_cases hc : pF k = i ∧ pT k = j
    · have e : spk i j w (q + 1) k = k * 4 + w - 1 := if_pos hc
      rw [e]
      refine Ev.iload d_Pic_spotOf_23 rfl ?_
      refine Ev.bipush d_Pic_spotOf_25 rfl ?_
      refine Ev.icmp_ge (tgt := 65) d_Pic_spotOf_27 rfl (by first | omega | (simp [mu]; done) | (simp [mu]; omega)) (by first | omega | (simp [mu]; done) | (simp [mu]; omega)) (fun hb27 => by exfalso; first | omega | simp at hb27 | contradiction) (fun hb27 => ?_)
      refine Ev.getFN d_Pic_spotOf_30 lf_Pic_44 ?_
      refine Ev.iload d_Pic_spotOf_33 rfl ?_
      refine Ev.iaload d_Pic_spotOf_35 hS.1 (by first | omega | (simp [mu]; done) | (simp [mu]; omega)) ?_
      rw [e1]
      refine Ev.iload_n d_Pic_spotOf_36 rfl ?_
      refine Ev.icmp_ne (tgt := 59) d_Pic_spotOf_37 rfl (by first | omega | (simp [mu]; done) | (simp [mu]; omega)) (by first | omega | (simp [mu]; done) | (simp [mu]; omega)) (fun hb37 => by exfalso; first | omega | simp at hb37 | contradiction) (fun hb37 => ?_)
      refine Ev.getTN d_Pic_spotOf_40 lf_Pic_47 ?_
      refine Ev.iload d_Pic_spotOf_43 rfl ?_
      refine Ev.iaload d_Pic_spotOf_45 hS.2.1 (by first | omega | (simp [mu]; done) | (simp [mu]; omega)) ?_
      rw [e2]
      refine Ev.iload_n d_Pic_spotOf_46 rfl ?_
      refine Ev.icmp_ne (tgt := 59) d_Pic_spotOf_47 rfl (by first | omega | (simp [mu]; done) | (simp [mu]; omega)) (by first | omega | (simp [mu]; done) | (simp [mu]; omega)) (fun hb47 => by exfalso; first | omega | simp at hb47 | contradiction) (fun hb47 => ?_)
      refine Ev.iload d_Pic_spotOf_50 rfl ?_
      refine Ev.iconst d_Pic_spotOf_52 ?_
      refine Ev.imul d_Pic_spotOf_53 ?_
      refine Ev.iload_n d_Pic_spotOf_54 rfl ?_
      refine Ev.iadd d_Pic_spotOf_55 ?_
      refine Ev.iconst d_Pic_spotOf_56 ?_
      refine Ev.isub d_Pic_spotOf_57 ?_
      exact Ev.to (Ev.ireturn d_Pic_spotOf_58 rfl) rfl rfl
    · have e : spk i j w (q + 1) k = spk i j w q (k + 1) := if_neg hc
      rw [e]
      refine Ev.iload d_Pic_spotOf_23 rfl ?_
      refine Ev.bipush d_Pic_spotOf_25 rfl ?_
      refine Ev.icmp_ge (tgt := 65) d_Pic_spotOf_27 rfl (by first | omega | (simp [mu]; done) | (simp [mu]; omega)) (by first | omega | (simp [mu]; done) | (simp [mu]; omega)) (fun hb27 => by exfalso; first | omega | simp at hb27 | contradiction) (fun hb27 => ?_)
      refine Ev.getFN d_Pic_spotOf_30 lf_Pic_44 ?_
      refine Ev.iload d_Pic_spotOf_33 rfl ?_
      refine Ev.iaload d_Pic_spotOf_35 hS.1 (by first | omega | (simp [mu]; done) | (simp [mu]; omega)) ?_
      rw [e1]
      refine Ev.iload_n d_Pic_spotOf_36 rfl ?_
      refine Ev.icmp_ne (tgt := 59) d_Pic_spotOf_37 rfl (by first | omega | (simp [mu]; done) | (simp [mu]; omega)) (by first | omega | (simp [mu]; done) | (simp [mu]; omega)) (fun hb37 => ?_) (fun hb37 => ?_)
      · refine Ev.iinc_4 d_Pic_spotOf_59 rfl ?_
        refine Ev.goto (tgt := 23) d_Pic_spotOf_62 rfl ?_
        exact lp_Pic_spotOf hS h1 h2 q (k + 1) (by omega) (by omega)
      · refine Ev.getTN d_Pic_spotOf_40 lf_Pic_47 ?_
        refine Ev.iload d_Pic_spotOf_43 rfl ?_
        refine Ev.iaload d_Pic_spotOf_45 hS.2.1 (by first | omega | (simp [mu]; done) | (simp [mu]; omega)) ?_
        rw [e2]
        refine Ev.iload_n d_Pic_spotOf_46 rfl ?_
        refine Ev.icmp_ne (tgt := 59) d_Pic_spotOf_47 rfl (by first | omega | (simp [mu]; done) | (simp [mu]; omega)) (by first | omega | (simp [mu]; done) | (simp [mu]; omega)) (fun hb47 => ?_) (fun hb47 => by exfalso; first | omega | simp at hb47 | contradiction)
        refine Ev.iinc_4 d_Pic_spotOf_59 rfl ?_
        refine Ev.goto (tgt := 23) d_Pic_spotOf_62 rfl ?_
        exact lp_Pic_spotOf hS h1 h2 q (k + 1) (by omega) (by omega)
theorem c_Pic_spotOf (hS : SR σ m) {a d : Int} {l : List Int} (hP : PicS σ a) (hm : PicM m a d l) (hd : 1 ≤ d ∧ d ≤ 4) {i j w : Int} (h1 : -2147483648 ≤ i ∧ i ≤ 2147483647) (h2 : -2147483648 ≤ j ∧ j ≤ 2147483647) (h3 : -2147483648 ≤ w ∧ w ≤ 2147483647) : Call 2 m_Pic_spotOf [vr a, vi i, vi j, vi w] σ m (some (vi (if 0 ≤ i ∧ i < j ∧ j < d ∧ 1 ≤ w ∧ w ≤ 4 then spot i j w else -1))) σ m := by
  show Ev 2 m_Pic_spotOf 0 [some (vr a), some (vi i), some (vi j), some (vi w), none] [] σ m _ σ m
  have e0 := hm.1
  by_cases hc : (1 ≤ w ∧ w ≤ 4) ∧ 0 ≤ j ∧ j < d
  · have e : (if 0 ≤ i ∧ i < j ∧ j < d ∧ 1 ≤ w ∧ w ≤ 4 then spot i j w else -1) = spk i j w 6 0 := by
      rw [spk_ok (by omega)]
      by_cases h : 0 ≤ i ∧ i < j
      · rw [if_pos (by omega), if_pos h]
      · rw [if_neg (by omega), if_neg h]
    rw [e]
    refine Ev.iload_n d_Pic_spotOf_0 rfl ?_
    refine Ev.iconst d_Pic_spotOf_1 ?_
    refine Ev.icmp_lt (tgt := 18) d_Pic_spotOf_2 rfl (by first | omega | (simp [mu]; done) | (simp [mu]; omega)) (by first | omega | (simp [mu]; done) | (simp [mu]; omega)) (fun hb2 => by exfalso; first | omega | simp at hb2 | contradiction) (fun hb2 => ?_)
    refine Ev.iload_n d_Pic_spotOf_5 rfl ?_
    refine Ev.iconst d_Pic_spotOf_6 ?_
    refine Ev.icmp_gt (tgt := 18) d_Pic_spotOf_7 rfl (by first | omega | (simp [mu]; done) | (simp [mu]; omega)) (by first | omega | (simp [mu]; done) | (simp [mu]; omega)) (fun hb7 => by exfalso; first | omega | simp at hb7 | contradiction) (fun hb7 => ?_)
    refine Ev.aload_n d_Pic_spotOf_10 rfl ?_
    refine Ev.iload_n d_Pic_spotOf_11 rfl ?_
    refine Ev.callV d_Pic_spotOf_12 mt_Pic_hasFloor lk_Pic_41 in_Pic_hasFloor se_Pic_hasFloor rfl (Nat.le_of_ble_eq_true rfl) rfl (Nat.le_of_ble_eq_true rfl) (by decide) hP.2.1 (by decide) rfl rfl (c_Pic_hasFloor hP hm hd h2) ?_
    refine Ev.if_ne (tgt := 20) d_Pic_spotOf_15 rfl b01_b (fun hb15 => ?_) (fun hb15 => by exfalso; (first | rw [b01_ne] at hb15 | rw [b01_eq] at hb15); omega)
    rw [b01_ne] at hb15
    refine Ev.iconst d_Pic_spotOf_20 ?_
    refine Ev.istore_4 d_Pic_spotOf_21 rfl ?_
    exact lp_Pic_spotOf hS h1 h2 6 0 rfl (by decide)
  · rw [if_neg (by omega)]
    refine Ev.iload_n d_Pic_spotOf_0 rfl ?_
    refine Ev.iconst d_Pic_spotOf_1 ?_
    refine Ev.icmp_lt (tgt := 18) d_Pic_spotOf_2 rfl (by first | omega | (simp [mu]; done) | (simp [mu]; omega)) (by first | omega | (simp [mu]; done) | (simp [mu]; omega)) (fun hb2 => ?_) (fun hb2 => ?_)
    · refine Ev.iconst d_Pic_spotOf_18 ?_
      exact Ev.to (Ev.ireturn d_Pic_spotOf_19 rfl) rfl rfl
    · refine Ev.iload_n d_Pic_spotOf_5 rfl ?_
      refine Ev.iconst d_Pic_spotOf_6 ?_
      refine Ev.icmp_gt (tgt := 18) d_Pic_spotOf_7 rfl (by first | omega | (simp [mu]; done) | (simp [mu]; omega)) (by first | omega | (simp [mu]; done) | (simp [mu]; omega)) (fun hb7 => ?_) (fun hb7 => ?_)
      · refine Ev.iconst d_Pic_spotOf_18 ?_
        exact Ev.to (Ev.ireturn d_Pic_spotOf_19 rfl) rfl rfl
      · refine Ev.aload_n d_Pic_spotOf_10 rfl ?_
        refine Ev.iload_n d_Pic_spotOf_11 rfl ?_
        refine Ev.callV d_Pic_spotOf_12 mt_Pic_hasFloor lk_Pic_41 in_Pic_hasFloor se_Pic_hasFloor rfl (Nat.le_of_ble_eq_true rfl) rfl (Nat.le_of_ble_eq_true rfl) (by decide) hP.2.1 (by decide) rfl rfl (c_Pic_hasFloor hP hm hd h2) ?_
        refine Ev.if_ne (tgt := 20) d_Pic_spotOf_15 rfl b01_b (fun hb15 => by exfalso; (first | rw [b01_ne] at hb15 | rw [b01_eq] at hb15); omega) (fun hb15 => ?_)
        rw [b01_eq] at hb15
        refine Ev.iconst d_Pic_spotOf_18 ?_
        exact Ev.to (Ev.ireturn d_Pic_spotOf_19 rfl) rfl rfl
theorem lp_Pic_spotOfStair {a d : Int} {l : List Int} (hP : PicS σ a) (hm : PicM m a d l) (hl6 : l.length ≤ 6) {s : Int} (hs : 0 ≤ s ∧ s ≤ 6) : ∀ (q : Nat) (x c : Int), x + q = 24 → 0 ≤ x → 0 ≤ c ∧ c ≤ 6 * x → Ev 1 m_Pic_spotOfStair 18 [some (vr a), some (vi s), some (vi c), some (vi x)] [] σ m (some (vi (ssl l s q x c))) σ m
  | 0, x, c, hx, h0, hc => by
    simp only [ssl]
    refine Ev.iload_n d_Pic_spotOfStair_18 rfl ?_
    refine Ev.bipush d_Pic_spotOfStair_19 rfl ?_
    refine Ev.icmp_ge (tgt := 46) d_Pic_spotOfStair_21 rfl (by first | omega | (simp [mu]; done) | (simp [mu]; omega)) (by first | omega | (simp [mu]; done) | (simp [mu]; omega)) (fun hb21 => ?_) (fun hb21 => by exfalso; first | omega | simp at hb21 | contradiction)
    refine Ev.iconst d_Pic_spotOfStair_46 ?_
    exact Ev.to (Ev.ireturn d_Pic_spotOfStair_47 rfl) rfl rfl
  | q + 1, x, c, hx, h0, hc => by
    have e2 := hm.2.2.1 x h0 (by omega)
    have b := cn_b x l
    by_cases h : s < c + cn x l
    · have e : ssl l s (q + 1) x c = x := if_pos h
      rw [e]
      refine Ev.iload_n d_Pic_spotOfStair_18 rfl ?_
      refine Ev.bipush d_Pic_spotOfStair_19 rfl ?_
      refine Ev.icmp_ge (tgt := 46) d_Pic_spotOfStair_21 rfl (by first | omega | (simp [mu]; done) | (simp [mu]; omega)) (by first | omega | (simp [mu]; done) | (simp [mu]; omega)) (fun hb21 => by exfalso; first | omega | simp at hb21 | contradiction) (fun hb21 => ?_)
      refine Ev.iload_n d_Pic_spotOfStair_24 rfl ?_
      refine Ev.aload_n d_Pic_spotOfStair_25 rfl ?_
      refine Ev.gr 2 d_Pic_spotOfStair_26 lf_Pic_15 rfl rfl hP.2.1 (by decide) hP.2.2.2.2.1 ?_
      refine Ev.iload_n d_Pic_spotOfStair_29 rfl ?_
      refine Ev.iaload d_Pic_spotOfStair_30 hP.2.2.1 (by first | omega | (simp [mu]; done) | (simp [mu]; omega)) ?_
      rw [e2]
      refine Ev.iadd d_Pic_spotOfStair_31 ?_
      refine Ev.istore_2 d_Pic_spotOfStair_32 rfl ?_
      refine Ev.iload_n d_Pic_spotOfStair_33 rfl ?_
      refine Ev.iload_n d_Pic_spotOfStair_34 rfl ?_
      refine Ev.icmp_le (tgt := 40) d_Pic_spotOfStair_35 rfl (by first | omega | (simp [mu]; done) | (simp [mu]; omega)) (by first | omega | (simp [mu]; done) | (simp [mu]; omega)) (fun hb35 => by exfalso; first | omega | simp at hb35 | contradiction) (fun hb35 => ?_)
      refine Ev.iload_n d_Pic_spotOfStair_38 rfl ?_
      exact Ev.to (Ev.ireturn d_Pic_spotOfStair_39 rfl) rfl rfl
    · have e : ssl l s (q + 1) x c = ssl l s q (x + 1) (c + cn x l) := if_neg h
      rw [e]
      refine Ev.iload_n d_Pic_spotOfStair_18 rfl ?_
      refine Ev.bipush d_Pic_spotOfStair_19 rfl ?_
      refine Ev.icmp_ge (tgt := 46) d_Pic_spotOfStair_21 rfl (by first | omega | (simp [mu]; done) | (simp [mu]; omega)) (by first | omega | (simp [mu]; done) | (simp [mu]; omega)) (fun hb21 => by exfalso; first | omega | simp at hb21 | contradiction) (fun hb21 => ?_)
      refine Ev.iload_n d_Pic_spotOfStair_24 rfl ?_
      refine Ev.aload_n d_Pic_spotOfStair_25 rfl ?_
      refine Ev.gr 2 d_Pic_spotOfStair_26 lf_Pic_15 rfl rfl hP.2.1 (by decide) hP.2.2.2.2.1 ?_
      refine Ev.iload_n d_Pic_spotOfStair_29 rfl ?_
      refine Ev.iaload d_Pic_spotOfStair_30 hP.2.2.1 (by first | omega | (simp [mu]; done) | (simp [mu]; omega)) ?_
      rw [e2]
      refine Ev.iadd d_Pic_spotOfStair_31 ?_
      refine Ev.istore_2 d_Pic_spotOfStair_32 rfl ?_
      refine Ev.iload_n d_Pic_spotOfStair_33 rfl ?_
      refine Ev.iload_n d_Pic_spotOfStair_34 rfl ?_
      refine Ev.icmp_le (tgt := 40) d_Pic_spotOfStair_35 rfl (by first | omega | (simp [mu]; done) | (simp [mu]; omega)) (by first | omega | (simp [mu]; done) | (simp [mu]; omega)) (fun hb35 => ?_) (fun hb35 => by exfalso; first | omega | simp at hb35 | contradiction)
      refine Ev.iinc_3 d_Pic_spotOfStair_40 rfl ?_
      refine Ev.goto (tgt := 18) d_Pic_spotOfStair_43 rfl ?_
      exact lp_Pic_spotOfStair hP hm hl6 hs q (x + 1) _ (by omega) (by omega) (by omega)
theorem c_Pic_spotOfStair {a d : Int} {l : List Int} (hP : PicS σ a) (hm : PicM m a d l) (hK : PK d l) {s : Int} (h1 : -2147483648 ≤ s ∧ s ≤ 2147483647) : Call 1 m_Pic_spotOfStair [vr a, vi s] σ m (some (vi (if 0 ≤ s ∧ s < l.length then l.getD s.toNat 0 else -1))) σ m := by
  show Ev 1 m_Pic_spotOfStair 0 [some (vr a), some (vi s), none, none] [] σ m _ σ m
  have e1 := hm.2.1
  have h6 := hK.2.1
  by_cases hc : 0 ≤ s ∧ s < l.length
  · have e : (if 0 ≤ s ∧ s < l.length then l.getD s.toNat 0 else -1) = ssl l s 24 0 0 := by
      rw [if_pos hc, ssl_get 24 0 0 s l hK.2.2.1 (fun y hy => by have := hK.2.2.2 y hy; omega) hc.1 (by omega), Int.sub_zero]
    rw [e]
    refine Ev.iload_n d_Pic_spotOfStair_0 rfl ?_
    refine Ev.if_lt (tgt := 12) d_Pic_spotOfStair_1 rfl (by first | omega | (simp [mu]; done) | (simp [mu]; omega)) (fun hb1 => by exfalso; first | omega | simp at hb1 | contradiction) (fun hb1 => ?_)
    refine Ev.iload_n d_Pic_spotOfStair_4 rfl ?_
    refine Ev.aload_n d_Pic_spotOfStair_5 rfl ?_
    refine Ev.gf 1 d_Pic_spotOfStair_6 lf_Pic_26 rfl rfl hP.2.1 (by decide) ?_
    rw [e1]
    refine Ev.icmp_lt (tgt := 14) d_Pic_spotOfStair_9 rfl (by first | omega | (simp [mu]; done) | (simp [mu]; omega)) (by first | omega | (simp [mu]; done) | (simp [mu]; omega)) (fun hb9 => ?_) (fun hb9 => by exfalso; first | omega | simp at hb9 | contradiction)
    refine Ev.iconst d_Pic_spotOfStair_14 ?_
    refine Ev.istore_2 d_Pic_spotOfStair_15 rfl ?_
    refine Ev.iconst d_Pic_spotOfStair_16 ?_
    refine Ev.istore_3 d_Pic_spotOfStair_17 rfl ?_
    exact lp_Pic_spotOfStair hP hm h6 (by omega) 24 0 0 rfl (by decide) (by decide)
  · rw [if_neg hc]
    refine Ev.iload_n d_Pic_spotOfStair_0 rfl ?_
    refine Ev.if_lt (tgt := 12) d_Pic_spotOfStair_1 rfl (by first | omega | (simp [mu]; done) | (simp [mu]; omega)) (fun hb1 => ?_) (fun hb1 => ?_)
    · refine Ev.iconst d_Pic_spotOfStair_12 ?_
      exact Ev.to (Ev.ireturn d_Pic_spotOfStair_13 rfl) rfl rfl
    · refine Ev.iload_n d_Pic_spotOfStair_4 rfl ?_
      refine Ev.aload_n d_Pic_spotOfStair_5 rfl ?_
      refine Ev.gf 1 d_Pic_spotOfStair_6 lf_Pic_26 rfl rfl hP.2.1 (by decide) ?_
      rw [e1]
      refine Ev.icmp_lt (tgt := 14) d_Pic_spotOfStair_9 rfl (by first | omega | (simp [mu]; done) | (simp [mu]; omega)) (by first | omega | (simp [mu]; done) | (simp [mu]; omega)) (fun hb9 => by exfalso; first | omega | simp at hb9 | contradiction) (fun hb9 => ?_)
      refine Ev.iconst d_Pic_spotOfStair_12 ?_
      exact Ev.to (Ev.ireturn d_Pic_spotOfStair_13 rfl) rfl rfl
theorem c_Pic_amountAt {a d : Int} {l : List Int} (hP : PicS σ a) (hm : PicM m a d l) {s : Int} (hs : 0 ≤ s ∧ s < 24) : Call 1 m_Pic_amountAt [vr a, vi s] σ m (some (vi (cn s l))) σ m := by
  show Ev 1 m_Pic_amountAt 0 [some (vr a), some (vi s)] [] σ m _ σ m
  have e2 := hm.2.2.1 s hs.1 hs.2
  refine Ev.iload_n d_Pic_amountAt_0 rfl ?_
  refine Ev.if_lt (tgt := 19) d_Pic_amountAt_1 rfl (by first | omega | (simp [mu]; done) | (simp [mu]; omega)) (fun hb1 => by exfalso; first | omega | simp at hb1 | contradiction) (fun hb1 => ?_)
  refine Ev.iload_n d_Pic_amountAt_4 rfl ?_
  refine Ev.bipush d_Pic_amountAt_5 rfl ?_
  refine Ev.icmp_ge (tgt := 19) d_Pic_amountAt_7 rfl (by first | omega | (simp [mu]; done) | (simp [mu]; omega)) (by first | omega | (simp [mu]; done) | (simp [mu]; omega)) (fun hb7 => by exfalso; first | omega | simp at hb7 | contradiction) (fun hb7 => ?_)
  refine Ev.aload_n d_Pic_amountAt_10 rfl ?_
  refine Ev.gr 2 d_Pic_amountAt_11 lf_Pic_15 rfl rfl hP.2.1 (by decide) hP.2.2.2.2.1 ?_
  refine Ev.iload_n d_Pic_amountAt_14 rfl ?_
  refine Ev.iaload d_Pic_amountAt_15 hP.2.2.1 (by first | omega | (simp [mu]; done) | (simp [mu]; omega)) ?_
  rw [e2]
  refine Ev.goto (tgt := 20) d_Pic_amountAt_16 rfl ?_
  exact Ev.to (Ev.ireturn d_Pic_amountAt_20 rfl) rfl rfl
def chg (m : Mm) (a x by_ : Int) : Mm := mu (mu (mu (mu m (a + 1) x (m (a + 1) x + by_)) a 1 (m a 1 + by_)) (a + 2) (fS x) (m (a + 2) (fS x) + by_ * wS x)) (a + 2) (tS x) (m (a + 2) (tS x) - by_ * wS x)
theorem c_Pic_change (hS : SR σ m) {a x by_ : Int} (hP : PicS σ a) (hx : 0 ≤ x ∧ x < 24) : Call 2 m_Pic_change [vr a, vi x, vi by_] σ m none σ (chg m a x by_) := by
  show Ev 2 m_Pic_change 0 [some (vr a), some (vi x), some (vi by_)] [] σ m _ σ _
  have h3 := hP.1
  have bf := fS_b x
  have bt := tS_b x
  have hlt := fS_lt hx
  have hS1 : SR σ (mu (mu m (a + 1) x (m (a + 1) x + by_)) a 1 (m a 1 + by_)) := SR_fr hS (fun b j h => by rw [mu_a (by omega), mu_a (by omega)])
  have hS2 : SR σ (mu (mu (mu m (a + 1) x (m (a + 1) x + by_)) a 1 (m a 1 + by_)) (a + 2) (fS x) (m (a + 2) (fS x) + by_ * wS x)) := SR_fr hS1 (fun b j h => by rw [mu_a (by omega)])
  have e1 : mu m (a + 1) x (m (a + 1) x + by_) a 1 = m a 1 := mu_a (by omega)
  have e2 : mu (mu m (a + 1) x (m (a + 1) x + by_)) a 1 (m a 1 + by_) (a + 2) (fS x) = m (a + 2) (fS x) := by rw [mu_a (by omega), mu_a (by omega)]
  have e3 : mu (mu (mu m (a + 1) x (m (a + 1) x + by_)) a 1 (m a 1 + by_)) (a + 2) (fS x) (m (a + 2) (fS x) + by_ * wS x) (a + 2) (tS x) = m (a + 2) (tS x) := by rw [mu_n (Or.inr (by omega)), mu_a (by omega), mu_a (by omega)]
  refine Ev.iload_n d_Pic_change_0 rfl ?_
  refine Ev.if_lt (tgt := 10) d_Pic_change_1 rfl (by first | omega | (simp [mu]; done) | (simp [mu]; omega)) (fun hb1 => by exfalso; first | omega | simp at hb1 | contradiction) (fun hb1 => ?_)
  refine Ev.iload_n d_Pic_change_4 rfl ?_
  refine Ev.bipush d_Pic_change_5 rfl ?_
  refine Ev.icmp_lt (tgt := 11) d_Pic_change_7 rfl (by first | omega | (simp [mu]; done) | (simp [mu]; omega)) (by first | omega | (simp [mu]; done) | (simp [mu]; omega)) (fun hb7 => ?_) (fun hb7 => by exfalso; first | omega | simp at hb7 | contradiction)
  refine Ev.aload_n d_Pic_change_11 rfl ?_
  refine Ev.gr 2 d_Pic_change_12 lf_Pic_15 rfl rfl hP.2.1 (by decide) hP.2.2.2.2.1 ?_
  refine Ev.iload_n d_Pic_change_15 rfl ?_
  refine Ev.dup2 d_Pic_change_16 rfl rfl ?_
  refine Ev.iaload d_Pic_change_17 hP.2.2.1 (by first | omega | (simp [mu]; done) | (simp [mu]; omega)) ?_
  refine Ev.iload_n d_Pic_change_18 rfl ?_
  refine Ev.iadd d_Pic_change_19 ?_
  refine Ev.iastore d_Pic_change_20 hP.2.2.1 (by have := hP.1; omega) (by first | omega | (simp [mu]; done) | (simp [mu]; omega)) ?_
  refine Ev.aload_n d_Pic_change_21 rfl ?_
  refine Ev.dup d_Pic_change_22 rfl ?_
  refine Ev.gf 1 d_Pic_change_23 lf_Pic_26 rfl rfl hP.2.1 (by decide) ?_
  rw [e1]
  refine Ev.iload_n d_Pic_change_26 rfl ?_
  refine Ev.iadd d_Pic_change_27 ?_
  refine Ev.pf 1 d_Pic_change_28 lf_Pic_26 rfl rfl rfl rfl hP.2.1 (by decide) ?_
  refine Ev.aload_n d_Pic_change_31 rfl ?_
  refine Ev.gr 3 d_Pic_change_32 lf_Pic_19 rfl rfl hP.2.1 (by decide) hP.2.2.2.2.2 ?_
  refine Ev.iload_n d_Pic_change_35 rfl ?_
  refine Ev.callSN d_Pic_change_36 mt_FC_fromOf lk_Pic_54 st_FC_fromOf rfl (Nat.le_of_ble_eq_true rfl) rfl (Nat.le_of_ble_eq_true rfl) (by decide) rfl (c_FC_fromOf hS1 hx) ?_
  refine Ev.dup2 d_Pic_change_39 rfl rfl ?_
  refine Ev.iaload d_Pic_change_40 hP.2.2.2.1 (by first | omega | (simp [mu]; done) | (simp [mu]; omega)) ?_
  rw [e2]
  refine Ev.iload_n d_Pic_change_41 rfl ?_
  refine Ev.iload_n d_Pic_change_42 rfl ?_
  refine Ev.callSN d_Pic_change_43 mt_FC_weightOf lk_Pic_58 st_FC_weightOf rfl (Nat.le_of_ble_eq_true rfl) rfl (Nat.le_of_ble_eq_true rfl) (by decide) rfl (c_FC_weightOf hx) ?_
  refine Ev.imul d_Pic_change_46 ?_
  refine Ev.iadd d_Pic_change_47 ?_
  refine Ev.iastore d_Pic_change_48 hP.2.2.2.1 (by have := hP.1; omega) (by first | omega | (simp [mu]; done) | (simp [mu]; omega)) ?_
  refine Ev.aload_n d_Pic_change_49 rfl ?_
  refine Ev.gr 3 d_Pic_change_50 lf_Pic_19 rfl rfl hP.2.1 (by decide) hP.2.2.2.2.2 ?_
  refine Ev.iload_n d_Pic_change_53 rfl ?_
  refine Ev.callSN d_Pic_change_54 mt_FC_toOf lk_Pic_61 st_FC_toOf rfl (Nat.le_of_ble_eq_true rfl) rfl (Nat.le_of_ble_eq_true rfl) (by decide) rfl (c_FC_toOf hS2 hx) ?_
  refine Ev.dup2 d_Pic_change_57 rfl rfl ?_
  refine Ev.iaload d_Pic_change_58 hP.2.2.2.1 (by first | omega | (simp [mu]; done) | (simp [mu]; omega)) ?_
  rw [e3]
  refine Ev.iload_n d_Pic_change_59 rfl ?_
  refine Ev.iload_n d_Pic_change_60 rfl ?_
  refine Ev.callSN d_Pic_change_61 mt_FC_weightOf lk_Pic_58 st_FC_weightOf rfl (Nat.le_of_ble_eq_true rfl) rfl (Nat.le_of_ble_eq_true rfl) (by decide) rfl (c_FC_weightOf hx) ?_
  refine Ev.imul d_Pic_change_64 ?_
  refine Ev.isub d_Pic_change_65 ?_
  refine Ev.iastore d_Pic_change_66 hP.2.2.2.1 (by have := hP.1; omega) (by first | omega | (simp [mu]; done) | (simp [mu]; omega)) ?_
  exact Ev.to (Ev.return d_Pic_change_67 rfl) rfl rfl
theorem c_Pic_add (hS : SR σ m) {a d x : Int} {l l' : List Int} (hP : PicS σ a) (hm : PicM m a d l) (hx : 0 ≤ x ∧ x < 24) (hA : Adds x l l') : ∃ m', Call 3 m_Pic_add [vr a, vi x] σ m none σ m' ∧ PicM m' a d l' ∧ FrA a m m' := by
  have c := c_Pic_change hS (by_ := 1) hP hx
  have h3 := hP.1
  have bf := fS_b x
  have bt := tS_b x
  have hlt := fS_lt hx
  refine ⟨chg m a x 1, ?_, ⟨?_, ?_, fun s y z => ?_, fun f y z => ?_⟩, fun b j y z v => ?_⟩
  rotate_left
  all_goals unfold chg
  · rw [mu_a (by omega), mu_a (by omega), mu_n (by omega), mu_a (by omega)]; exact hm.1
  · rw [mu_a (by omega), mu_a (by omega), mu_s, hm.2.1, hA.1]; omega
  · rw [mu_a (by omega), mu_a (by omega), mu_a (by omega)]
    have := hA.2.1 s
    by_cases e : s = x
    · rw [e, mu_s, hm.2.2.1 x hx.1 hx.2]; rw [e, if_pos rfl] at this; omega
    · rw [mu_n (Or.inr e), hm.2.2.1 s y z]; rw [if_neg e] at this; omega
  · have := hA.2.2 f
    unfold oc at this
    by_cases e : f = tS x
    · rw [e, mu_s, hm.2.2.2 _ (by omega) (by omega)]
      rw [e, if_neg (by omega), if_pos rfl] at this; omega
    · rw [mu_n (Or.inr e)]
      by_cases e2 : f = fS x
      · rw [e2, mu_s, hm.2.2.2 _ (by omega) (by omega)]
        rw [e2, if_pos rfl] at this; omega
      · rw [mu_n (Or.inr e2), mu_a (by omega), mu_a (by omega), hm.2.2.2 f y z]
        rw [if_neg (by omega), if_neg (by omega)] at this; omega
  · rw [mu_a (by omega), mu_a (by omega), mu_a (by omega), mu_a (by omega)]
  show Ev 3 m_Pic_add 0 [some (vr a), some (vi x)] [] σ m _ σ _
  refine Ev.aload_n d_Pic_add_0 rfl ?_
  refine Ev.iload_n d_Pic_add_1 rfl ?_
  refine Ev.iconst d_Pic_add_2 ?_
  refine Ev.callVv d_Pic_add_3 mt_Pic_change lk_Pic_50 in_Pic_change se_Pic_change rfl (Nat.le_of_ble_eq_true rfl) rfl (Nat.le_of_ble_eq_true rfl) (by decide) hP.2.1 (by decide) rfl rfl c ?_
  exact Ev.to (Ev.return d_Pic_add_6 rfl) rfl rfl
theorem c_Pic_remove (hS : SR σ m) {a d x : Int} {l l' : List Int} (hP : PicS σ a) (hm : PicM m a d l) (hx : 0 ≤ x ∧ x < 24) (hA : Adds x l' l) : ∃ m', Call 3 m_Pic_remove [vr a, vi x] σ m none σ m' ∧ PicM m' a d l' ∧ FrA a m m' := by
  have c := c_Pic_change hS (by_ := (-1)) hP hx
  have h3 := hP.1
  have bf := fS_b x
  have bt := tS_b x
  have hlt := fS_lt hx
  refine ⟨chg m a x (-1), ?_, ⟨?_, ?_, fun s y z => ?_, fun f y z => ?_⟩, fun b j y z v => ?_⟩
  rotate_left
  all_goals unfold chg
  · rw [mu_a (by omega), mu_a (by omega), mu_n (by omega), mu_a (by omega)]; exact hm.1
  · rw [mu_a (by omega), mu_a (by omega), mu_s, hm.2.1, hA.1]; omega
  · rw [mu_a (by omega), mu_a (by omega), mu_a (by omega)]
    have := hA.2.1 s
    by_cases e : s = x
    · rw [e, mu_s, hm.2.2.1 x hx.1 hx.2]; rw [e, if_pos rfl] at this; omega
    · rw [mu_n (Or.inr e), hm.2.2.1 s y z]; rw [if_neg e] at this; omega
  · have := hA.2.2 f
    unfold oc at this
    by_cases e : f = tS x
    · rw [e, mu_s, hm.2.2.2 _ (by omega) (by omega)]
      rw [e, if_neg (by omega), if_pos rfl] at this; omega
    · rw [mu_n (Or.inr e)]
      by_cases e2 : f = fS x
      · rw [e2, mu_s, hm.2.2.2 _ (by omega) (by omega)]
        rw [e2, if_pos rfl] at this; omega
      · rw [mu_n (Or.inr e2), mu_a (by omega), mu_a (by omega), hm.2.2.2 f y z]
        rw [if_neg (by omega), if_neg (by omega)] at this; omega
  · rw [mu_a (by omega), mu_a (by omega), mu_a (by omega), mu_a (by omega)]
  show Ev 3 m_Pic_remove 0 [some (vr a), some (vi x)] [] σ m _ σ _
  refine Ev.aload_n d_Pic_remove_0 rfl ?_
  refine Ev.iload_n d_Pic_remove_1 rfl ?_
  refine Ev.iconst d_Pic_remove_2 ?_
  refine Ev.callVv d_Pic_remove_3 mt_Pic_change lk_Pic_50 in_Pic_change se_Pic_change rfl (Nat.le_of_ble_eq_true rfl) rfl (Nat.le_of_ble_eq_true rfl) (by decide) hP.2.1 (by decide) rfl rfl c ?_
  exact Ev.to (Ev.return d_Pic_remove_6 rfl) rfl rfl
theorem c_Pic_outOf {a d : Int} {l : List Int} (hP : PicS σ a) (hm : PicM m a d l) (hd : 1 ≤ d ∧ d ≤ 4) {f : Int} (hf : 0 ≤ f ∧ f < d) : Call 2 m_Pic_outOf [vr a, vi f] σ m (some (vi (outL f l))) σ m := by
  show Ev 2 m_Pic_outOf 0 [some (vr a), some (vi f)] [] σ m _ σ m
  have e2 := hm.2.2.2 f hf.1 (by omega)
  refine Ev.aload_n d_Pic_outOf_0 rfl ?_
  refine Ev.iload_n d_Pic_outOf_1 rfl ?_
  refine Ev.callV d_Pic_outOf_2 mt_Pic_hasFloor lk_Pic_41 in_Pic_hasFloor se_Pic_hasFloor rfl (Nat.le_of_ble_eq_true rfl) rfl (Nat.le_of_ble_eq_true rfl) (by decide) hP.2.1 (by decide) rfl rfl (c_Pic_hasFloor hP hm hd (by omega)) ?_
  refine Ev.if_eq (tgt := 22) d_Pic_outOf_5 rfl b01_b (fun hb5 => by exfalso; (first | rw [b01_ne] at hb5 | rw [b01_eq] at hb5); omega) (fun hb5 => ?_)
  rw [b01_ne] at hb5
  refine Ev.iload_n d_Pic_outOf_8 rfl ?_
  refine Ev.iconst d_Pic_outOf_9 ?_
  refine Ev.icmp_ge (tgt := 22) d_Pic_outOf_10 rfl (by first | omega | (simp [mu]; done) | (simp [mu]; omega)) (by first | omega | (simp [mu]; done) | (simp [mu]; omega)) (fun hb10 => by exfalso; first | omega | simp at hb10 | contradiction) (fun hb10 => ?_)
  refine Ev.aload_n d_Pic_outOf_13 rfl ?_
  refine Ev.gr 3 d_Pic_outOf_14 lf_Pic_19 rfl rfl hP.2.1 (by decide) hP.2.2.2.2.2 ?_
  refine Ev.iload_n d_Pic_outOf_17 rfl ?_
  refine Ev.iaload d_Pic_outOf_18 hP.2.2.2.1 (by first | omega | (simp [mu]; done) | (simp [mu]; omega)) ?_
  rw [e2]
  refine Ev.goto (tgt := 23) d_Pic_outOf_19 rfl ?_
  exact Ev.to (Ev.ireturn d_Pic_outOf_23 rfl) rfl rfl
theorem lp_Pic_isRight {a d : Int} {l : List Int} (hP : PicS σ a) (hm : PicM m a d l) (hK : PK d l) : ∀ (n : Nat) (f : Int), f + n = d → 0 ≤ f → Ev 3 m_Pic_isRight 2 [some (vr a), some (vi f)] [] σ m (some (vi (b01 (rgt l n f = true)))) σ m
  | 0, f, hf, h0 => by
    have e0 := hm.1
    have hd := hK.1
    refine Ev.iload_n d_Pic_isRight_2 rfl ?_
    refine Ev.aload_n d_Pic_isRight_3 rfl ?_
    refine Ev.gf 0 d_Pic_isRight_4 lf_Pic_9 rfl rfl hP.2.1 (by decide) ?_
    rw [e0]
    refine Ev.icmp_ge (tgt := 27) d_Pic_isRight_7 rfl (by first | omega | (simp [mu]; done) | (simp [mu]; omega)) (by first | omega | (simp [mu]; done) | (simp [mu]; omega)) (fun hb7 => ?_) (fun hb7 => by exfalso; first | omega | simp at hb7 | contradiction)
    refine Ev.iconst d_Pic_isRight_27 ?_
    exact Ev.to (Ev.zreturn d_Pic_isRight_28 rfl (by first | omega | exact b01_01)) (r1 (by simp [rgt])) rfl
  | n + 1, f, hf, h0 => by
    have e0 := hm.1
    have hd := hK.1
    have h6 := hK.2.1
    have hb := outL_b f l
    by_cases hc : outL f l ≤ 1
    · have e : rgt l (n + 1) f = rgt l n (f + 1) := by simp only [rgt]; rw [decide_eq_true hc, Bool.true_and]
      rw [e]
      refine Ev.iload_n d_Pic_isRight_2 rfl ?_
      refine Ev.aload_n d_Pic_isRight_3 rfl ?_
      refine Ev.gf 0 d_Pic_isRight_4 lf_Pic_9 rfl rfl hP.2.1 (by decide) ?_
      rw [e0]
      refine Ev.icmp_ge (tgt := 27) d_Pic_isRight_7 rfl (by first | omega | (simp [mu]; done) | (simp [mu]; omega)) (by first | omega | (simp [mu]; done) | (simp [mu]; omega)) (fun hb7 => by exfalso; first | omega | simp at hb7 | contradiction) (fun hb7 => ?_)
      refine Ev.aload_n d_Pic_isRight_10 rfl ?_
      refine Ev.iload_n d_Pic_isRight_11 rfl ?_
      refine Ev.callV d_Pic_isRight_12 mt_Pic_outOf lk_Pic_64 in_Pic_outOf se_Pic_outOf rfl (Nat.le_of_ble_eq_true rfl) rfl (Nat.le_of_ble_eq_true rfl) (by decide) hP.2.1 (by decide) rfl rfl (c_Pic_outOf hP hm hd (by omega)) ?_
      refine Ev.iconst d_Pic_isRight_15 ?_
      refine Ev.icmp_le (tgt := 21) d_Pic_isRight_16 rfl (by first | omega | (simp [mu]; done) | (simp [mu]; omega)) (by first | omega | (simp [mu]; done) | (simp [mu]; omega)) (fun hb16 => ?_) (fun hb16 => by exfalso; first | omega | simp at hb16 | contradiction)
      refine Ev.iinc_1 d_Pic_isRight_21 rfl ?_
      refine Ev.goto (tgt := 2) d_Pic_isRight_24 rfl ?_
      exact lp_Pic_isRight hP hm hK n (f + 1) (by omega) (by omega)
    · have e : rgt l (n + 1) f = false := by simp only [rgt]; rw [decide_eq_false hc, Bool.false_and]
      rw [e]
      refine Ev.iload_n d_Pic_isRight_2 rfl ?_
      refine Ev.aload_n d_Pic_isRight_3 rfl ?_
      refine Ev.gf 0 d_Pic_isRight_4 lf_Pic_9 rfl rfl hP.2.1 (by decide) ?_
      rw [e0]
      refine Ev.icmp_ge (tgt := 27) d_Pic_isRight_7 rfl (by first | omega | (simp [mu]; done) | (simp [mu]; omega)) (by first | omega | (simp [mu]; done) | (simp [mu]; omega)) (fun hb7 => by exfalso; first | omega | simp at hb7 | contradiction) (fun hb7 => ?_)
      refine Ev.aload_n d_Pic_isRight_10 rfl ?_
      refine Ev.iload_n d_Pic_isRight_11 rfl ?_
      refine Ev.callV d_Pic_isRight_12 mt_Pic_outOf lk_Pic_64 in_Pic_outOf se_Pic_outOf rfl (Nat.le_of_ble_eq_true rfl) rfl (Nat.le_of_ble_eq_true rfl) (by decide) hP.2.1 (by decide) rfl rfl (c_Pic_outOf hP hm hd (by omega)) ?_
      refine Ev.iconst d_Pic_isRight_15 ?_
      refine Ev.icmp_le (tgt := 21) d_Pic_isRight_16 rfl (by first | omega | (simp [mu]; done) | (simp [mu]; omega)) (by first | omega | (simp [mu]; done) | (simp [mu]; omega)) (fun hb16 => by exfalso; first | omega | simp at hb16 | contradiction) (fun hb16 => ?_)
      refine Ev.iconst d_Pic_isRight_19 ?_
      exact Ev.to (Ev.zreturn d_Pic_isRight_20 rfl (by first | omega | exact b01_01)) rfl rfl
theorem c_Pic_isRight {a d : Int} {l : List Int} (hP : PicS σ a) (hm : PicM m a d l) (hK : PK d l) : Call 3 m_Pic_isRight [vr a] σ m (some (vi (b01 (rgt l d.toNat 0 = true)))) σ m := by
  have hd := hK.1
  show Ev 3 m_Pic_isRight 0 [some (vr a), none] [] σ m _ σ m
  refine Ev.iconst d_Pic_isRight_0 ?_
  refine Ev.istore_1 d_Pic_isRight_1 rfl ?_
  exact lp_Pic_isRight hP hm hK d.toNat 0 (by omega) (by decide)
theorem lp_Pic_isRightTurned {a d : Int} {l : List Int} (hP : PicS σ a) (hm : PicM m a d l) (hK : PK d l) : ∀ (n : Nat) (f : Int), f + n = d → 0 ≤ f → Ev 3 m_Pic_isRightTurned 2 [some (vr a), some (vi f)] [] σ m (some (vi (b01 (trn l n f = true)))) σ m
  | 0, f, hf, h0 => by
    have e0 := hm.1
    have hd := hK.1
    refine Ev.iload_n d_Pic_isRightTurned_2 rfl ?_
    refine Ev.aload_n d_Pic_isRightTurned_3 rfl ?_
    refine Ev.gf 0 d_Pic_isRightTurned_4 lf_Pic_9 rfl rfl hP.2.1 (by decide) ?_
    rw [e0]
    refine Ev.icmp_ge (tgt := 27) d_Pic_isRightTurned_7 rfl (by first | omega | (simp [mu]; done) | (simp [mu]; omega)) (by first | omega | (simp [mu]; done) | (simp [mu]; omega)) (fun hb7 => ?_) (fun hb7 => by exfalso; first | omega | simp at hb7 | contradiction)
    refine Ev.iconst d_Pic_isRightTurned_27 ?_
    exact Ev.to (Ev.zreturn d_Pic_isRightTurned_28 rfl (by first | omega | exact b01_01)) (r1 (by simp [trn])) rfl
  | n + 1, f, hf, h0 => by
    have e0 := hm.1
    have hd := hK.1
    have h6 := hK.2.1
    have hb := outL_b f l
    by_cases hc : -1 ≤ outL f l
    · have e : trn l (n + 1) f = trn l n (f + 1) := by simp only [trn]; rw [decide_eq_true hc, Bool.true_and]
      rw [e]
      refine Ev.iload_n d_Pic_isRightTurned_2 rfl ?_
      refine Ev.aload_n d_Pic_isRightTurned_3 rfl ?_
      refine Ev.gf 0 d_Pic_isRightTurned_4 lf_Pic_9 rfl rfl hP.2.1 (by decide) ?_
      rw [e0]
      refine Ev.icmp_ge (tgt := 27) d_Pic_isRightTurned_7 rfl (by first | omega | (simp [mu]; done) | (simp [mu]; omega)) (by first | omega | (simp [mu]; done) | (simp [mu]; omega)) (fun hb7 => by exfalso; first | omega | simp at hb7 | contradiction) (fun hb7 => ?_)
      refine Ev.aload_n d_Pic_isRightTurned_10 rfl ?_
      refine Ev.iload_n d_Pic_isRightTurned_11 rfl ?_
      refine Ev.callV d_Pic_isRightTurned_12 mt_Pic_outOf lk_Pic_64 in_Pic_outOf se_Pic_outOf rfl (Nat.le_of_ble_eq_true rfl) rfl (Nat.le_of_ble_eq_true rfl) (by decide) hP.2.1 (by decide) rfl rfl (c_Pic_outOf hP hm hd (by omega)) ?_
      refine Ev.iconst d_Pic_isRightTurned_15 ?_
      refine Ev.icmp_ge (tgt := 21) d_Pic_isRightTurned_16 rfl (by first | omega | (simp [mu]; done) | (simp [mu]; omega)) (by first | omega | (simp [mu]; done) | (simp [mu]; omega)) (fun hb16 => ?_) (fun hb16 => by exfalso; first | omega | simp at hb16 | contradiction)
      refine Ev.iinc_1 d_Pic_isRightTurned_21 rfl ?_
      refine Ev.goto (tgt := 2) d_Pic_isRightTurned_24 rfl ?_
      exact lp_Pic_isRightTurned hP hm hK n (f + 1) (by omega) (by omega)
    · have e : trn l (n + 1) f = false := by simp only [trn]; rw [decide_eq_false hc, Bool.false_and]
      rw [e]
      refine Ev.iload_n d_Pic_isRightTurned_2 rfl ?_
      refine Ev.aload_n d_Pic_isRightTurned_3 rfl ?_
      refine Ev.gf 0 d_Pic_isRightTurned_4 lf_Pic_9 rfl rfl hP.2.1 (by decide) ?_
      rw [e0]
      refine Ev.icmp_ge (tgt := 27) d_Pic_isRightTurned_7 rfl (by first | omega | (simp [mu]; done) | (simp [mu]; omega)) (by first | omega | (simp [mu]; done) | (simp [mu]; omega)) (fun hb7 => by exfalso; first | omega | simp at hb7 | contradiction) (fun hb7 => ?_)
      refine Ev.aload_n d_Pic_isRightTurned_10 rfl ?_
      refine Ev.iload_n d_Pic_isRightTurned_11 rfl ?_
      refine Ev.callV d_Pic_isRightTurned_12 mt_Pic_outOf lk_Pic_64 in_Pic_outOf se_Pic_outOf rfl (Nat.le_of_ble_eq_true rfl) rfl (Nat.le_of_ble_eq_true rfl) (by decide) hP.2.1 (by decide) rfl rfl (c_Pic_outOf hP hm hd (by omega)) ?_
      refine Ev.iconst d_Pic_isRightTurned_15 ?_
      refine Ev.icmp_ge (tgt := 21) d_Pic_isRightTurned_16 rfl (by first | omega | (simp [mu]; done) | (simp [mu]; omega)) (by first | omega | (simp [mu]; done) | (simp [mu]; omega)) (fun hb16 => by exfalso; first | omega | simp at hb16 | contradiction) (fun hb16 => ?_)
      refine Ev.iconst d_Pic_isRightTurned_19 ?_
      exact Ev.to (Ev.zreturn d_Pic_isRightTurned_20 rfl (by first | omega | exact b01_01)) rfl rfl
theorem c_Pic_isRightTurned {a d : Int} {l : List Int} (hP : PicS σ a) (hm : PicM m a d l) (hK : PK d l) : Call 3 m_Pic_isRightTurned [vr a] σ m (some (vi (b01 (trn l d.toNat 0 = true)))) σ m := by
  have hd := hK.1
  show Ev 3 m_Pic_isRightTurned 0 [some (vr a), none] [] σ m _ σ m
  refine Ev.iconst d_Pic_isRightTurned_0 ?_
  refine Ev.istore_1 d_Pic_isRightTurned_1 rfl ?_
  exact lp_Pic_isRightTurned hP hm hK d.toNat 0 (by omega) (by decide)
theorem c_Pic_knots {a d : Int} {l : List Int} (hP : PicS σ a) (hm : PicM m a d l) (hK : PK d l) : Call 1 m_Pic_knots [vr a] σ m (some (vi (d * (d - 1) / 2 - l.length))) σ m := by
  show Ev 1 m_Pic_knots 0 [some (vr a)] [] σ m _ σ m
  have e0 := hm.1
  have e1 := hm.2.1
  have hd := hK.1
  have h6 := hK.2.1
  have hdd : 0 ≤ d * (d - 1) ∧ d * (d - 1) ≤ 12 := by rcases (show d = 1 ∨ d = 2 ∨ d = 3 ∨ d = 4 by omega) with rfl | rfl | rfl | rfl <;> decide
  refine Ev.aload_n d_Pic_knots_0 rfl ?_
  refine Ev.gf 0 d_Pic_knots_1 lf_Pic_9 rfl rfl hP.2.1 (by decide) ?_
  rw [e0]
  refine Ev.aload_n d_Pic_knots_4 rfl ?_
  refine Ev.gf 0 d_Pic_knots_5 lf_Pic_9 rfl rfl hP.2.1 (by decide) ?_
  rw [e0]
  refine Ev.iconst d_Pic_knots_8 ?_
  refine Ev.isub d_Pic_knots_9 ?_
  refine Ev.imul d_Pic_knots_10 ?_
  refine Ev.iconst d_Pic_knots_11 ?_
  refine Ev.idiv d_Pic_knots_12 (by first | omega | (simp [mu]; done) | (simp [mu]; omega)) (by first | omega | (simp [mu]; done) | (simp [mu]; omega)) ?_
  refine Ev.aload_n d_Pic_knots_13 rfl ?_
  refine Ev.gf 1 d_Pic_knots_14 lf_Pic_26 rfl rfl hP.2.1 (by decide) ?_
  rw [e1]
  refine Ev.isub d_Pic_knots_17 ?_
  exact Ev.to (Ev.ireturn d_Pic_knots_18 rfl) (ri (by first | rfl | (rw [Int.tdiv_eq_ediv_of_nonneg (by omega)]))) rfl
end
