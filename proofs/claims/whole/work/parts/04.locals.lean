section
variable {d : Nat} {M : Md} {pc : Nat} {L : List (Option AV)} {st : List AV} {σ σ' : Sg} {m m' : Mm} {r : Option AV}
/-- storing one slot: a long that would be cut is forgotten -/
def q_nl (x : Option (Option AV)) : Bool := match x with
  | some (some (.inr (.inl _))) => false
  | _ => true
def q_prs (A : Int → Nat) (L : List (Option AV)) : List (Nat × Value) := (List.range L.length).filterMap (fun i => match L[i]? with
  | some (some v) => some (i, q_cv A v)
  | _ => none)
theorem q_prs_in {A : Int → Nat} {L : List (Option AV)} {i : Nat} {v : AV} (h : L[i]? = some (some v)) : (i, q_cv A v) ∈ q_prs A L := by
  refine List.mem_filterMap.mpr ⟨i, List.mem_range.mpr (List.getElem?_eq_some_iff.mp h).1, ?_⟩
  rw [h]
theorem q_prs_has {A : Int → Nat} {L : List (Option AV)} {ls : Array Slot} (h : q_LR A L ls) : lv_has ls L.length (q_prs A L) := by
  refine ⟨h.1, h.2.1, fun q hq => ?_⟩
  obtain ⟨i, -, hi⟩ := List.mem_filterMap.mp hq
  cases hL : L[i]? with
  | none => rw [hL] at hi; cases hi
  | some x =>
    cases x with
    | none => rw [hL] at hi; cases hi
    | some v =>
      rw [hL] at hi
      cases hi
      exact h.2.2 i v hL
theorem q_LR1 {A : Int → Nat} {L : List (Option AV)} {i : Nat} {v : AV} {ls : Array Slot} (hn : ∀ j, j + 1 = i → q_nl L[j]? = true) (h : lv_has ls L.length ((i, q_cv A v) :: (q_prs A L).filter (fun q => !(q.1 == i) && !(q.1 + 1 == i && q.2.category == 2)))) : q_LR A (L.set i (some v)) ls := by
  refine ⟨by rw [List.length_set]; exact h.1, h.2.1, fun j u hj => ?_⟩
  by_cases hji : i = j
  · subst hji
    by_cases hl : i < L.length
    · rw [List.getElem?_set_self hl] at hj
      cases hj
      exact h.2.2 _ List.mem_cons_self
    · rw [List.getElem?_eq_none (by rw [List.length_set]; omega)] at hj
      cases hj
  · rw [List.getElem?_set_ne hji] at hj
    refine h.2.2 (j, q_cv A u) (List.mem_cons_of_mem _ (List.mem_filter.mpr ⟨q_prs_in hj, ?_⟩))
    have hc : j + 1 = i → (q_cv A u).category ≠ 2 := by
      intro e
      have := hn j e
      rw [hj] at this
      rw [q_cat_eq]
      rcases u with x | x | x
      · simp [q_cat]
      · simp [q_nl] at this
      · simp [q_cat]
    simp only [Bool.and_eq_true, Bool.not_eq_true', beq_eq_false_iff_ne, ne_eq, Bool.and_eq_false_iff]
    refine ⟨fun e => hji e.symm, ?_⟩
    by_cases e : j + 1 = i
    · exact Or.inr (hc e)
    · exact Or.inl e
theorem q_LR2 {A : Int → Nat} {L : List (Option AV)} {i : Nat} {v : AV} {ls : Array Slot} (hn : ∀ j, j + 1 = i → q_nl L[j]? = true) (h : lv_has ls L.length ((i, q_cv A v) :: (q_prs A L).filter (fun q => !(q.1 == i) && (!(q.1 == i + 1) && !(q.1 + 1 == i && q.2.category == 2))))) : q_LR A ((L.set i (some v)).set (i + 1) none) ls := by
  refine ⟨by rw [List.length_set, List.length_set]; exact h.1, h.2.1, fun j u hj => ?_⟩
  by_cases hj1 : i + 1 = j
  · subst hj1
    by_cases hl : i + 1 < (L.set i (some v)).length
    · rw [List.getElem?_set_self hl] at hj
      cases hj
    · rw [List.getElem?_eq_none (by rw [List.length_set]; omega)] at hj
      cases hj
  rw [List.getElem?_set_ne hj1] at hj
  by_cases hji : i = j
  · subst hji
    by_cases hl : i < L.length
    · rw [List.getElem?_set_self hl] at hj
      cases hj
      exact h.2.2 _ List.mem_cons_self
    · rw [List.getElem?_eq_none (by rw [List.length_set]; omega)] at hj
      cases hj
  · rw [List.getElem?_set_ne hji] at hj
    refine h.2.2 (j, q_cv A u) (List.mem_cons_of_mem _ (List.mem_filter.mpr ⟨q_prs_in hj, ?_⟩))
    have hc : j + 1 = i → (q_cv A u).category ≠ 2 := by
      intro e
      have := hn j e
      rw [hj] at this
      rw [q_cat_eq]
      rcases u with x | x | x
      · simp [q_cat]
      · simp [q_nl] at this
      · simp [q_cat]
    simp only [Bool.and_eq_true, Bool.not_eq_true', beq_eq_false_iff_ne, ne_eq, Bool.and_eq_false_iff]
    refine ⟨fun e => hji e.symm, fun e => hj1 e.symm, ?_⟩
    by_cases e : j + 1 = i
    · exact Or.inr (hc e)
    · exact Or.inl e
theorem Ev.liftL {pc2 : Nat} {L2 : List (Option AV)} {st2 : List AV} (h : ∀ {A : Int → Nat} {p : Program} {l : Launch} {e : Env} {R : Room} {s : State} {mi : MethodId} {args : Array Value} {below : List Frame} {meth : Method} {c : Code} {H : Heap} {locs : List Loc} {cells slots : Nat} {Q : State → Prop} {ls : Array Slot}, p.tables.exec = Jvm.exec → c.code = M.2.1 → q_LR A L ls → (∀ ls' : Array Slot, q_LR A L2 ls' → W p l e R s mi args below meth c H locs cells slots Q (F0 mi pc2 ls' (st2.map (q_cv A)))) → W p l e R s mi args below meth c H locs cells slots Q (F0 mi pc ls (st.map (q_cv A)))) (k : Ev d M pc2 L2 st2 σ m r σ' m') : Ev d M pc L st σ m r σ' m' :=
  ⟨k.1, fun l s0 b pf pt D hG p e R s mi args below meth c n0 k0 hC h1 h2 h3 h4 H locs ls hH hf hl => h hC.1 hC.2.1 hl (fun ls' hl' => k.2 l s0 b pf pt D hG p e R s mi args below meth c n0 k0 hC h1 h2 h3 h4 H locs ls' hH hf hl')⟩
theorem Ev.istore_n0 {k : Fin 4} {i : Nat} {x : Int} (hd : decode M.2.1 pc = .ok (.istore_n k, 1)) (hi : (k : Nat) = i) (hL : i < L.length) (hn : ∀ j, j + 1 = i → q_nl L[j]? = true) (kk : Ev d M (pc + 1) (L.set i (some (vi x))) st σ m r σ' m') : Ev d M pc L (vi x :: st) σ m r σ' m' :=
  Ev.liftL (fun hX hb hl k => lv_istore_n hX hb hd hi (q_prs_has hl) hL rfl (fun ls' h => k ls' (q_LR1 (v := vi x) hn h))) kk
theorem Ev.istore0 {i : Nat} {x : Int} (hd : decode M.2.1 pc = .ok (.istore i, 2)) (hL : i < L.length) (hn : ∀ j, j + 1 = i → q_nl L[j]? = true) (kk : Ev d M (pc + 2) (L.set i (some (vi x))) st σ m r σ' m') : Ev d M pc L (vi x :: st) σ m r σ' m' :=
  Ev.liftL (fun hX hb hl k => lv_istore hX hb hd (q_prs_has hl) hL rfl (fun ls' h => k ls' (q_LR1 (v := vi x) hn h))) kk
theorem Ev.astore_n0 {k : Fin 4} {i : Nat} {x : Int} (hd : decode M.2.1 pc = .ok (.astore_n k, 1)) (hi : (k : Nat) = i) (hL : i < L.length) (hn : ∀ j, j + 1 = i → q_nl L[j]? = true) (kk : Ev d M (pc + 1) (L.set i (some (vr x))) st σ m r σ' m') : Ev d M pc L (vr x :: st) σ m r σ' m' := by
  refine Ev.liftL (fun {A} {p l e R s mi args below meth c H locs cells slots Q ls} hX hb hl k => ?_) kk
  have e1 : ∀ ls', lv_has ls' L.length ((i, q_cv A (vr x)) :: (q_prs A L).filter (fun q => !(q.1 == i) && !(q.1 + 1 == i && q.2.category == 2))) → W p l e R s mi args below meth c H locs cells slots Q (F0 mi (pc + 1) ls' (st.map (q_cv A))) := fun ls' h => k ls' (q_LR1 (v := vr x) hn h)
  simp only [List.map_cons]
  simp only [q_cv] at e1 ⊢
  by_cases h : x < 0
  · rw [if_pos h]
    simp only [if_pos h] at e1
    exact lv_astore_nN hX hb hd hi (q_prs_has hl) hL rfl e1
  · rw [if_neg h]
    simp only [if_neg h] at e1
    exact lv_astore_n hX hb hd hi (q_prs_has hl) hL rfl e1
theorem Ev.astore0 {i : Nat} {x : Int} (hd : decode M.2.1 pc = .ok (.astore i, 2)) (hL : i < L.length) (hn : ∀ j, j + 1 = i → q_nl L[j]? = true) (kk : Ev d M (pc + 2) (L.set i (some (vr x))) st σ m r σ' m') : Ev d M pc L (vr x :: st) σ m r σ' m' := by
  refine Ev.liftL (fun {A} {p l e R s mi args below meth c H locs cells slots Q ls} hX hb hl k => ?_) kk
  have e1 : ∀ ls', lv_has ls' L.length ((i, q_cv A (vr x)) :: (q_prs A L).filter (fun q => !(q.1 == i) && !(q.1 + 1 == i && q.2.category == 2))) → W p l e R s mi args below meth c H locs cells slots Q (F0 mi (pc + 2) ls' (st.map (q_cv A))) := fun ls' h => k ls' (q_LR1 (v := vr x) hn h)
  simp only [List.map_cons]
  simp only [q_cv] at e1 ⊢
  by_cases h : x < 0
  · rw [if_pos h]
    simp only [if_pos h] at e1
    exact lv_astoreN hX hb hd (q_prs_has hl) hL rfl e1
  · rw [if_neg h]
    simp only [if_neg h] at e1
    exact lv_astore hX hb hd (q_prs_has hl) hL rfl e1
theorem Ev.lstore_n0 {k : Fin 4} {i : Nat} {x : Int} (hd : decode M.2.1 pc = .ok (.lstore_n k, 1)) (hi : (k : Nat) = i) (hL : i + 1 < L.length) (hn : ∀ j, j + 1 = i → q_nl L[j]? = true) (kk : Ev d M (pc + 1) ((L.set i (some (vl x))).set (i + 1) none) st σ m r σ' m') : Ev d M pc L (vl x :: st) σ m r σ' m' :=
  Ev.liftL (fun hX hb hl k => lv_lstore_n hX hb hd hi (q_prs_has hl) hL rfl (fun ls' h => k ls' (q_LR2 (v := vl x) hn h))) kk
theorem Ev.lstore0 {i : Nat} {x : Int} (hd : decode M.2.1 pc = .ok (.lstore i, 2)) (hL : i + 1 < L.length) (hn : ∀ j, j + 1 = i → q_nl L[j]? = true) (kk : Ev d M (pc + 2) ((L.set i (some (vl x))).set (i + 1) none) st σ m r σ' m') : Ev d M pc L (vl x :: st) σ m r σ' m' :=
  Ev.liftL (fun hX hb hl k => lv_lstore hX hb hd (q_prs_has hl) hL rfl (fun ls' h => k ls' (q_LR2 (v := vl x) hn h))) kk
theorem Ev.iinc0 {i : Nat} {n x : Int} (hd : decode M.2.1 pc = .ok (.iinc i n, 3)) (hv : L[i]? = some (some (vi x))) (hn : ∀ j, j + 1 = i → q_nl L[j]? = true) (kk : Ev d M (pc + 3) (L.set i (some (vi (x + n)))) st σ m r σ' m') : Ev d M pc L st σ m r σ' m' :=
  Ev.liftL (fun {A} {p l e R s mi args below meth c H locs cells slots Q ls} hX hb hl k => by
    obtain ⟨q, hq⟩ := List.getElem?_of_mem (q_prs_in (A := A) hv)
    exact lv_iinc hX hb hd (q_prs_has hl) hq rfl (List.getElem?_eq_some_iff.mp hv).1 rfl (fun ls' h => k ls' (q_LR1 (v := vi (x + n)) hn (by simp only [q_cv, Int32.ofInt_add]; exact h)))) kk
theorem q_pn {L : List (Option AV)} {i : Nat} (h : q_nl L[i]? = true) : ∀ j, j + 1 = i + 1 → q_nl L[j]? = true := fun j e => by
  have e2 : j = i := by omega
  rw [e2]
  exact h
theorem Ev.istore_0 {b : Option AV} {t : List (Option AV)} {x : Int} (hd : decode M.2.1 pc = .ok (.istore_n 0, 1)) (kk : Ev d M (pc + 1) (some (vi x) :: t) st σ m r σ' m') : Ev d M pc (b :: t) (vi x :: st) σ m r σ' m' :=
  Ev.istore_n0 hd (i := 0) rfl (by simp only [List.length_cons]; omega) (fun j e => by omega) kk
theorem Ev.astore_0 {b : Option AV} {t : List (Option AV)} {x : Int} (hd : decode M.2.1 pc = .ok (.astore_n 0, 1)) (kk : Ev d M (pc + 1) (some (vr x) :: t) st σ m r σ' m') : Ev d M pc (b :: t) (vr x :: st) σ m r σ' m' :=
  Ev.astore_n0 hd (i := 0) rfl (by simp only [List.length_cons]; omega) (fun j e => by omega) kk
theorem Ev.iinc_0 {t : List (Option AV)} {n x : Int} (hd : decode M.2.1 pc = .ok (.iinc 0 n, 3)) (kk : Ev d M (pc + 3) (some (vi (x + n)) :: t) st σ m r σ' m') : Ev d M pc (some (vi x) :: t) st σ m r σ' m' :=
  Ev.iinc0 hd (i := 0) rfl (fun j e => by omega) kk
theorem Ev.lstore_0 {b b2 : Option AV} {t : List (Option AV)} {x : Int} (hd : decode M.2.1 pc = .ok (.lstore_n 0, 1)) (kk : Ev d M (pc + 1) (some (vl x) :: none :: t) st σ m r σ' m') : Ev d M pc (b :: b2 :: t) (vl x :: st) σ m r σ' m' :=
  Ev.lstore_n0 hd (i := 0) rfl (by simp only [List.length_cons]; omega) (fun j e => by omega) kk
theorem Ev.istore_1 {a0 : Option AV} {b : Option AV} {t : List (Option AV)} {x : Int} (hd : decode M.2.1 pc = .ok (.istore_n 1, 1)) (hn : q_nl (some a0) = true) (kk : Ev d M (pc + 1) (a0 :: some (vi x) :: t) st σ m r σ' m') : Ev d M pc (a0 :: b :: t) (vi x :: st) σ m r σ' m' :=
  Ev.istore_n0 hd (i := 1) rfl (by simp only [List.length_cons]; omega) (q_pn (i := 0) hn) kk
theorem Ev.astore_1 {a0 : Option AV} {b : Option AV} {t : List (Option AV)} {x : Int} (hd : decode M.2.1 pc = .ok (.astore_n 1, 1)) (hn : q_nl (some a0) = true) (kk : Ev d M (pc + 1) (a0 :: some (vr x) :: t) st σ m r σ' m') : Ev d M pc (a0 :: b :: t) (vr x :: st) σ m r σ' m' :=
  Ev.astore_n0 hd (i := 1) rfl (by simp only [List.length_cons]; omega) (q_pn (i := 0) hn) kk
theorem Ev.iinc_1 {a0 : Option AV} {t : List (Option AV)} {n x : Int} (hd : decode M.2.1 pc = .ok (.iinc 1 n, 3)) (hn : q_nl (some a0) = true) (kk : Ev d M (pc + 3) (a0 :: some (vi (x + n)) :: t) st σ m r σ' m') : Ev d M pc (a0 :: some (vi x) :: t) st σ m r σ' m' :=
  Ev.iinc0 hd (i := 1) rfl (q_pn (i := 0) hn) kk
theorem Ev.lstore_1 {a0 : Option AV} {b b2 : Option AV} {t : List (Option AV)} {x : Int} (hd : decode M.2.1 pc = .ok (.lstore_n 1, 1)) (hn : q_nl (some a0) = true) (kk : Ev d M (pc + 1) (a0 :: some (vl x) :: none :: t) st σ m r σ' m') : Ev d M pc (a0 :: b :: b2 :: t) (vl x :: st) σ m r σ' m' :=
  Ev.lstore_n0 hd (i := 1) rfl (by simp only [List.length_cons]; omega) (q_pn (i := 0) hn) kk
theorem Ev.istore_2 {a0 a1 : Option AV} {b : Option AV} {t : List (Option AV)} {x : Int} (hd : decode M.2.1 pc = .ok (.istore_n 2, 1)) (hn : q_nl (some a1) = true) (kk : Ev d M (pc + 1) (a0 :: a1 :: some (vi x) :: t) st σ m r σ' m') : Ev d M pc (a0 :: a1 :: b :: t) (vi x :: st) σ m r σ' m' :=
  Ev.istore_n0 hd (i := 2) rfl (by simp only [List.length_cons]; omega) (q_pn (i := 1) hn) kk
theorem Ev.astore_2 {a0 a1 : Option AV} {b : Option AV} {t : List (Option AV)} {x : Int} (hd : decode M.2.1 pc = .ok (.astore_n 2, 1)) (hn : q_nl (some a1) = true) (kk : Ev d M (pc + 1) (a0 :: a1 :: some (vr x) :: t) st σ m r σ' m') : Ev d M pc (a0 :: a1 :: b :: t) (vr x :: st) σ m r σ' m' :=
  Ev.astore_n0 hd (i := 2) rfl (by simp only [List.length_cons]; omega) (q_pn (i := 1) hn) kk
theorem Ev.iinc_2 {a0 a1 : Option AV} {t : List (Option AV)} {n x : Int} (hd : decode M.2.1 pc = .ok (.iinc 2 n, 3)) (hn : q_nl (some a1) = true) (kk : Ev d M (pc + 3) (a0 :: a1 :: some (vi (x + n)) :: t) st σ m r σ' m') : Ev d M pc (a0 :: a1 :: some (vi x) :: t) st σ m r σ' m' :=
  Ev.iinc0 hd (i := 2) rfl (q_pn (i := 1) hn) kk
theorem Ev.lstore_2 {a0 a1 : Option AV} {b b2 : Option AV} {t : List (Option AV)} {x : Int} (hd : decode M.2.1 pc = .ok (.lstore_n 2, 1)) (hn : q_nl (some a1) = true) (kk : Ev d M (pc + 1) (a0 :: a1 :: some (vl x) :: none :: t) st σ m r σ' m') : Ev d M pc (a0 :: a1 :: b :: b2 :: t) (vl x :: st) σ m r σ' m' :=
  Ev.lstore_n0 hd (i := 2) rfl (by simp only [List.length_cons]; omega) (q_pn (i := 1) hn) kk
theorem Ev.istore_3 {a0 a1 a2 : Option AV} {b : Option AV} {t : List (Option AV)} {x : Int} (hd : decode M.2.1 pc = .ok (.istore_n 3, 1)) (hn : q_nl (some a2) = true) (kk : Ev d M (pc + 1) (a0 :: a1 :: a2 :: some (vi x) :: t) st σ m r σ' m') : Ev d M pc (a0 :: a1 :: a2 :: b :: t) (vi x :: st) σ m r σ' m' :=
  Ev.istore_n0 hd (i := 3) rfl (by simp only [List.length_cons]; omega) (q_pn (i := 2) hn) kk
theorem Ev.astore_3 {a0 a1 a2 : Option AV} {b : Option AV} {t : List (Option AV)} {x : Int} (hd : decode M.2.1 pc = .ok (.astore_n 3, 1)) (hn : q_nl (some a2) = true) (kk : Ev d M (pc + 1) (a0 :: a1 :: a2 :: some (vr x) :: t) st σ m r σ' m') : Ev d M pc (a0 :: a1 :: a2 :: b :: t) (vr x :: st) σ m r σ' m' :=
  Ev.astore_n0 hd (i := 3) rfl (by simp only [List.length_cons]; omega) (q_pn (i := 2) hn) kk
theorem Ev.iinc_3 {a0 a1 a2 : Option AV} {t : List (Option AV)} {n x : Int} (hd : decode M.2.1 pc = .ok (.iinc 3 n, 3)) (hn : q_nl (some a2) = true) (kk : Ev d M (pc + 3) (a0 :: a1 :: a2 :: some (vi (x + n)) :: t) st σ m r σ' m') : Ev d M pc (a0 :: a1 :: a2 :: some (vi x) :: t) st σ m r σ' m' :=
  Ev.iinc0 hd (i := 3) rfl (q_pn (i := 2) hn) kk
theorem Ev.lstore_3 {a0 a1 a2 : Option AV} {b b2 : Option AV} {t : List (Option AV)} {x : Int} (hd : decode M.2.1 pc = .ok (.lstore_n 3, 1)) (hn : q_nl (some a2) = true) (kk : Ev d M (pc + 1) (a0 :: a1 :: a2 :: some (vl x) :: none :: t) st σ m r σ' m') : Ev d M pc (a0 :: a1 :: a2 :: b :: b2 :: t) (vl x :: st) σ m r σ' m' :=
  Ev.lstore_n0 hd (i := 3) rfl (by simp only [List.length_cons]; omega) (q_pn (i := 2) hn) kk
theorem Ev.istore_4 {a0 a1 a2 a3 : Option AV} {b : Option AV} {t : List (Option AV)} {x : Int} (hd : decode M.2.1 pc = .ok (.istore 4, 2)) (hn : q_nl (some a3) = true) (kk : Ev d M (pc + 2) (a0 :: a1 :: a2 :: a3 :: some (vi x) :: t) st σ m r σ' m') : Ev d M pc (a0 :: a1 :: a2 :: a3 :: b :: t) (vi x :: st) σ m r σ' m' :=
  Ev.istore0 hd (i := 4) (by simp only [List.length_cons]; omega) (q_pn (i := 3) hn) kk
theorem Ev.astore_4 {a0 a1 a2 a3 : Option AV} {b : Option AV} {t : List (Option AV)} {x : Int} (hd : decode M.2.1 pc = .ok (.astore 4, 2)) (hn : q_nl (some a3) = true) (kk : Ev d M (pc + 2) (a0 :: a1 :: a2 :: a3 :: some (vr x) :: t) st σ m r σ' m') : Ev d M pc (a0 :: a1 :: a2 :: a3 :: b :: t) (vr x :: st) σ m r σ' m' :=
  Ev.astore0 hd (i := 4) (by simp only [List.length_cons]; omega) (q_pn (i := 3) hn) kk
theorem Ev.iinc_4 {a0 a1 a2 a3 : Option AV} {t : List (Option AV)} {n x : Int} (hd : decode M.2.1 pc = .ok (.iinc 4 n, 3)) (hn : q_nl (some a3) = true) (kk : Ev d M (pc + 3) (a0 :: a1 :: a2 :: a3 :: some (vi (x + n)) :: t) st σ m r σ' m') : Ev d M pc (a0 :: a1 :: a2 :: a3 :: some (vi x) :: t) st σ m r σ' m' :=
  Ev.iinc0 hd (i := 4) rfl (q_pn (i := 3) hn) kk
theorem Ev.lstore_4 {a0 a1 a2 a3 : Option AV} {b b2 : Option AV} {t : List (Option AV)} {x : Int} (hd : decode M.2.1 pc = .ok (.lstore 4, 2)) (hn : q_nl (some a3) = true) (kk : Ev d M (pc + 2) (a0 :: a1 :: a2 :: a3 :: some (vl x) :: none :: t) st σ m r σ' m') : Ev d M pc (a0 :: a1 :: a2 :: a3 :: b :: b2 :: t) (vl x :: st) σ m r σ' m' :=
  Ev.lstore0 hd (i := 4) (by simp only [List.length_cons]; omega) (q_pn (i := 3) hn) kk
theorem Ev.istore_5 {a0 a1 a2 a3 a4 : Option AV} {b : Option AV} {t : List (Option AV)} {x : Int} (hd : decode M.2.1 pc = .ok (.istore 5, 2)) (hn : q_nl (some a4) = true) (kk : Ev d M (pc + 2) (a0 :: a1 :: a2 :: a3 :: a4 :: some (vi x) :: t) st σ m r σ' m') : Ev d M pc (a0 :: a1 :: a2 :: a3 :: a4 :: b :: t) (vi x :: st) σ m r σ' m' :=
  Ev.istore0 hd (i := 5) (by simp only [List.length_cons]; omega) (q_pn (i := 4) hn) kk
theorem Ev.astore_5 {a0 a1 a2 a3 a4 : Option AV} {b : Option AV} {t : List (Option AV)} {x : Int} (hd : decode M.2.1 pc = .ok (.astore 5, 2)) (hn : q_nl (some a4) = true) (kk : Ev d M (pc + 2) (a0 :: a1 :: a2 :: a3 :: a4 :: some (vr x) :: t) st σ m r σ' m') : Ev d M pc (a0 :: a1 :: a2 :: a3 :: a4 :: b :: t) (vr x :: st) σ m r σ' m' :=
  Ev.astore0 hd (i := 5) (by simp only [List.length_cons]; omega) (q_pn (i := 4) hn) kk
theorem Ev.iinc_5 {a0 a1 a2 a3 a4 : Option AV} {t : List (Option AV)} {n x : Int} (hd : decode M.2.1 pc = .ok (.iinc 5 n, 3)) (hn : q_nl (some a4) = true) (kk : Ev d M (pc + 3) (a0 :: a1 :: a2 :: a3 :: a4 :: some (vi (x + n)) :: t) st σ m r σ' m') : Ev d M pc (a0 :: a1 :: a2 :: a3 :: a4 :: some (vi x) :: t) st σ m r σ' m' :=
  Ev.iinc0 hd (i := 5) rfl (q_pn (i := 4) hn) kk
theorem Ev.lstore_5 {a0 a1 a2 a3 a4 : Option AV} {b b2 : Option AV} {t : List (Option AV)} {x : Int} (hd : decode M.2.1 pc = .ok (.lstore 5, 2)) (hn : q_nl (some a4) = true) (kk : Ev d M (pc + 2) (a0 :: a1 :: a2 :: a3 :: a4 :: some (vl x) :: none :: t) st σ m r σ' m') : Ev d M pc (a0 :: a1 :: a2 :: a3 :: a4 :: b :: b2 :: t) (vl x :: st) σ m r σ' m' :=
  Ev.lstore0 hd (i := 5) (by simp only [List.length_cons]; omega) (q_pn (i := 4) hn) kk
theorem Ev.istore_6 {a0 a1 a2 a3 a4 a5 : Option AV} {b : Option AV} {t : List (Option AV)} {x : Int} (hd : decode M.2.1 pc = .ok (.istore 6, 2)) (hn : q_nl (some a5) = true) (kk : Ev d M (pc + 2) (a0 :: a1 :: a2 :: a3 :: a4 :: a5 :: some (vi x) :: t) st σ m r σ' m') : Ev d M pc (a0 :: a1 :: a2 :: a3 :: a4 :: a5 :: b :: t) (vi x :: st) σ m r σ' m' :=
  Ev.istore0 hd (i := 6) (by simp only [List.length_cons]; omega) (q_pn (i := 5) hn) kk
theorem Ev.astore_6 {a0 a1 a2 a3 a4 a5 : Option AV} {b : Option AV} {t : List (Option AV)} {x : Int} (hd : decode M.2.1 pc = .ok (.astore 6, 2)) (hn : q_nl (some a5) = true) (kk : Ev d M (pc + 2) (a0 :: a1 :: a2 :: a3 :: a4 :: a5 :: some (vr x) :: t) st σ m r σ' m') : Ev d M pc (a0 :: a1 :: a2 :: a3 :: a4 :: a5 :: b :: t) (vr x :: st) σ m r σ' m' :=
  Ev.astore0 hd (i := 6) (by simp only [List.length_cons]; omega) (q_pn (i := 5) hn) kk
theorem Ev.iinc_6 {a0 a1 a2 a3 a4 a5 : Option AV} {t : List (Option AV)} {n x : Int} (hd : decode M.2.1 pc = .ok (.iinc 6 n, 3)) (hn : q_nl (some a5) = true) (kk : Ev d M (pc + 3) (a0 :: a1 :: a2 :: a3 :: a4 :: a5 :: some (vi (x + n)) :: t) st σ m r σ' m') : Ev d M pc (a0 :: a1 :: a2 :: a3 :: a4 :: a5 :: some (vi x) :: t) st σ m r σ' m' :=
  Ev.iinc0 hd (i := 6) rfl (q_pn (i := 5) hn) kk
theorem Ev.lstore_6 {a0 a1 a2 a3 a4 a5 : Option AV} {b b2 : Option AV} {t : List (Option AV)} {x : Int} (hd : decode M.2.1 pc = .ok (.lstore 6, 2)) (hn : q_nl (some a5) = true) (kk : Ev d M (pc + 2) (a0 :: a1 :: a2 :: a3 :: a4 :: a5 :: some (vl x) :: none :: t) st σ m r σ' m') : Ev d M pc (a0 :: a1 :: a2 :: a3 :: a4 :: a5 :: b :: b2 :: t) (vl x :: st) σ m r σ' m' :=
  Ev.lstore0 hd (i := 6) (by simp only [List.length_cons]; omega) (q_pn (i := 5) hn) kk
theorem Ev.istore_7 {a0 a1 a2 a3 a4 a5 a6 : Option AV} {b : Option AV} {t : List (Option AV)} {x : Int} (hd : decode M.2.1 pc = .ok (.istore 7, 2)) (hn : q_nl (some a6) = true) (kk : Ev d M (pc + 2) (a0 :: a1 :: a2 :: a3 :: a4 :: a5 :: a6 :: some (vi x) :: t) st σ m r σ' m') : Ev d M pc (a0 :: a1 :: a2 :: a3 :: a4 :: a5 :: a6 :: b :: t) (vi x :: st) σ m r σ' m' :=
  Ev.istore0 hd (i := 7) (by simp only [List.length_cons]; omega) (q_pn (i := 6) hn) kk
theorem Ev.astore_7 {a0 a1 a2 a3 a4 a5 a6 : Option AV} {b : Option AV} {t : List (Option AV)} {x : Int} (hd : decode M.2.1 pc = .ok (.astore 7, 2)) (hn : q_nl (some a6) = true) (kk : Ev d M (pc + 2) (a0 :: a1 :: a2 :: a3 :: a4 :: a5 :: a6 :: some (vr x) :: t) st σ m r σ' m') : Ev d M pc (a0 :: a1 :: a2 :: a3 :: a4 :: a5 :: a6 :: b :: t) (vr x :: st) σ m r σ' m' :=
  Ev.astore0 hd (i := 7) (by simp only [List.length_cons]; omega) (q_pn (i := 6) hn) kk
theorem Ev.iinc_7 {a0 a1 a2 a3 a4 a5 a6 : Option AV} {t : List (Option AV)} {n x : Int} (hd : decode M.2.1 pc = .ok (.iinc 7 n, 3)) (hn : q_nl (some a6) = true) (kk : Ev d M (pc + 3) (a0 :: a1 :: a2 :: a3 :: a4 :: a5 :: a6 :: some (vi (x + n)) :: t) st σ m r σ' m') : Ev d M pc (a0 :: a1 :: a2 :: a3 :: a4 :: a5 :: a6 :: some (vi x) :: t) st σ m r σ' m' :=
  Ev.iinc0 hd (i := 7) rfl (q_pn (i := 6) hn) kk
theorem Ev.lstore_7 {a0 a1 a2 a3 a4 a5 a6 : Option AV} {b b2 : Option AV} {t : List (Option AV)} {x : Int} (hd : decode M.2.1 pc = .ok (.lstore 7, 2)) (hn : q_nl (some a6) = true) (kk : Ev d M (pc + 2) (a0 :: a1 :: a2 :: a3 :: a4 :: a5 :: a6 :: some (vl x) :: none :: t) st σ m r σ' m') : Ev d M pc (a0 :: a1 :: a2 :: a3 :: a4 :: a5 :: a6 :: b :: b2 :: t) (vl x :: st) σ m r σ' m' :=
  Ev.lstore0 hd (i := 7) (by simp only [List.length_cons]; omega) (q_pn (i := 6) hn) kk
theorem Ev.istore_8 {a0 a1 a2 a3 a4 a5 a6 a7 : Option AV} {b : Option AV} {t : List (Option AV)} {x : Int} (hd : decode M.2.1 pc = .ok (.istore 8, 2)) (hn : q_nl (some a7) = true) (kk : Ev d M (pc + 2) (a0 :: a1 :: a2 :: a3 :: a4 :: a5 :: a6 :: a7 :: some (vi x) :: t) st σ m r σ' m') : Ev d M pc (a0 :: a1 :: a2 :: a3 :: a4 :: a5 :: a6 :: a7 :: b :: t) (vi x :: st) σ m r σ' m' :=
  Ev.istore0 hd (i := 8) (by simp only [List.length_cons]; omega) (q_pn (i := 7) hn) kk
theorem Ev.astore_8 {a0 a1 a2 a3 a4 a5 a6 a7 : Option AV} {b : Option AV} {t : List (Option AV)} {x : Int} (hd : decode M.2.1 pc = .ok (.astore 8, 2)) (hn : q_nl (some a7) = true) (kk : Ev d M (pc + 2) (a0 :: a1 :: a2 :: a3 :: a4 :: a5 :: a6 :: a7 :: some (vr x) :: t) st σ m r σ' m') : Ev d M pc (a0 :: a1 :: a2 :: a3 :: a4 :: a5 :: a6 :: a7 :: b :: t) (vr x :: st) σ m r σ' m' :=
  Ev.astore0 hd (i := 8) (by simp only [List.length_cons]; omega) (q_pn (i := 7) hn) kk
theorem Ev.iinc_8 {a0 a1 a2 a3 a4 a5 a6 a7 : Option AV} {t : List (Option AV)} {n x : Int} (hd : decode M.2.1 pc = .ok (.iinc 8 n, 3)) (hn : q_nl (some a7) = true) (kk : Ev d M (pc + 3) (a0 :: a1 :: a2 :: a3 :: a4 :: a5 :: a6 :: a7 :: some (vi (x + n)) :: t) st σ m r σ' m') : Ev d M pc (a0 :: a1 :: a2 :: a3 :: a4 :: a5 :: a6 :: a7 :: some (vi x) :: t) st σ m r σ' m' :=
  Ev.iinc0 hd (i := 8) rfl (q_pn (i := 7) hn) kk
theorem Ev.lstore_8 {a0 a1 a2 a3 a4 a5 a6 a7 : Option AV} {b b2 : Option AV} {t : List (Option AV)} {x : Int} (hd : decode M.2.1 pc = .ok (.lstore 8, 2)) (hn : q_nl (some a7) = true) (kk : Ev d M (pc + 2) (a0 :: a1 :: a2 :: a3 :: a4 :: a5 :: a6 :: a7 :: some (vl x) :: none :: t) st σ m r σ' m') : Ev d M pc (a0 :: a1 :: a2 :: a3 :: a4 :: a5 :: a6 :: a7 :: b :: b2 :: t) (vl x :: st) σ m r σ' m' :=
  Ev.lstore0 hd (i := 8) (by simp only [List.length_cons]; omega) (q_pn (i := 7) hn) kk
theorem Ev.istore_9 {a0 a1 a2 a3 a4 a5 a6 a7 a8 : Option AV} {b : Option AV} {t : List (Option AV)} {x : Int} (hd : decode M.2.1 pc = .ok (.istore 9, 2)) (hn : q_nl (some a8) = true) (kk : Ev d M (pc + 2) (a0 :: a1 :: a2 :: a3 :: a4 :: a5 :: a6 :: a7 :: a8 :: some (vi x) :: t) st σ m r σ' m') : Ev d M pc (a0 :: a1 :: a2 :: a3 :: a4 :: a5 :: a6 :: a7 :: a8 :: b :: t) (vi x :: st) σ m r σ' m' :=
  Ev.istore0 hd (i := 9) (by simp only [List.length_cons]; omega) (q_pn (i := 8) hn) kk
theorem Ev.astore_9 {a0 a1 a2 a3 a4 a5 a6 a7 a8 : Option AV} {b : Option AV} {t : List (Option AV)} {x : Int} (hd : decode M.2.1 pc = .ok (.astore 9, 2)) (hn : q_nl (some a8) = true) (kk : Ev d M (pc + 2) (a0 :: a1 :: a2 :: a3 :: a4 :: a5 :: a6 :: a7 :: a8 :: some (vr x) :: t) st σ m r σ' m') : Ev d M pc (a0 :: a1 :: a2 :: a3 :: a4 :: a5 :: a6 :: a7 :: a8 :: b :: t) (vr x :: st) σ m r σ' m' :=
  Ev.astore0 hd (i := 9) (by simp only [List.length_cons]; omega) (q_pn (i := 8) hn) kk
theorem Ev.iinc_9 {a0 a1 a2 a3 a4 a5 a6 a7 a8 : Option AV} {t : List (Option AV)} {n x : Int} (hd : decode M.2.1 pc = .ok (.iinc 9 n, 3)) (hn : q_nl (some a8) = true) (kk : Ev d M (pc + 3) (a0 :: a1 :: a2 :: a3 :: a4 :: a5 :: a6 :: a7 :: a8 :: some (vi (x + n)) :: t) st σ m r σ' m') : Ev d M pc (a0 :: a1 :: a2 :: a3 :: a4 :: a5 :: a6 :: a7 :: a8 :: some (vi x) :: t) st σ m r σ' m' :=
  Ev.iinc0 hd (i := 9) rfl (q_pn (i := 8) hn) kk
theorem Ev.lstore_9 {a0 a1 a2 a3 a4 a5 a6 a7 a8 : Option AV} {b b2 : Option AV} {t : List (Option AV)} {x : Int} (hd : decode M.2.1 pc = .ok (.lstore 9, 2)) (hn : q_nl (some a8) = true) (kk : Ev d M (pc + 2) (a0 :: a1 :: a2 :: a3 :: a4 :: a5 :: a6 :: a7 :: a8 :: some (vl x) :: none :: t) st σ m r σ' m') : Ev d M pc (a0 :: a1 :: a2 :: a3 :: a4 :: a5 :: a6 :: a7 :: a8 :: b :: b2 :: t) (vl x :: st) σ m r σ' m' :=
  Ev.lstore0 hd (i := 9) (by simp only [List.length_cons]; omega) (q_pn (i := 8) hn) kk
theorem Ev.istore_10 {a0 a1 a2 a3 a4 a5 a6 a7 a8 a9 : Option AV} {b : Option AV} {t : List (Option AV)} {x : Int} (hd : decode M.2.1 pc = .ok (.istore 10, 2)) (hn : q_nl (some a9) = true) (kk : Ev d M (pc + 2) (a0 :: a1 :: a2 :: a3 :: a4 :: a5 :: a6 :: a7 :: a8 :: a9 :: some (vi x) :: t) st σ m r σ' m') : Ev d M pc (a0 :: a1 :: a2 :: a3 :: a4 :: a5 :: a6 :: a7 :: a8 :: a9 :: b :: t) (vi x :: st) σ m r σ' m' :=
  Ev.istore0 hd (i := 10) (by simp only [List.length_cons]; omega) (q_pn (i := 9) hn) kk
theorem Ev.astore_10 {a0 a1 a2 a3 a4 a5 a6 a7 a8 a9 : Option AV} {b : Option AV} {t : List (Option AV)} {x : Int} (hd : decode M.2.1 pc = .ok (.astore 10, 2)) (hn : q_nl (some a9) = true) (kk : Ev d M (pc + 2) (a0 :: a1 :: a2 :: a3 :: a4 :: a5 :: a6 :: a7 :: a8 :: a9 :: some (vr x) :: t) st σ m r σ' m') : Ev d M pc (a0 :: a1 :: a2 :: a3 :: a4 :: a5 :: a6 :: a7 :: a8 :: a9 :: b :: t) (vr x :: st) σ m r σ' m' :=
  Ev.astore0 hd (i := 10) (by simp only [List.length_cons]; omega) (q_pn (i := 9) hn) kk
theorem Ev.iinc_10 {a0 a1 a2 a3 a4 a5 a6 a7 a8 a9 : Option AV} {t : List (Option AV)} {n x : Int} (hd : decode M.2.1 pc = .ok (.iinc 10 n, 3)) (hn : q_nl (some a9) = true) (kk : Ev d M (pc + 3) (a0 :: a1 :: a2 :: a3 :: a4 :: a5 :: a6 :: a7 :: a8 :: a9 :: some (vi (x + n)) :: t) st σ m r σ' m') : Ev d M pc (a0 :: a1 :: a2 :: a3 :: a4 :: a5 :: a6 :: a7 :: a8 :: a9 :: some (vi x) :: t) st σ m r σ' m' :=
  Ev.iinc0 hd (i := 10) rfl (q_pn (i := 9) hn) kk
theorem Ev.lstore_10 {a0 a1 a2 a3 a4 a5 a6 a7 a8 a9 : Option AV} {b b2 : Option AV} {t : List (Option AV)} {x : Int} (hd : decode M.2.1 pc = .ok (.lstore 10, 2)) (hn : q_nl (some a9) = true) (kk : Ev d M (pc + 2) (a0 :: a1 :: a2 :: a3 :: a4 :: a5 :: a6 :: a7 :: a8 :: a9 :: some (vl x) :: none :: t) st σ m r σ' m') : Ev d M pc (a0 :: a1 :: a2 :: a3 :: a4 :: a5 :: a6 :: a7 :: a8 :: a9 :: b :: b2 :: t) (vl x :: st) σ m r σ' m' :=
  Ev.lstore0 hd (i := 10) (by simp only [List.length_cons]; omega) (q_pn (i := 9) hn) kk
theorem Ev.istore_11 {a0 a1 a2 a3 a4 a5 a6 a7 a8 a9 a10 : Option AV} {b : Option AV} {t : List (Option AV)} {x : Int} (hd : decode M.2.1 pc = .ok (.istore 11, 2)) (hn : q_nl (some a10) = true) (kk : Ev d M (pc + 2) (a0 :: a1 :: a2 :: a3 :: a4 :: a5 :: a6 :: a7 :: a8 :: a9 :: a10 :: some (vi x) :: t) st σ m r σ' m') : Ev d M pc (a0 :: a1 :: a2 :: a3 :: a4 :: a5 :: a6 :: a7 :: a8 :: a9 :: a10 :: b :: t) (vi x :: st) σ m r σ' m' :=
  Ev.istore0 hd (i := 11) (by simp only [List.length_cons]; omega) (q_pn (i := 10) hn) kk
theorem Ev.astore_11 {a0 a1 a2 a3 a4 a5 a6 a7 a8 a9 a10 : Option AV} {b : Option AV} {t : List (Option AV)} {x : Int} (hd : decode M.2.1 pc = .ok (.astore 11, 2)) (hn : q_nl (some a10) = true) (kk : Ev d M (pc + 2) (a0 :: a1 :: a2 :: a3 :: a4 :: a5 :: a6 :: a7 :: a8 :: a9 :: a10 :: some (vr x) :: t) st σ m r σ' m') : Ev d M pc (a0 :: a1 :: a2 :: a3 :: a4 :: a5 :: a6 :: a7 :: a8 :: a9 :: a10 :: b :: t) (vr x :: st) σ m r σ' m' :=
  Ev.astore0 hd (i := 11) (by simp only [List.length_cons]; omega) (q_pn (i := 10) hn) kk
theorem Ev.iinc_11 {a0 a1 a2 a3 a4 a5 a6 a7 a8 a9 a10 : Option AV} {t : List (Option AV)} {n x : Int} (hd : decode M.2.1 pc = .ok (.iinc 11 n, 3)) (hn : q_nl (some a10) = true) (kk : Ev d M (pc + 3) (a0 :: a1 :: a2 :: a3 :: a4 :: a5 :: a6 :: a7 :: a8 :: a9 :: a10 :: some (vi (x + n)) :: t) st σ m r σ' m') : Ev d M pc (a0 :: a1 :: a2 :: a3 :: a4 :: a5 :: a6 :: a7 :: a8 :: a9 :: a10 :: some (vi x) :: t) st σ m r σ' m' :=
  Ev.iinc0 hd (i := 11) rfl (q_pn (i := 10) hn) kk
theorem Ev.lstore_11 {a0 a1 a2 a3 a4 a5 a6 a7 a8 a9 a10 : Option AV} {b b2 : Option AV} {t : List (Option AV)} {x : Int} (hd : decode M.2.1 pc = .ok (.lstore 11, 2)) (hn : q_nl (some a10) = true) (kk : Ev d M (pc + 2) (a0 :: a1 :: a2 :: a3 :: a4 :: a5 :: a6 :: a7 :: a8 :: a9 :: a10 :: some (vl x) :: none :: t) st σ m r σ' m') : Ev d M pc (a0 :: a1 :: a2 :: a3 :: a4 :: a5 :: a6 :: a7 :: a8 :: a9 :: a10 :: b :: b2 :: t) (vl x :: st) σ m r σ' m' :=
  Ev.lstore0 hd (i := 11) (by simp only [List.length_cons]; omega) (q_pn (i := 10) hn) kk
theorem Ev.istore_12 {a0 a1 a2 a3 a4 a5 a6 a7 a8 a9 a10 a11 : Option AV} {b : Option AV} {t : List (Option AV)} {x : Int} (hd : decode M.2.1 pc = .ok (.istore 12, 2)) (hn : q_nl (some a11) = true) (kk : Ev d M (pc + 2) (a0 :: a1 :: a2 :: a3 :: a4 :: a5 :: a6 :: a7 :: a8 :: a9 :: a10 :: a11 :: some (vi x) :: t) st σ m r σ' m') : Ev d M pc (a0 :: a1 :: a2 :: a3 :: a4 :: a5 :: a6 :: a7 :: a8 :: a9 :: a10 :: a11 :: b :: t) (vi x :: st) σ m r σ' m' :=
  Ev.istore0 hd (i := 12) (by simp only [List.length_cons]; omega) (q_pn (i := 11) hn) kk
theorem Ev.astore_12 {a0 a1 a2 a3 a4 a5 a6 a7 a8 a9 a10 a11 : Option AV} {b : Option AV} {t : List (Option AV)} {x : Int} (hd : decode M.2.1 pc = .ok (.astore 12, 2)) (hn : q_nl (some a11) = true) (kk : Ev d M (pc + 2) (a0 :: a1 :: a2 :: a3 :: a4 :: a5 :: a6 :: a7 :: a8 :: a9 :: a10 :: a11 :: some (vr x) :: t) st σ m r σ' m') : Ev d M pc (a0 :: a1 :: a2 :: a3 :: a4 :: a5 :: a6 :: a7 :: a8 :: a9 :: a10 :: a11 :: b :: t) (vr x :: st) σ m r σ' m' :=
  Ev.astore0 hd (i := 12) (by simp only [List.length_cons]; omega) (q_pn (i := 11) hn) kk
theorem Ev.iinc_12 {a0 a1 a2 a3 a4 a5 a6 a7 a8 a9 a10 a11 : Option AV} {t : List (Option AV)} {n x : Int} (hd : decode M.2.1 pc = .ok (.iinc 12 n, 3)) (hn : q_nl (some a11) = true) (kk : Ev d M (pc + 3) (a0 :: a1 :: a2 :: a3 :: a4 :: a5 :: a6 :: a7 :: a8 :: a9 :: a10 :: a11 :: some (vi (x + n)) :: t) st σ m r σ' m') : Ev d M pc (a0 :: a1 :: a2 :: a3 :: a4 :: a5 :: a6 :: a7 :: a8 :: a9 :: a10 :: a11 :: some (vi x) :: t) st σ m r σ' m' :=
  Ev.iinc0 hd (i := 12) rfl (q_pn (i := 11) hn) kk
theorem Ev.lstore_12 {a0 a1 a2 a3 a4 a5 a6 a7 a8 a9 a10 a11 : Option AV} {b b2 : Option AV} {t : List (Option AV)} {x : Int} (hd : decode M.2.1 pc = .ok (.lstore 12, 2)) (hn : q_nl (some a11) = true) (kk : Ev d M (pc + 2) (a0 :: a1 :: a2 :: a3 :: a4 :: a5 :: a6 :: a7 :: a8 :: a9 :: a10 :: a11 :: some (vl x) :: none :: t) st σ m r σ' m') : Ev d M pc (a0 :: a1 :: a2 :: a3 :: a4 :: a5 :: a6 :: a7 :: a8 :: a9 :: a10 :: a11 :: b :: b2 :: t) (vl x :: st) σ m r σ' m' :=
  Ev.lstore0 hd (i := 12) (by simp only [List.length_cons]; omega) (q_pn (i := 11) hn) kk
theorem Ev.istore_13 {a0 a1 a2 a3 a4 a5 a6 a7 a8 a9 a10 a11 a12 : Option AV} {b : Option AV} {t : List (Option AV)} {x : Int} (hd : decode M.2.1 pc = .ok (.istore 13, 2)) (hn : q_nl (some a12) = true) (kk : Ev d M (pc + 2) (a0 :: a1 :: a2 :: a3 :: a4 :: a5 :: a6 :: a7 :: a8 :: a9 :: a10 :: a11 :: a12 :: some (vi x) :: t) st σ m r σ' m') : Ev d M pc (a0 :: a1 :: a2 :: a3 :: a4 :: a5 :: a6 :: a7 :: a8 :: a9 :: a10 :: a11 :: a12 :: b :: t) (vi x :: st) σ m r σ' m' :=
  Ev.istore0 hd (i := 13) (by simp only [List.length_cons]; omega) (q_pn (i := 12) hn) kk
theorem Ev.astore_13 {a0 a1 a2 a3 a4 a5 a6 a7 a8 a9 a10 a11 a12 : Option AV} {b : Option AV} {t : List (Option AV)} {x : Int} (hd : decode M.2.1 pc = .ok (.astore 13, 2)) (hn : q_nl (some a12) = true) (kk : Ev d M (pc + 2) (a0 :: a1 :: a2 :: a3 :: a4 :: a5 :: a6 :: a7 :: a8 :: a9 :: a10 :: a11 :: a12 :: some (vr x) :: t) st σ m r σ' m') : Ev d M pc (a0 :: a1 :: a2 :: a3 :: a4 :: a5 :: a6 :: a7 :: a8 :: a9 :: a10 :: a11 :: a12 :: b :: t) (vr x :: st) σ m r σ' m' :=
  Ev.astore0 hd (i := 13) (by simp only [List.length_cons]; omega) (q_pn (i := 12) hn) kk
theorem Ev.iinc_13 {a0 a1 a2 a3 a4 a5 a6 a7 a8 a9 a10 a11 a12 : Option AV} {t : List (Option AV)} {n x : Int} (hd : decode M.2.1 pc = .ok (.iinc 13 n, 3)) (hn : q_nl (some a12) = true) (kk : Ev d M (pc + 3) (a0 :: a1 :: a2 :: a3 :: a4 :: a5 :: a6 :: a7 :: a8 :: a9 :: a10 :: a11 :: a12 :: some (vi (x + n)) :: t) st σ m r σ' m') : Ev d M pc (a0 :: a1 :: a2 :: a3 :: a4 :: a5 :: a6 :: a7 :: a8 :: a9 :: a10 :: a11 :: a12 :: some (vi x) :: t) st σ m r σ' m' :=
  Ev.iinc0 hd (i := 13) rfl (q_pn (i := 12) hn) kk
theorem Ev.lstore_13 {a0 a1 a2 a3 a4 a5 a6 a7 a8 a9 a10 a11 a12 : Option AV} {b b2 : Option AV} {t : List (Option AV)} {x : Int} (hd : decode M.2.1 pc = .ok (.lstore 13, 2)) (hn : q_nl (some a12) = true) (kk : Ev d M (pc + 2) (a0 :: a1 :: a2 :: a3 :: a4 :: a5 :: a6 :: a7 :: a8 :: a9 :: a10 :: a11 :: a12 :: some (vl x) :: none :: t) st σ m r σ' m') : Ev d M pc (a0 :: a1 :: a2 :: a3 :: a4 :: a5 :: a6 :: a7 :: a8 :: a9 :: a10 :: a11 :: a12 :: b :: b2 :: t) (vl x :: st) σ m r σ' m' :=
  Ev.lstore0 hd (i := 13) (by simp only [List.length_cons]; omega) (q_pn (i := 12) hn) kk
theorem Ev.istore_14 {a0 a1 a2 a3 a4 a5 a6 a7 a8 a9 a10 a11 a12 a13 : Option AV} {b : Option AV} {t : List (Option AV)} {x : Int} (hd : decode M.2.1 pc = .ok (.istore 14, 2)) (hn : q_nl (some a13) = true) (kk : Ev d M (pc + 2) (a0 :: a1 :: a2 :: a3 :: a4 :: a5 :: a6 :: a7 :: a8 :: a9 :: a10 :: a11 :: a12 :: a13 :: some (vi x) :: t) st σ m r σ' m') : Ev d M pc (a0 :: a1 :: a2 :: a3 :: a4 :: a5 :: a6 :: a7 :: a8 :: a9 :: a10 :: a11 :: a12 :: a13 :: b :: t) (vi x :: st) σ m r σ' m' :=
  Ev.istore0 hd (i := 14) (by simp only [List.length_cons]; omega) (q_pn (i := 13) hn) kk
theorem Ev.astore_14 {a0 a1 a2 a3 a4 a5 a6 a7 a8 a9 a10 a11 a12 a13 : Option AV} {b : Option AV} {t : List (Option AV)} {x : Int} (hd : decode M.2.1 pc = .ok (.astore 14, 2)) (hn : q_nl (some a13) = true) (kk : Ev d M (pc + 2) (a0 :: a1 :: a2 :: a3 :: a4 :: a5 :: a6 :: a7 :: a8 :: a9 :: a10 :: a11 :: a12 :: a13 :: some (vr x) :: t) st σ m r σ' m') : Ev d M pc (a0 :: a1 :: a2 :: a3 :: a4 :: a5 :: a6 :: a7 :: a8 :: a9 :: a10 :: a11 :: a12 :: a13 :: b :: t) (vr x :: st) σ m r σ' m' :=
  Ev.astore0 hd (i := 14) (by simp only [List.length_cons]; omega) (q_pn (i := 13) hn) kk
theorem Ev.iinc_14 {a0 a1 a2 a3 a4 a5 a6 a7 a8 a9 a10 a11 a12 a13 : Option AV} {t : List (Option AV)} {n x : Int} (hd : decode M.2.1 pc = .ok (.iinc 14 n, 3)) (hn : q_nl (some a13) = true) (kk : Ev d M (pc + 3) (a0 :: a1 :: a2 :: a3 :: a4 :: a5 :: a6 :: a7 :: a8 :: a9 :: a10 :: a11 :: a12 :: a13 :: some (vi (x + n)) :: t) st σ m r σ' m') : Ev d M pc (a0 :: a1 :: a2 :: a3 :: a4 :: a5 :: a6 :: a7 :: a8 :: a9 :: a10 :: a11 :: a12 :: a13 :: some (vi x) :: t) st σ m r σ' m' :=
  Ev.iinc0 hd (i := 14) rfl (q_pn (i := 13) hn) kk
theorem Ev.lstore_14 {a0 a1 a2 a3 a4 a5 a6 a7 a8 a9 a10 a11 a12 a13 : Option AV} {b b2 : Option AV} {t : List (Option AV)} {x : Int} (hd : decode M.2.1 pc = .ok (.lstore 14, 2)) (hn : q_nl (some a13) = true) (kk : Ev d M (pc + 2) (a0 :: a1 :: a2 :: a3 :: a4 :: a5 :: a6 :: a7 :: a8 :: a9 :: a10 :: a11 :: a12 :: a13 :: some (vl x) :: none :: t) st σ m r σ' m') : Ev d M pc (a0 :: a1 :: a2 :: a3 :: a4 :: a5 :: a6 :: a7 :: a8 :: a9 :: a10 :: a11 :: a12 :: a13 :: b :: b2 :: t) (vl x :: st) σ m r σ' m' :=
  Ev.lstore0 hd (i := 14) (by simp only [List.length_cons]; omega) (q_pn (i := 13) hn) kk
theorem Ev.istore_15 {a0 a1 a2 a3 a4 a5 a6 a7 a8 a9 a10 a11 a12 a13 a14 : Option AV} {b : Option AV} {t : List (Option AV)} {x : Int} (hd : decode M.2.1 pc = .ok (.istore 15, 2)) (hn : q_nl (some a14) = true) (kk : Ev d M (pc + 2) (a0 :: a1 :: a2 :: a3 :: a4 :: a5 :: a6 :: a7 :: a8 :: a9 :: a10 :: a11 :: a12 :: a13 :: a14 :: some (vi x) :: t) st σ m r σ' m') : Ev d M pc (a0 :: a1 :: a2 :: a3 :: a4 :: a5 :: a6 :: a7 :: a8 :: a9 :: a10 :: a11 :: a12 :: a13 :: a14 :: b :: t) (vi x :: st) σ m r σ' m' :=
  Ev.istore0 hd (i := 15) (by simp only [List.length_cons]; omega) (q_pn (i := 14) hn) kk
theorem Ev.astore_15 {a0 a1 a2 a3 a4 a5 a6 a7 a8 a9 a10 a11 a12 a13 a14 : Option AV} {b : Option AV} {t : List (Option AV)} {x : Int} (hd : decode M.2.1 pc = .ok (.astore 15, 2)) (hn : q_nl (some a14) = true) (kk : Ev d M (pc + 2) (a0 :: a1 :: a2 :: a3 :: a4 :: a5 :: a6 :: a7 :: a8 :: a9 :: a10 :: a11 :: a12 :: a13 :: a14 :: some (vr x) :: t) st σ m r σ' m') : Ev d M pc (a0 :: a1 :: a2 :: a3 :: a4 :: a5 :: a6 :: a7 :: a8 :: a9 :: a10 :: a11 :: a12 :: a13 :: a14 :: b :: t) (vr x :: st) σ m r σ' m' :=
  Ev.astore0 hd (i := 15) (by simp only [List.length_cons]; omega) (q_pn (i := 14) hn) kk
theorem Ev.iinc_15 {a0 a1 a2 a3 a4 a5 a6 a7 a8 a9 a10 a11 a12 a13 a14 : Option AV} {t : List (Option AV)} {n x : Int} (hd : decode M.2.1 pc = .ok (.iinc 15 n, 3)) (hn : q_nl (some a14) = true) (kk : Ev d M (pc + 3) (a0 :: a1 :: a2 :: a3 :: a4 :: a5 :: a6 :: a7 :: a8 :: a9 :: a10 :: a11 :: a12 :: a13 :: a14 :: some (vi (x + n)) :: t) st σ m r σ' m') : Ev d M pc (a0 :: a1 :: a2 :: a3 :: a4 :: a5 :: a6 :: a7 :: a8 :: a9 :: a10 :: a11 :: a12 :: a13 :: a14 :: some (vi x) :: t) st σ m r σ' m' :=
  Ev.iinc0 hd (i := 15) rfl (q_pn (i := 14) hn) kk
theorem Ev.lstore_15 {a0 a1 a2 a3 a4 a5 a6 a7 a8 a9 a10 a11 a12 a13 a14 : Option AV} {b b2 : Option AV} {t : List (Option AV)} {x : Int} (hd : decode M.2.1 pc = .ok (.lstore 15, 2)) (hn : q_nl (some a14) = true) (kk : Ev d M (pc + 2) (a0 :: a1 :: a2 :: a3 :: a4 :: a5 :: a6 :: a7 :: a8 :: a9 :: a10 :: a11 :: a12 :: a13 :: a14 :: some (vl x) :: none :: t) st σ m r σ' m') : Ev d M pc (a0 :: a1 :: a2 :: a3 :: a4 :: a5 :: a6 :: a7 :: a8 :: a9 :: a10 :: a11 :: a12 :: a13 :: a14 :: b :: b2 :: t) (vl x :: st) σ m r σ' m' :=
  Ev.lstore0 hd (i := 15) (by simp only [List.length_cons]; omega) (q_pn (i := 14) hn) kk
end
