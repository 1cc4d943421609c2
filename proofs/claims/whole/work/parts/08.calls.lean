section
variable {d : Nat} {M : Md} {pc : Nat} {L : List (Option AV)} {st : List AV} {σ σ' : Sg} {m m' : Mm} {r : Option AV}
theorem Ev.to {r1 : Option AV} {m1 : Mm} (h : Ev d M pc L st σ m r1 σ' m1) (hr : r1 = r) (hm : m1 = m') : Ev d M pc L st σ m r σ' m' := by subst hr; subst hm; exact h
theorem Ev.mono {d2 : Nat} (h : Ev d M pc L st σ m r σ' m') (hd : d ≤ d2) : Ev d2 M pc L st σ m r σ' m' :=
  ⟨h.1, fun l s0 b pf pt D hG p e R s mi args below meth c n0 k0 hC => h.2 l s0 b pf pt D hG p e R s mi args below meth c n0 k0 ⟨hC.1, hC.2.1, hC.2.2.1, hC.2.2.2.1, hC.2.2.2.2.1, hC.2.2.2.2.2.1, hC.2.2.2.2.2.2.1, hC.2.2.2.2.2.2.2.1, by have := hC.2.2.2.2.2.2.2.2.1; omega, by have := hC.2.2.2.2.2.2.2.2.2; omega⟩⟩
theorem Ev.ireturn {x : Int} (hd : decode M.2.1 pc = .ok (.ireturn, 1)) (hr : M.2.2.2 = some .int) : Ev d M pc L [vi x] σ m (some (vi x)) σ m :=
  ⟨⟨Int.le_refl _, Int.le_refl _⟩, fun l s0 b pf pt D hG p e R s mi args below meth c n0 k0 hC h1 h2 h3 h4 H locs ls hH hf hl => W.iret hC.1 hC.2.1 (hC.2.2.1.trans hr) (fun t ht hW => ⟨rfl, by rw [ht]; exact hH⟩) hf hd (hlocks := hC.2.2.2.2.2.1)⟩
theorem Ev.zreturn {x : Int} (hd : decode M.2.1 pc = .ok (.ireturn, 1)) (hr : M.2.2.2 = some .boolean) (hx : x = 0 ∨ x = 1) : Ev d M pc L [vi x] σ m (some (vi x)) σ m :=
  ⟨⟨Int.le_refl _, Int.le_refl _⟩, fun l s0 b pf pt D hG p e R s mi args below meth c n0 k0 hC h1 h2 h3 h4 H locs ls hH hf hl => W.zret (ty := .boolean) hC.1 hC.2.1 (hC.2.2.1.trans hr) (by rcases hx with rfl | rfl <;> rfl) (fun t ht hW => ⟨rfl, by rw [ht]; exact hH⟩) hf hd (hlocks := hC.2.2.2.2.2.1)⟩
theorem Ev.lreturn {x : Int} (hd : decode M.2.1 pc = .ok (.lreturn, 1)) (hr : M.2.2.2 = some .long) : Ev d M pc L [vl x] σ m (some (vl x)) σ m :=
  ⟨⟨Int.le_refl _, Int.le_refl _⟩, fun l s0 b pf pt D hG p e R s mi args below meth c n0 k0 hC h1 h2 h3 h4 H locs ls hH hf hl => W.lret hC.1 hC.2.1 (hC.2.2.1.trans hr) (fun t ht hW => ⟨rfl, by rw [ht]; exact hH⟩) hf hd (hlocks := hC.2.2.2.2.2.1)⟩
theorem Ev.return (hd : decode M.2.1 pc = .ok (.return_, 1)) (hr : M.2.2.2 = none) : Ev d M pc L [] σ m none σ m :=
  ⟨⟨Int.le_refl _, Int.le_refl _⟩, fun l s0 b pf pt D hG p e R s mi args below meth c n0 k0 hC h1 h2 h3 h4 H locs ls hH hf hl => W.vret hC.1 hC.2.1 (hC.2.2.1.trans hr) (fun t ht hW => ⟨rfl, by rw [ht]; exact hH⟩) hf hd (hlocks := hC.2.2.2.2.2.1)⟩
theorem Ev.areturn {x : Int} {n : String} (hd : decode M.2.1 pc = .ok (.areturn, 1)) (hr : M.2.2.2 = some (.object n)) : Ev d M pc L [vr x] σ m (some (vr x)) σ m := by
  refine ⟨⟨Int.le_refl _, Int.le_refl _⟩, fun l s0 b pf pt D hG p e R s mi args below meth c n0 k0 hC h1 h2 h3 h4 H locs ls hH hf hl => ?_⟩
  refine W.aret (v := q_cv (q_ad s0.heap.size b pf pt) (vr x)) hC.1 hC.2.1 (hC.2.2.1.trans hr) (Or.inl ⟨n, rfl⟩) ?_ (fun t ht hW => ⟨rfl, by rw [ht]; exact hH⟩) hf hd (hlocks := hC.2.2.2.2.2.1)
  simp only [q_cv]
  by_cases h : x < 0
  · rw [if_pos h]; exact Or.inl rfl
  · rw [if_neg h]; exact Or.inr ⟨_, rfl⟩
/-! calls -/
def q_mt (N : Md) (n : Nat) : Prop := Cond.code N.1 N.2.1 N.2.2.1 N.2.2.2 ∈ lw_tbl ∧ Cond.initialized N.1.cls ∈ lw_tbl ∧ (N.1.cls ≠ "java/lang/invoke/MethodHandle" ∧ N.1.cls ≠ "java/lang/invoke/VarHandle" ∧ (parseMethodDescriptor N.1.desc).map (fun d => d.parameters.length) = some n) ∧ plainName N.1.cls = true ∧ N.2.2.1 ≤ 21
theorem q_args (A : Int → Nat) : ∀ (av : List AV) (k i : Nat) (v : AV), (q_sl av)[i]? = some (some v) → (k + i, q_cv A v) ∈ lv_args k (av.map (q_cv A))
  | [], k, i, v, h => by simp [q_sl] at h
  | .inl x :: t, k, 0, v, h => by
    simp only [q_sl, List.getElem?_cons_zero, Option.some.injEq] at h
    subst h
    simp [lv_args]
  | .inl x :: t, k, i + 1, v, h => by
    simp only [q_sl, List.getElem?_cons_succ] at h
    have := q_args A t (k + 1) i v h
    rw [List.map_cons]
    refine List.mem_cons_of_mem _ ?_
    rw [show k + (i + 1) = k + 1 + i by omega]
    exact this
  | .inr (.inl x) :: t, k, 0, v, h => by
    simp only [q_sl, List.getElem?_cons_zero, Option.some.injEq] at h
    subst h
    simp [lv_args]
  | .inr (.inl x) :: t, k, 1, v, h => by
    simp [q_sl] at h
  | .inr (.inl x) :: t, k, i + 2, v, h => by
    simp only [q_sl, List.getElem?_cons_succ] at h
    have := q_args A t (k + 2) i v h
    rw [List.map_cons]
    refine List.mem_cons_of_mem _ ?_
    rw [show k + (i + 2) = k + 2 + i by omega]
    exact this
  | .inr (.inr x) :: t, k, 0, v, h => by
    simp only [q_sl, List.getElem?_cons_zero, Option.some.injEq] at h
    subst h
    simp [lv_args]
  | .inr (.inr x) :: t, k, i + 1, v, h => by
    simp only [q_sl, List.getElem?_cons_succ] at h
    have := q_args A t (k + 1) i v h
    rw [List.map_cons]
    refine List.mem_cons_of_mem _ ?_
    have e : (q_cv A (.inr (.inr x))).category = 1 := q_cat_eq A _
    simp only [e]
    rw [show k + (i + 1) = k + 1 + i by omega]
    exact this
theorem q_sl1 (A : Int → Nat) (v : AV) (t : List AV) : (lg_sl ((v :: t).map (q_cv A))).length = q_cat v + (lg_sl (t.map (q_cv A))).length := by
  simp only [lg_sl, List.map_cons, List.flatMap_cons, List.length_append, q_cat_eq]
  rcases v with x | x | x <;> rfl
theorem q_sll (A : Int → Nat) : ∀ (av : List AV), (lg_sl (av.map (q_cv A))).length = (q_sl av).length
  | [] => rfl
  | .inl x :: t => by rw [q_sl1, q_sll A t]; simp only [q_sl, q_cat, List.length_cons]; omega
  | .inr (.inl x) :: t => by rw [q_sl1, q_sll A t]; simp only [q_sl, q_cat, List.length_cons]; omega
  | .inr (.inr x) :: t => by rw [q_sl1, q_sll A t]; simp only [q_sl, q_cat, List.length_cons]; omega
theorem q_enLR {A : Int → Nat} {N : Md} {av : List AV} (h : (q_sl av).length ≤ N.2.2.1) : q_LR A (q_en N av) ((lg_sl (av.map (q_cv A)) ++ List.replicate (N.2.2.1 - (lg_sl (av.map (q_cv A))).length) Slot.unset).toArray) := by
  have hl := lv_entry (av.map (q_cv A)) (n := N.2.2.1) (by rw [q_sll]; exact h)
  refine ⟨?_, hl.2.1, fun i v hi => ?_⟩
  · rw [hl.1]
    simp only [q_en, List.length_append, List.length_replicate]
    omega
  · unfold q_en at hi
    by_cases hlt : i < (q_sl av).length
    · rw [List.getElem?_append_left hlt] at hi
      have := q_args A av 0 i v hi
      rw [Nat.zero_add] at this
      exact hl.2.2 _ this
    · rw [List.getElem?_append_right (by omega), List.getElem?_replicate] at hi
      split at hi <;> cases hi
theorem q_met {N : Md} {n : Nat} (hN : q_mt N n) {av : List AV} (hen : (q_sl av).length ≤ N.2.2.1) (k : Call d N av σ m r σ' m') (l : Launch) {s0 : State} {b pf pt : Nat} {D : va_G} (hG : q_G s0 b pf pt D) :
    Met l N.1 [Cond.code N.1 N.2.1 N.2.2.1 N.2.2.2] ({ frames := d, cells := (σ'.1 - σ.1).toNat, slots := (σ'.2.1 - σ.2.1).toNat, locals := 40 * d } : Room) (fun v U => v = (av.map (q_cv (q_ad s0.heap.size b pf pt))).toArray ∧ q_HR s0 D (q_ad s0.heap.size b pf pt) σ m U.heap ∧ s0.WarmedH U.vm) (q_Q s0 D (q_ad s0.heap.size b pf pt) r σ' m') (σ'.1 - σ.1).toNat (σ'.2.1 - σ.2.1).toNat (q_fr s0) := by
  refine Met.ofW (cc := N.2.1) (maxL := N.2.2.1) (ret := N.2.2.2) hN.2.2.2.1 rfl ?_
  intro p e s mi args below meth c s₁ B hml hv
  obtain ⟨rfl, hH, hW⟩ := hv
  rw [lg_entry_eq]
  have K := k.2 l s0 b pf pt D hG p e ({ frames := d, cells := (σ'.1 - σ.1).toNat, slots := (σ'.2.1 - σ.2.1).toNat, locals := 40 * d } : Room) s mi (av.map (q_cv (q_ad s0.heap.size b pf pt))).toArray below meth c σ.1 σ.2.1 ⟨B.exec, B.bytes, B.returns, hml, findClass_of_methodNamed B.named, B.notSynchronized, fun h => (name_of_methodNamed B.named B.method).1.trans h, hW, Nat.le_refl _, Nat.le_refl _⟩ (Int.le_refl _) (Int.le_refl _) (Nat.le_refl _) (Nat.le_refl _) s.heap [] _ hH (fun q hq => by cases hq) (q_enLR hen)
  rw [show (σ.1 - σ.1).toNat = 0 by omega, show (σ.2.1 - σ.2.1).toNat = 0 by omega] at K
  exact K
theorem q_run {s0 : State} {D : va_G} {A : Int → Nat} {av' : Array Value} {r1 : Option AV} {σ1 : Sg} {m1 : Mm} {mc ms : Nat} {l : Launch} {p : Program} {e : Env} {R : Room} {s : State} {mi : MethodId} {args : Array Value} {below : List Frame} {meth : Method} {c : Code} {Q : State → Prop} {cells slots : Nat} {H : Heap} {locs : List Loc} {ls : Array Slot} {stv rest : List Value}
    (hr : va_Run p l e R s mi args below meth c H locs cells slots mc ms (F0 mi pc ls stv) rest (q_Q s0 D A r1 σ1 m1 av') (q_fr s0)) (hf : ∀ q ∈ locs, s0.heap.size ≤ q.base)
    (kk : ∀ (H1 : Heap) (locs1 : List Loc), q_HR s0 D A σ1 m1 H1 → (∀ q ∈ locs1, s0.heap.size ≤ q.base) → W p l e R s mi args below meth c H1 locs1 (cells + mc) (slots + ms) Q (F0 mi (pc + 3) ls ((r1.map (q_cv A)).toList ++ rest))) : W p l e R s mi args below meth c H locs cells slots Q (F0 mi pc ls stv) := by
  intro T hT X
  obtain ⟨v, st₀, t, T', Lx, h0, X', hL, e1, e2, ⟨hv, hH1⟩, st⟩ := hr T hT X
  cases hv
  obtain ⟨t2, a1, b1⟩ := kk T'.heap (locs ++ Lx) (by rw [e1]; exact hH1) (fun q hq => (List.mem_append.mp hq).elim (hf q) (hL q)) T' rfl X'
  exact ⟨t2, st t2 a1, b1⟩
theorem Ev.callX {N : Md} {d1 n : Nat} {av stk rest : List AV} {r1 : Option AV} {σ1 : Sg} {m1 : Mm} (c : Call d1 N av σ m r1 σ1 m1) (hN : q_mt N n) (hen : (q_sl av).length ≤ N.2.2.1)
    (hrun : ∀ {l : Launch} {s0 : State} {b pf pt : Nat} {D : va_G}, q_G s0 b pf pt D → ∀ {p : Program} {e : Env} {R : Room} {s : State} {mi : MethodId} {args : Array Value} {below : List Frame} {meth : Method} {cd : Code}, q_SC s0 M d p R s mi meth cd → ∀ {cells slots : Nat} {H : Heap} {locs : List Loc} {ls : Array Slot}, q_HR s0 D (q_ad s0.heap.size b pf pt) σ m H → q_LR (q_ad s0.heap.size b pf pt) L ls →
      Met l N.1 [Cond.code N.1 N.2.1 N.2.2.1 N.2.2.2] ({ frames := d1, cells := (σ1.1 - σ.1).toNat, slots := (σ1.2.1 - σ.2.1).toNat, locals := 40 * d1 } : Room) (fun v U => v = (av.map (q_cv (q_ad s0.heap.size b pf pt))).toArray ∧ q_HR s0 D (q_ad s0.heap.size b pf pt) σ m U.heap ∧ s0.WarmedH U.vm) (q_Q s0 D (q_ad s0.heap.size b pf pt) r1 σ1 m1) (σ1.1 - σ.1).toNat (σ1.2.1 - σ.2.1).toNat (q_fr s0) →
      cells + (σ1.1 - σ.1).toNat ≤ R.cells ∧ slots + (σ1.2.1 - σ.2.1).toNat ≤ R.slots →
      va_Run p l e R s mi args below meth cd H locs cells slots (σ1.1 - σ.1).toNat (σ1.2.1 - σ.2.1).toNat (F0 mi pc ls (stk.map (q_cv (q_ad s0.heap.size b pf pt)))) (rest.map (q_cv (q_ad s0.heap.size b pf pt))) (q_Q s0 D (q_ad s0.heap.size b pf pt) r1 σ1 m1 (av.map (q_cv (q_ad s0.heap.size b pf pt))).toArray) (q_fr s0))
    (k : Ev d M (pc + 3) L (r1.toList ++ rest) σ1 m1 r σ' m') : Ev d M pc L stk σ m r σ' m' := by
  have hc := c.1
  have hk := k.1
  refine ⟨⟨by omega, by omega⟩, fun l s0 b pf pt D hG p e R s mi args below meth cd n0 k0 hC h1 h2 h3 h4 H locs ls hH hf hl => ?_⟩
  refine q_run (hrun hG hC hH hl (q_met hN hen c l hG) ⟨by omega, by omega⟩) hf (fun H1 locs1 hH1 hf1 => ?_)
  have K := k.2 l s0 b pf pt D hG p e R s mi args below meth cd n0 k0 hC (by omega) (by omega) h3 h4 H1 locs1 ls hH1 hf1 hl
  rw [show (σ.1 - n0).toNat + (σ1.1 - σ.1).toNat = (σ1.1 - n0).toNat by omega, show (σ.2.1 - k0).toNat + (σ1.2.1 - σ.2.1).toNat = (σ1.2.1 - k0).toNat by omega]
  rw [List.map_append] at K
  have e1 : (r1.map (q_cv (q_ad s0.heap.size b pf pt))).toList = r1.toList.map (q_cv (q_ad s0.heap.size b pf pt)) := by cases r1 <;> rfl
  rw [e1]
  exact K
theorem q_pre {s0 : State} {D : va_G} {A : Int → Nat} {H : Heap} {s : State} {vs : List Value} (hW : s0.WarmedH s.vm) (hH : q_HR s0 D A σ m H) : PreS s H (fun v U => v = vs.toArray ∧ q_HR s0 D A σ m U.heap ∧ s0.WarmedH U.vm) vs :=
  ⟨fun a U g mk q => q, fun U hU hWU => ⟨rfl, by rw [hU]; exact hH, State.WarmedH.trans hW hWU⟩⟩
theorem q_cw {R : Room} {s s0 : State} {args : Array Value} {N : Md} {n d1 : Nat} {a0 : Array Value} {x y : Nat} (hts0 : ∀ w ∈ lw_tbl, w.before a0 s0 = true) (hW : s0.WarmedH s.vm) (hN : q_mt N n) (hR : d1 + 1 ≤ d ∧ d ≤ R.frames ∧ 40 * d ≤ R.locals) :
    (d1 + 1 ≤ R.frames ∧ 8 + (N.2.2.1 + 11) + 40 * d1 ≤ R.locals) ∧ (∀ w ∈ [Cond.code N.1 N.2.1 N.2.2.1 N.2.2.2], ∀ (a' : Array Value) (U : State), s.WarmedH U.vm → w.before a' U = true) ∧ (Cond.code N.1 N.2.1 N.2.2.1 N.2.2.2).before args s = true ∧ (Cond.initialized N.1.cls).before args s = true ∧ (∀ sig, parseMethodDescriptor N.1.desc = some sig → n = sig.parameters.length) := by
  have h21 := hN.2.2.2.2
  refine ⟨⟨by omega, by omega⟩, fun w hw a' U hU => ?_, q_w hts0 hW hN.1 rfl, q_w hts0 hW hN.2.1 rfl, fun sig h => ?_⟩
  · rw [List.mem_singleton.mp hw]
    exact q_w hts0 (State.WarmedH.trans hW hU) hN.1 rfl
  · have h2 := hN.2.2.1.2.2
    rw [h] at h2
    exact (Option.some.inj h2).symm
theorem q_catsum (A : Int → Nat) (rest : List AV) (h : (rest.map q_cat).sum ≤ 8) : ((rest.map (q_cv A)).map fun v => v.category).sum ≤ 8 := by
  have : (rest.map (q_cv A)).map (fun v => v.category) = rest.map q_cat := by
    rw [List.map_map]
    apply List.map_congr_left
    intro v _
    exact q_cat_eq A v
  rw [this]
  exact h
theorem Ev.callS0 {N : Md} {d1 n idx : Nat} {av stk rest : List AV} {r1 : Option AV} {σ1 : Sg} {m1 : Mm} (hd : decode M.2.1 pc = .ok (.invokestatic idx, 3)) (hN : q_mt N n) (hl : Cond.methodLink M.1.cls idx N.1 ∈ lw_tbl) (hst : Cond.static N.1 ∈ lw_tbl) (hn : av.length = n) (hen : (q_sl av).length ≤ N.2.2.1) (hL : L.length = M.2.2.1) (hcat : (rest.map q_cat).sum ≤ 8) (hdd : d1 + 1 ≤ d) (hstk : stk = av.reverse ++ rest) (c : Call d1 N av σ m r1 σ1 m1) (k : Ev d M (pc + 3) L (r1.toList ++ rest) σ1 m1 r σ' m') : Ev d M pc L stk σ m r σ' m' := by
  refine Ev.callX c hN hen (fun {l s0 b pf pt D} hG {p e R s mi args below meth cd} hC {cells slots H locs ls} hH hl1 hM hf => ?_) k
  obtain ⟨a0, hts0⟩ := hG.1
  have hW := hC.2.2.2.2.2.2.2.1
  obtain ⟨⟨w1, w2⟩, w3, w4, w5, w6⟩ := q_cw (args := args) (x := 0) (y := 0) hts0 hW hN ⟨hdd, hC.2.2.2.2.2.2.2.2.1, hC.2.2.2.2.2.2.2.2.2⟩
  refine va_runS (As := av.map (q_cv (q_ad s0.heap.size b pf pt))) (rest := rest.map (q_cv (q_ad s0.heap.size b pf pt))) ⟨hC.1, hC.2.1, hC.2.2.2.1, hC.2.2.2.2.1, fun w (hw : w ∈ ([] : List Cond)) => by cases hw⟩ hM ⟨⟨rfl, rfl, w1, w2, w3, List.mem_cons_self, w4, w5, ⟨hN.2.2.1.1, hN.2.2.1.2.1⟩, w6, q_w hts0 hW hl rfl⟩, q_w hts0 hW hst rfl⟩ (q_pre hW hH) rfl (by rw [List.length_map]; exact hn) (hl1.1.trans hL) ?_ (lv_room (q_catsum _ rest hcat)) hd hf
  show stk.map _ = _
  rw [hstk, List.map_append, List.map_reverse]
theorem Ev.callSN0 {N : Md} {d1 n idx : Nat} {host : String} {av stk rest : List AV} {r1 : Option AV} {σ1 : Sg} {m1 : Mm} (hd : decode M.2.1 pc = .ok (.invokestatic idx, 3)) (hN : q_mt N n) (hl : Cond.methodLinkNest M.1.cls idx N.1 host ∈ lw_tbl) (hst : Cond.static N.1 ∈ lw_tbl) (hn : av.length = n) (hen : (q_sl av).length ≤ N.2.2.1) (hL : L.length = M.2.2.1) (hcat : (rest.map q_cat).sum ≤ 8) (hdd : d1 + 1 ≤ d) (hstk : stk = av.reverse ++ rest) (c : Call d1 N av σ m r1 σ1 m1) (k : Ev d M (pc + 3) L (r1.toList ++ rest) σ1 m1 r σ' m') : Ev d M pc L stk σ m r σ' m' := by
  refine Ev.callX c hN hen (fun {l s0 b pf pt D} hG {p e R s mi args below meth cd} hC {cells slots H locs ls} hH hl1 hM hf => ?_) k
  obtain ⟨a0, hts0⟩ := hG.1
  have hW := hC.2.2.2.2.2.2.2.1
  obtain ⟨⟨w1, w2⟩, w3, w4, w5, w6⟩ := q_cw (args := args) (x := 0) (y := 0) hts0 hW hN ⟨hdd, hC.2.2.2.2.2.2.2.2.1, hC.2.2.2.2.2.2.2.2.2⟩
  refine va_runSN (As := av.map (q_cv (q_ad s0.heap.size b pf pt))) (rest := rest.map (q_cv (q_ad s0.heap.size b pf pt))) ⟨hC.1, hC.2.1, hC.2.2.2.1, hC.2.2.2.2.1, fun w (hw : w ∈ ([] : List Cond)) => by cases hw⟩ hM ⟨⟨⟨rfl, rfl, w1, w2, w3, List.mem_cons_self⟩, w4, w5, ⟨hN.2.2.1.1, hN.2.2.1.2.1⟩, w6, va_Nw.use rfl (va_Nw.warmM hW (va_Nw.of rfl (hts0 _ hl)))⟩, q_w hts0 hW hst rfl, trivial⟩ (q_pre hW hH) rfl (by rw [List.length_map]; exact hn) (hl1.1.trans hL) ?_ (lv_room (q_catsum _ rest hcat)) hd hf
  show stk.map _ = _
  rw [hstk, List.map_append, List.map_reverse]
theorem Ev.callV0 {N : Md} {d1 n idx : Nat} {bb nb : Int} {t : Nat} {av stk rest : List AV} {r1 : Option AV} {σ1 : Sg} {m1 : Mm} (hd : decode M.2.1 pc = .ok (.invokevirtual idx, 3)) (hN : q_mt N n) (hl : Cond.methodLink M.1.cls idx N.1 ∈ lw_tbl) (hin : Cond.instanceMethod N.1 ∈ lw_tbl) (hse : Cond.selects N.1.cls N.1 N.1 ∈ lw_tbl) (hn : av.length = n) (hen : (q_sl (vr bb :: av)).length ≤ N.2.2.1) (hL : L.length = M.2.2.1) (hcat : (rest.map q_cat).sum ≤ 8) (hdd : d1 + 1 ≤ d) (hbb : Is σ bb t nb) (htt : t < 100) (hcls : (q_cls[t]?.map (fun q => q.1)) = some N.1.cls) (hstk : stk = av.reverse ++ vr bb :: rest) (c : Call d1 N (vr bb :: av) σ m r1 σ1 m1) (k : Ev d M (pc + 3) L (r1.toList ++ rest) σ1 m1 r σ' m') : Ev d M pc L stk σ m r σ' m' := by
  refine Ev.callX c hN hen (fun {l s0 b pf pt D} hG {p e R s mi args below meth cd} hC {cells slots H locs ls} hH hl1 hM hf => ?_) k
  obtain ⟨a0, hts0⟩ := hG.1
  have hW := hC.2.2.2.2.2.2.2.1
  obtain ⟨⟨w1, w2⟩, w3, w4, w5, w6⟩ := q_cw (args := args) (x := 0) (y := 0) hts0 hW hN ⟨hdd, hC.2.2.2.2.2.2.2.2.1, hC.2.2.2.2.2.2.2.2.2⟩
  have hM2 := hM
  simp only [List.map_cons, q_ref hbb.1] at hM2 ⊢
  have hrec : ∃ cellB : Cell, H[q_ad s0.heap.size b pf pt bb]? = some cellB ∧ cellB.vm.isStatics = false ∧ s.vm.findClass N.1.cls = some cellB.cls := by
    obtain ⟨-, q, hq, cellV, v1, v2, v3, v4⟩ := q_HR_obj hH hbb htt
    rw [hq] at hcls
    have hcls : q.1 = N.1.cls := Option.some.inj hcls
    refine ⟨cellV, v1, by rw [v3]; rfl, ?_⟩
    rw [v2, ← hcls]
    exact (u_Kn_moved hW.alike (hG.2.1 t q hq)).2.1
  refine va_runV (C := N.1.cls) (b := q_ad s0.heap.size b pf pt bb) (As := av.map (q_cv (q_ad s0.heap.size b pf pt))) (rest := rest.map (q_cv (q_ad s0.heap.size b pf pt))) ⟨hC.1, hC.2.1, hC.2.2.2.1, hC.2.2.2.2.1, fun w (hw : w ∈ ([] : List Cond)) => by cases hw⟩ hM2 ⟨⟨rfl, rfl, w1, w2, w3, List.mem_cons_self, w4, w5, ⟨hN.2.2.1.1, hN.2.2.1.2.1⟩, w6, q_w hts0 hW hl rfl⟩, q_w hts0 hW hin rfl, q_w hts0 hW hse rfl⟩ ⟨(q_pre hW hH).1, hrec, (q_pre hW hH).2⟩ rfl (by rw [List.length_map]; exact hn) (hl1.1.trans hL) ?_ (lv_room (q_catsum _ rest hcat)) hd hf
  show stk.map _ = _
  rw [hstk, List.map_append, List.map_reverse, q_mp1 hbb.1]
theorem Ev.callVN0 {N : Md} {d1 n idx : Nat} {host : String} {bb nb : Int} {t : Nat} {av stk rest : List AV} {r1 : Option AV} {σ1 : Sg} {m1 : Mm} (hd : decode M.2.1 pc = .ok (.invokevirtual idx, 3)) (hN : q_mt N n) (hl : Cond.methodLinkNest M.1.cls idx N.1 host ∈ lw_tbl) (hin : Cond.instanceMethod N.1 ∈ lw_tbl) (hse : Cond.selects N.1.cls N.1 N.1 ∈ lw_tbl) (hn : av.length = n) (hen : (q_sl (vr bb :: av)).length ≤ N.2.2.1) (hL : L.length = M.2.2.1) (hcat : (rest.map q_cat).sum ≤ 8) (hdd : d1 + 1 ≤ d) (hbb : Is σ bb t nb) (htt : t < 100) (hcls : (q_cls[t]?.map (fun q => q.1)) = some N.1.cls) (hstk : stk = av.reverse ++ vr bb :: rest) (c : Call d1 N (vr bb :: av) σ m r1 σ1 m1) (k : Ev d M (pc + 3) L (r1.toList ++ rest) σ1 m1 r σ' m') : Ev d M pc L stk σ m r σ' m' := by
  refine Ev.callX c hN hen (fun {l s0 b pf pt D} hG {p e R s mi args below meth cd} hC {cells slots H locs ls} hH hl1 hM hf => ?_) k
  obtain ⟨a0, hts0⟩ := hG.1
  have hW := hC.2.2.2.2.2.2.2.1
  obtain ⟨⟨w1, w2⟩, w3, w4, w5, w6⟩ := q_cw (args := args) (x := 0) (y := 0) hts0 hW hN ⟨hdd, hC.2.2.2.2.2.2.2.2.1, hC.2.2.2.2.2.2.2.2.2⟩
  have hM2 := hM
  simp only [List.map_cons, q_ref hbb.1] at hM2 ⊢
  have hrec : ∃ cellB : Cell, H[q_ad s0.heap.size b pf pt bb]? = some cellB ∧ cellB.vm.isStatics = false ∧ s.vm.findClass N.1.cls = some cellB.cls := by
    obtain ⟨-, q, hq, cellV, v1, v2, v3, v4⟩ := q_HR_obj hH hbb htt
    rw [hq] at hcls
    have hcls : q.1 = N.1.cls := Option.some.inj hcls
    refine ⟨cellV, v1, by rw [v3]; rfl, ?_⟩
    rw [v2, ← hcls]
    exact (u_Kn_moved hW.alike (hG.2.1 t q hq)).2.1
  refine va_runVN (C := N.1.cls) (b := q_ad s0.heap.size b pf pt bb) (As := av.map (q_cv (q_ad s0.heap.size b pf pt))) (rest := rest.map (q_cv (q_ad s0.heap.size b pf pt))) ⟨hC.1, hC.2.1, hC.2.2.2.1, hC.2.2.2.2.1, fun w (hw : w ∈ ([] : List Cond)) => by cases hw⟩ hM2 ⟨⟨⟨rfl, rfl, w1, w2, w3, List.mem_cons_self⟩, w4, w5, ⟨hN.2.2.1.1, hN.2.2.1.2.1⟩, w6, va_Nw.use rfl (va_Nw.warmM hW (va_Nw.of rfl (hts0 _ hl)))⟩, q_w hts0 hW hin rfl, q_w hts0 hW hse rfl⟩ ⟨(q_pre hW hH).1, hrec, (q_pre hW hH).2⟩ rfl (by rw [List.length_map]; exact hn) (hl1.1.trans hL) ?_ (lv_room (q_catsum _ rest hcat)) hd hf
  show stk.map _ = _
  rw [hstk, List.map_append, List.map_reverse, q_mp1 hbb.1]
theorem Ev.callI0 {N : Md} {d1 n idx : Nat} {bb : Int} {av stk rest : List AV} {r1 : Option AV} {σ1 : Sg} {m1 : Mm} (hd : decode M.2.1 pc = .ok (.invokespecial idx, 3)) (hN : q_mt N n) (hl : Cond.methodLink M.1.cls idx N.1 ∈ lw_tbl) (hin : Cond.instanceMethod N.1 ∈ lw_tbl) (hnm : N.1.name = "<init>") (hrt : N.2.2.2 = none) (hn : av.length = n) (hen : (q_sl (vr bb :: av)).length ≤ N.2.2.1) (hL : L.length = M.2.2.1) (hcat : (rest.map q_cat).sum ≤ 8) (hdd : d1 + 1 ≤ d) (hbb : 0 ≤ bb) (hstk : stk = av.reverse ++ vr bb :: rest) (c : Call d1 N (vr bb :: av) σ m r1 σ1 m1) (k : Ev d M (pc + 3) L (r1.toList ++ rest) σ1 m1 r σ' m') : Ev d M pc L stk σ m r σ' m' := by
  refine Ev.callX c hN hen (fun {l s0 b pf pt D} hG {p e R s mi args below meth cd} hC {cells slots H locs ls} hH hl1 hM hf => ?_) k
  obtain ⟨a0, hts0⟩ := hG.1
  have hW := hC.2.2.2.2.2.2.2.1
  obtain ⟨⟨w1, w2⟩, w3, w4, w5, w6⟩ := q_cw (args := args) (x := 0) (y := 0) hts0 hW hN ⟨hdd, hC.2.2.2.2.2.2.2.2.1, hC.2.2.2.2.2.2.2.2.2⟩
  have hM2 := hM
  simp only [List.map_cons, q_ref hbb] at hM2 ⊢
  rw [hrt] at hM2 w3 w4
  refine va_runI (b := q_ad s0.heap.size b pf pt bb) (As := av.map (q_cv (q_ad s0.heap.size b pf pt))) (rest := rest.map (q_cv (q_ad s0.heap.size b pf pt))) ⟨hC.1, hC.2.1, hC.2.2.2.1, hC.2.2.2.2.1, fun w (hw : w ∈ ([] : List Cond)) => by cases hw⟩ hM2 ⟨⟨rfl, rfl, w1, w2, w3, List.mem_cons_self, w4, w5, ⟨hN.2.2.1.1, hN.2.2.1.2.1⟩, w6, q_w hts0 hW hl rfl⟩, hnm, q_w hts0 hW hin rfl⟩ (q_pre hW hH) rfl (by rw [List.length_map]; exact hn) (hl1.1.trans hL) ?_ (lv_room (q_catsum _ rest hcat)) hd hf
  show stk.map _ = _
  rw [hstk, List.map_append, List.map_reverse, q_mp1 hbb]
theorem Ev.callIN0 {N : Md} {d1 n idx : Nat} {host : String} {bb : Int} {av stk rest : List AV} {r1 : Option AV} {σ1 : Sg} {m1 : Mm} (hd : decode M.2.1 pc = .ok (.invokespecial idx, 3)) (hN : q_mt N n) (hl : Cond.methodLinkNest M.1.cls idx N.1 host ∈ lw_tbl) (hin : Cond.instanceMethod N.1 ∈ lw_tbl) (hnm : N.1.name = "<init>") (hrt : N.2.2.2 = none) (hn : av.length = n) (hen : (q_sl (vr bb :: av)).length ≤ N.2.2.1) (hL : L.length = M.2.2.1) (hcat : (rest.map q_cat).sum ≤ 8) (hdd : d1 + 1 ≤ d) (hbb : 0 ≤ bb) (hstk : stk = av.reverse ++ vr bb :: rest) (c : Call d1 N (vr bb :: av) σ m r1 σ1 m1) (k : Ev d M (pc + 3) L (r1.toList ++ rest) σ1 m1 r σ' m') : Ev d M pc L stk σ m r σ' m' := by
  refine Ev.callX c hN hen (fun {l s0 b pf pt D} hG {p e R s mi args below meth cd} hC {cells slots H locs ls} hH hl1 hM hf => ?_) k
  obtain ⟨a0, hts0⟩ := hG.1
  have hW := hC.2.2.2.2.2.2.2.1
  obtain ⟨⟨w1, w2⟩, w3, w4, w5, w6⟩ := q_cw (args := args) (x := 0) (y := 0) hts0 hW hN ⟨hdd, hC.2.2.2.2.2.2.2.2.1, hC.2.2.2.2.2.2.2.2.2⟩
  have hM2 := hM
  simp only [List.map_cons, q_ref hbb] at hM2 ⊢
  rw [hrt] at hM2 w3 w4
  refine va_runIN (b := q_ad s0.heap.size b pf pt bb) (As := av.map (q_cv (q_ad s0.heap.size b pf pt))) (rest := rest.map (q_cv (q_ad s0.heap.size b pf pt))) ⟨hC.1, hC.2.1, hC.2.2.2.1, hC.2.2.2.2.1, fun w (hw : w ∈ ([] : List Cond)) => by cases hw⟩ hM2 ⟨⟨⟨rfl, rfl, w1, w2, w3, List.mem_cons_self⟩, w4, w5, ⟨hN.2.2.1.1, hN.2.2.1.2.1⟩, w6, va_Nw.use rfl (va_Nw.warmM hW (va_Nw.of rfl (hts0 _ hl)))⟩, hnm, q_w hts0 hW hin rfl⟩ (q_pre hW hH) rfl (by rw [List.length_map]; exact hn) (hl1.1.trans hL) ?_ (lv_room (q_catsum _ rest hcat)) hd hf
  show stk.map _ = _
  rw [hstk, List.map_append, List.map_reverse, q_mp1 hbb]
theorem Ev.callSv {N : Md} {d1 n idx : Nat} {av stk rest : List AV} {σ1 : Sg} {m1 : Mm} (hd : decode M.2.1 pc = .ok (.invokestatic idx, 3)) (hN : q_mt N n) (hl : Cond.methodLink M.1.cls idx N.1 ∈ lw_tbl) (hst : Cond.static N.1 ∈ lw_tbl) (hn : av.length = n) (hen : (q_sl av).length ≤ N.2.2.1) (hL : L.length = M.2.2.1) (hcat : (rest.map q_cat).sum ≤ 8) (hdd : d1 + 1 ≤ d) (hstk : stk = av.reverse ++ rest) (c : Call d1 N av σ m none σ1 m1) (k : Ev d M (pc + 3) L rest σ1 m1 r σ' m') : Ev d M pc L stk σ m r σ' m' :=
  Ev.callS0 hd hN hl hst hn hen hL hcat hdd hstk c k
theorem Ev.callS {N : Md} {d1 n idx : Nat} {v : AV} {av stk rest : List AV} {σ1 : Sg} {m1 : Mm} (hd : decode M.2.1 pc = .ok (.invokestatic idx, 3)) (hN : q_mt N n) (hl : Cond.methodLink M.1.cls idx N.1 ∈ lw_tbl) (hst : Cond.static N.1 ∈ lw_tbl) (hn : av.length = n) (hen : (q_sl av).length ≤ N.2.2.1) (hL : L.length = M.2.2.1) (hcat : (rest.map q_cat).sum ≤ 8) (hdd : d1 + 1 ≤ d) (hstk : stk = av.reverse ++ rest) (c : Call d1 N av σ m (some v) σ1 m1) (k : Ev d M (pc + 3) L (v :: rest) σ1 m1 r σ' m') : Ev d M pc L stk σ m r σ' m' :=
  Ev.callS0 hd hN hl hst hn hen hL hcat hdd hstk c k
theorem Ev.callSNv {N : Md} {d1 n idx : Nat} {host : String} {av stk rest : List AV} {σ1 : Sg} {m1 : Mm} (hd : decode M.2.1 pc = .ok (.invokestatic idx, 3)) (hN : q_mt N n) (hl : Cond.methodLinkNest M.1.cls idx N.1 host ∈ lw_tbl) (hst : Cond.static N.1 ∈ lw_tbl) (hn : av.length = n) (hen : (q_sl av).length ≤ N.2.2.1) (hL : L.length = M.2.2.1) (hcat : (rest.map q_cat).sum ≤ 8) (hdd : d1 + 1 ≤ d) (hstk : stk = av.reverse ++ rest) (c : Call d1 N av σ m none σ1 m1) (k : Ev d M (pc + 3) L rest σ1 m1 r σ' m') : Ev d M pc L stk σ m r σ' m' :=
  Ev.callSN0 hd hN hl hst hn hen hL hcat hdd hstk c k
theorem Ev.callSN {N : Md} {d1 n idx : Nat} {host : String} {v : AV} {av stk rest : List AV} {σ1 : Sg} {m1 : Mm} (hd : decode M.2.1 pc = .ok (.invokestatic idx, 3)) (hN : q_mt N n) (hl : Cond.methodLinkNest M.1.cls idx N.1 host ∈ lw_tbl) (hst : Cond.static N.1 ∈ lw_tbl) (hn : av.length = n) (hen : (q_sl av).length ≤ N.2.2.1) (hL : L.length = M.2.2.1) (hcat : (rest.map q_cat).sum ≤ 8) (hdd : d1 + 1 ≤ d) (hstk : stk = av.reverse ++ rest) (c : Call d1 N av σ m (some v) σ1 m1) (k : Ev d M (pc + 3) L (v :: rest) σ1 m1 r σ' m') : Ev d M pc L stk σ m r σ' m' :=
  Ev.callSN0 hd hN hl hst hn hen hL hcat hdd hstk c k
theorem Ev.callVv {N : Md} {d1 n idx : Nat} {bb nb : Int} {t : Nat} {av stk rest : List AV} {σ1 : Sg} {m1 : Mm} (hd : decode M.2.1 pc = .ok (.invokevirtual idx, 3)) (hN : q_mt N n) (hl : Cond.methodLink M.1.cls idx N.1 ∈ lw_tbl) (hin : Cond.instanceMethod N.1 ∈ lw_tbl) (hse : Cond.selects N.1.cls N.1 N.1 ∈ lw_tbl) (hn : av.length = n) (hen : (q_sl (vr bb :: av)).length ≤ N.2.2.1) (hL : L.length = M.2.2.1) (hcat : (rest.map q_cat).sum ≤ 8) (hdd : d1 + 1 ≤ d) (hbb : Is σ bb t nb) (htt : t < 100) (hcls : (q_cls[t]?.map (fun q => q.1)) = some N.1.cls) (hstk : stk = av.reverse ++ vr bb :: rest) (c : Call d1 N (vr bb :: av) σ m none σ1 m1) (k : Ev d M (pc + 3) L rest σ1 m1 r σ' m') : Ev d M pc L stk σ m r σ' m' :=
  Ev.callV0 hd hN hl hin hse hn hen hL hcat hdd hbb htt hcls hstk c k
theorem Ev.callV {N : Md} {d1 n idx : Nat} {bb nb : Int} {t : Nat} {v : AV} {av stk rest : List AV} {σ1 : Sg} {m1 : Mm} (hd : decode M.2.1 pc = .ok (.invokevirtual idx, 3)) (hN : q_mt N n) (hl : Cond.methodLink M.1.cls idx N.1 ∈ lw_tbl) (hin : Cond.instanceMethod N.1 ∈ lw_tbl) (hse : Cond.selects N.1.cls N.1 N.1 ∈ lw_tbl) (hn : av.length = n) (hen : (q_sl (vr bb :: av)).length ≤ N.2.2.1) (hL : L.length = M.2.2.1) (hcat : (rest.map q_cat).sum ≤ 8) (hdd : d1 + 1 ≤ d) (hbb : Is σ bb t nb) (htt : t < 100) (hcls : (q_cls[t]?.map (fun q => q.1)) = some N.1.cls) (hstk : stk = av.reverse ++ vr bb :: rest) (c : Call d1 N (vr bb :: av) σ m (some v) σ1 m1) (k : Ev d M (pc + 3) L (v :: rest) σ1 m1 r σ' m') : Ev d M pc L stk σ m r σ' m' :=
  Ev.callV0 hd hN hl hin hse hn hen hL hcat hdd hbb htt hcls hstk c k
theorem Ev.callVNv {N : Md} {d1 n idx : Nat} {host : String} {bb nb : Int} {t : Nat} {av stk rest : List AV} {σ1 : Sg} {m1 : Mm} (hd : decode M.2.1 pc = .ok (.invokevirtual idx, 3)) (hN : q_mt N n) (hl : Cond.methodLinkNest M.1.cls idx N.1 host ∈ lw_tbl) (hin : Cond.instanceMethod N.1 ∈ lw_tbl) (hse : Cond.selects N.1.cls N.1 N.1 ∈ lw_tbl) (hn : av.length = n) (hen : (q_sl (vr bb :: av)).length ≤ N.2.2.1) (hL : L.length = M.2.2.1) (hcat : (rest.map q_cat).sum ≤ 8) (hdd : d1 + 1 ≤ d) (hbb : Is σ bb t nb) (htt : t < 100) (hcls : (q_cls[t]?.map (fun q => q.1)) = some N.1.cls) (hstk : stk = av.reverse ++ vr bb :: rest) (c : Call d1 N (vr bb :: av) σ m none σ1 m1) (k : Ev d M (pc + 3) L rest σ1 m1 r σ' m') : Ev d M pc L stk σ m r σ' m' :=
  Ev.callVN0 hd hN hl hin hse hn hen hL hcat hdd hbb htt hcls hstk c k
theorem Ev.callVN {N : Md} {d1 n idx : Nat} {host : String} {bb nb : Int} {t : Nat} {v : AV} {av stk rest : List AV} {σ1 : Sg} {m1 : Mm} (hd : decode M.2.1 pc = .ok (.invokevirtual idx, 3)) (hN : q_mt N n) (hl : Cond.methodLinkNest M.1.cls idx N.1 host ∈ lw_tbl) (hin : Cond.instanceMethod N.1 ∈ lw_tbl) (hse : Cond.selects N.1.cls N.1 N.1 ∈ lw_tbl) (hn : av.length = n) (hen : (q_sl (vr bb :: av)).length ≤ N.2.2.1) (hL : L.length = M.2.2.1) (hcat : (rest.map q_cat).sum ≤ 8) (hdd : d1 + 1 ≤ d) (hbb : Is σ bb t nb) (htt : t < 100) (hcls : (q_cls[t]?.map (fun q => q.1)) = some N.1.cls) (hstk : stk = av.reverse ++ vr bb :: rest) (c : Call d1 N (vr bb :: av) σ m (some v) σ1 m1) (k : Ev d M (pc + 3) L (v :: rest) σ1 m1 r σ' m') : Ev d M pc L stk σ m r σ' m' :=
  Ev.callVN0 hd hN hl hin hse hn hen hL hcat hdd hbb htt hcls hstk c k
theorem Ev.callIv {N : Md} {d1 n idx : Nat} {bb : Int} {av stk rest : List AV} {σ1 : Sg} {m1 : Mm} (hd : decode M.2.1 pc = .ok (.invokespecial idx, 3)) (hN : q_mt N n) (hl : Cond.methodLink M.1.cls idx N.1 ∈ lw_tbl) (hin : Cond.instanceMethod N.1 ∈ lw_tbl) (hnm : N.1.name = "<init>") (hrt : N.2.2.2 = none) (hn : av.length = n) (hen : (q_sl (vr bb :: av)).length ≤ N.2.2.1) (hL : L.length = M.2.2.1) (hcat : (rest.map q_cat).sum ≤ 8) (hdd : d1 + 1 ≤ d) (hbb : 0 ≤ bb) (hstk : stk = av.reverse ++ vr bb :: rest) (c : Call d1 N (vr bb :: av) σ m none σ1 m1) (k : Ev d M (pc + 3) L rest σ1 m1 r σ' m') : Ev d M pc L stk σ m r σ' m' :=
  Ev.callI0 hd hN hl hin hnm hrt hn hen hL hcat hdd hbb hstk c k
theorem Ev.callINv {N : Md} {d1 n idx : Nat} {host : String} {bb : Int} {av stk rest : List AV} {σ1 : Sg} {m1 : Mm} (hd : decode M.2.1 pc = .ok (.invokespecial idx, 3)) (hN : q_mt N n) (hl : Cond.methodLinkNest M.1.cls idx N.1 host ∈ lw_tbl) (hin : Cond.instanceMethod N.1 ∈ lw_tbl) (hnm : N.1.name = "<init>") (hrt : N.2.2.2 = none) (hn : av.length = n) (hen : (q_sl (vr bb :: av)).length ≤ N.2.2.1) (hL : L.length = M.2.2.1) (hcat : (rest.map q_cat).sum ≤ 8) (hdd : d1 + 1 ≤ d) (hbb : 0 ≤ bb) (hstk : stk = av.reverse ++ vr bb :: rest) (c : Call d1 N (vr bb :: av) σ m none σ1 m1) (k : Ev d M (pc + 3) L rest σ1 m1 r σ' m') : Ev d M pc L stk σ m r σ' m' :=
  Ev.callIN0 hd hN hl hin hnm hrt hn hen hL hcat hdd hbb hstk c k
theorem Ev.objInit {a : Int} {idx : Nat} {rest : List AV} (hd : decode M.2.1 pc = .ok (.invokespecial idx, 3)) (hl : Cond.methodLink M.1.cls idx objectInit ∈ lw_tbl) (hw : Cond.instanceMethod objectInit ∈ lw_tbl) (hcd : Cond.code objectInit ⟨#[0xb1]⟩ 1 none ∈ lw_tbl) (h0 : 0 ≤ a) (hL : L.length = M.2.2.1) (hcat : (rest.map q_cat).sum ≤ 8) (hdd : 1 ≤ d) (k : Ev d M (pc + 3) L rest σ m r σ' m') : Ev d M pc L (vr a :: rest) σ m r σ' m' := by
  refine Ev.mem ⟨rfl, rfl⟩ (fun {l s0 b pf pt D} hG {p e R s mi args below meth c} hC {Q cells slots H locs ls} hH hf1 hl1 kk => ?_) k
  obtain ⟨a0, hts0⟩ := hG.1
  have hW := hC.2.2.2.2.2.2.2.1
  have hd1 := hC.2.2.2.2.2.2.2.2.1
  have hd2 := hC.2.2.2.2.2.2.2.2.2
  have hcs := q_catsum (q_ad s0.heap.size b pf pt) rest hcat
  rw [q_mp1 h0]
  exact W.objInit hC.1 hC.2.1 hC.2.2.2.2.1 (q_w hts0 hW hl rfl) (q_w hts0 hW hw rfl) (q_w hts0 hW hcd rfl) rfl (hl1.1.trans (hL.trans hC.2.2.2.1.symm)) rfl hd (by omega) (by show 2 * 0 + _ + 12 ≤ _; omega) (kk H locs hH hf1)
/-- arraycopy between two rows of one kind -/
def mcp (m : Mm) (a sp b dp n : Int) : Mm := fun c j => if c = b ∧ dp ≤ j ∧ j < dp + n then m a (sp + (j - dp)) else m c j
theorem Ev.copy {a a2 n1 n2 sp dp n : Int} {t idx : Nat} {rest : List AV} (hd : decode M.2.1 pc = .ok (.invokestatic idx, 3)) (hl : Cond.methodLink M.1.cls idx arraycopyName ∈ lw_tbl) (hw1 : Cond.native arraycopyName ∈ lw_tbl) (hw2 : Cond.static arraycopyName ∈ lw_tbl) (hw3 : Cond.initialized "java/lang/System" ∈ lw_tbl) (ht : t = 100 ∨ t = 101) (hs : Is σ a t n1) (hs2 : Is σ a2 t n2) (h3 : 3 ≤ a ∧ 3 ≤ a2) (h1 : 0 ≤ sp ∧ sp + n ≤ n1) (h2 : 0 ≤ dp ∧ dp + n ≤ n2) (hn : 0 ≤ n) (hL : L.length = M.2.2.1) (hcat : (rest.map q_cat).sum ≤ 8) (hdd : 2 ≤ d) (k : Ev d M (pc + 3) L rest σ (mcp m a sp a2 dp n) r σ' m') : Ev d M pc L (vi n :: vi dp :: vr a2 :: vi sp :: vr a :: rest) σ m r σ' m' := by
  refine Ev.mem (σ2 := σ) (m2 := mcp m a sp a2 dp n) ⟨rfl, rfl⟩ (fun {l s0 b pf pt D} hG {p e R s mi args below meth c} hC {Q cells slots H locs ls} hH hf1 hl1 kk => ?_) k
  obtain ⟨a0, hts0⟩ := hG.1
  have hW := hC.2.2.2.2.2.2.2.1
  have hd1 := hC.2.2.2.2.2.2.2.2.1
  have hd2 := hC.2.2.2.2.2.2.2.2.2
  have hcs := q_catsum (q_ad s0.heap.size b pf pt) rest hcat
  have hcl := hH.2.2.2.1 a h3.1 hs.2.1
  rw [hs.2.2.1, hs.2.2.2] at hcl
  obtain ⟨cA, g1, g2, g3, g4⟩ := hcl.2 (by omega)
  have hcl2 := hH.2.2.2.1 a2 h3.2 hs2.2.1
  rw [hs2.2.2.1, hs2.2.2.2] at hcl2
  obtain ⟨cB, f1, f2, f3, f4⟩ := hcl2.2 (by omega)
  have ea : (vi n :: vi dp :: vr a2 :: vi sp :: vr a :: rest).map (q_cv (q_ad s0.heap.size b pf pt)) = .int (Int32.ofInt n) :: .int (Int32.ofInt dp) :: .ref (q_ad s0.heap.size b pf pt a2) :: .int (Int32.ofInt sp) :: .ref (q_ad s0.heap.size b pf pt a) :: rest.map (q_cv (q_ad s0.heap.size b pf pt)) := by
    simp only [List.map_cons, q_ref hs.1, q_ref hs2.1]
    rfl
  rw [ea]
  intro T hT X
  obtain ⟨-, k0, hk0, cm0, hkk0⟩ := (arrOfT_moved hW.alike g1) n1.toNat (q_av (q_ad s0.heap.size b pf pt) t (m a) (σ.2.2.2.2 a))
  obtain ⟨-, k1, hk1, cm1, hkk1⟩ := (arrOfT_moved hW.alike f1) n2.toNat (q_av (q_ad s0.heap.size b pf pt) t (m a2) (σ.2.2.2.2 a2))
  have hprim : refKind (q_aty t) = false := by rcases ht with rfl | rfl <;> rfl
  have en : (Int32.ofInt n).toInt = n := q_i32 (by omega)
  have es : (Int32.ofInt sp).toInt = sp := q_i32 (by omega)
  have ed : (Int32.ofInt dp).toInt = dp := q_i32 (by omega)
  have cn : (Int32.ofInt n).toNatClampNeg = n.toNat := q_clamp hn (by omega)
  have cs : (Int32.ofInt sp).toNatClampNeg = sp.toNat := q_clamp h1.1 (by omega)
  have cdp : (Int32.ofInt dp).toNatClampNeg = dp.toNat := q_clamp h2.1 (by omega)
  have hnf : nativeFrameWords "java/lang/System" "arraycopy" 5 ≤ 50 := by decide +kernel
  obtain ⟨vm', X', step⟩ := X.arraycopy hC.1 hC.2.2.2.2.1 (q_w hts0 hW hl rfl) (q_w hts0 hW hw1 rfl) (q_w hts0 hW hw2 rfl) (q_w hts0 hW hw3 rfl) (src := q_ad s0.heap.size b pf pt a) (dst := q_ad s0.heap.size b pf pt a2) (cs := arrV cA n1.toNat (q_av (q_ad s0.heap.size b pf pt) t (m a) (σ.2.2.2.2 a))) (cd := arrV cB n2.toNat (q_av (q_ad s0.heap.size b pf pt) t (m a2) (σ.2.2.2.2 a2))) (srcPos := Int32.ofInt sp) (destPos := Int32.ofInt dp) (n := Int32.ofInt n) (by rw [hT]; exact g4) (by rw [hT]; exact f4)
    (fun _ h => by cases h) (fun _ h => by cases h) (fun h => by cases h) (fun h => by cases h) hk0 hk1 hkk0 hkk1 (by simp [hprim]) (by rw [q_z, q_lt (by omega) (by omega)]; omega) (by rw [q_z, q_lt (by omega) (by omega)]; omega) (by rw [q_z, q_lt (by omega) (by omega)]; omega)
    (by rw [es, en, arrV_size]; omega) (by rw [ed, en, arrV_size]; omega)
    (fun vm₁ _ i hi => by
      rw [cn] at hi
      rw [cs]
      have e9 : (arrV cA n1.toNat (q_av (q_ad s0.heap.size b pf pt) t (m a) (σ.2.2.2.2 a))).slots.getD (sp.toNat + i) .null = q_av (q_ad s0.heap.size b pf pt) t (m a) (σ.2.2.2.2 a) (sp.toNat + i) := by
        rw [Array.getD_eq_getD_getElem?, arrV_read _ _ (by omega)]
        rfl
      rw [e9]
      rcases ht with rfl | rfl
      · exact ⟨rfl, trivial⟩
      · exact ⟨rfl, trivial⟩)
    (g := F0 mi pc ls _) rfl (hl1.1.trans (hL.trans hC.2.2.2.1.symm)) (rest := rest.map (q_cv (q_ad s0.heap.size b pf pt))) rfl (by rw [hC.2.1]; exact hd) (by omega) (by show 2 * 0 + _ + _ ≤ _; omega)
  have e1 : copied (arrV cA n1.toNat (q_av (q_ad s0.heap.size b pf pt) t (m a) (σ.2.2.2.2 a))) (arrV cB n2.toNat (q_av (q_ad s0.heap.size b pf pt) t (m a2) (σ.2.2.2.2 a2))) (Int32.ofInt sp) (Int32.ofInt dp) (Int32.ofInt n) = arrV cB n2.toNat (va_cpy (q_av (q_ad s0.heap.size b pf pt) t (m a) (σ.2.2.2.2 a)) (q_av (q_ad s0.heap.size b pf pt) t (m a2) (σ.2.2.2.2 a2)) sp.toNat dp.toNat n.toNat) := by
    have := va_copied (fun z => z) cA cB (n0 := n1.toNat) (n1 := n2.toNat) (sp := sp.toNat) (dp := dp.toNat) (n := n.toNat) (q_av (q_ad s0.heap.size b pf pt) t (m a) (σ.2.2.2.2 a)) (q_av (q_ad s0.heap.size b pf pt) t (m a2) (σ.2.2.2.2 a2)) (by omega)
    rw [← this]
    show (arrV _ _ _).storeRun (Int32.ofInt dp).toNatClampNeg ((arrV _ _ _).stretch (Int32.ofInt sp).toNatClampNeg (Int32.ofInt n).toNatClampNeg) = _
    rw [cdp, cs, cn]
  rw [e1] at X' step
  have hlt : q_ad s0.heap.size b pf pt a2 < H.size := (Array.getElem?_eq_some_iff.mp f4).1
  have e2 : arrV cB n2.toNat (va_cpy (q_av (q_ad s0.heap.size b pf pt) t (m a) (σ.2.2.2.2 a)) (q_av (q_ad s0.heap.size b pf pt) t (m a2) (σ.2.2.2.2 a2)) sp.toNat dp.toNat n.toNat) = arrV cB n2.toNat (q_av (q_ad s0.heap.size b pf pt) t (mcp m a sp a2 dp n a2) (σ.2.2.2.2 a2)) := by
    congr 1
    funext j
    simp only [va_cpy]
    by_cases hj : dp.toNat ≤ j ∧ j < dp.toNat + n.toNat
    · rw [if_pos hj]
      have em : mcp m a sp a2 dp n a2 (j : Int) = m a (sp + ((j : Int) - dp)) := if_pos (by omega)
      have ec : ((sp.toNat + (j - dp.toNat) : Nat) : Int) = sp + ((j : Int) - dp) := by omega
      rcases ht with rfl | rfl
      · show Value.int (Int32.ofInt (m a ((sp.toNat + (j - dp.toNat) : Nat) : Int))) = Value.int (Int32.ofInt (mcp m a sp a2 dp n a2 (j : Int)))
        rw [em, ec]
      · show Value.long (Int64.ofInt (m a ((sp.toNat + (j - dp.toNat) : Nat) : Int))) = Value.long (Int64.ofInt (mcp m a sp a2 dp n a2 (j : Int)))
        rw [em, ec]
    · rw [if_neg hj]
      have em : mcp m a sp a2 dp n a2 (j : Int) = m a2 (j : Int) := if_neg (by omega)
      rcases ht with rfl | rfl
      · show Value.int (Int32.ofInt (m a2 (j : Int))) = Value.int (Int32.ofInt (mcp m a sp a2 dp n a2 (j : Int)))
        rw [em]
      · show Value.long (Int64.ofInt (m a2 (j : Int))) = Value.long (Int64.ofInt (mcp m a sp a2 dp n a2 (j : Int)))
        rw [em]
  rw [e2] at X' step
  have hheap : ((T.setVm vm').setCell (q_ad s0.heap.size b pf pt a2) (arrV cB n2.toNat (q_av (q_ad s0.heap.size b pf pt) t (mcp m a sp a2 dp n a2) (σ.2.2.2.2 a2)))).heap = H.setIfInBounds (q_ad s0.heap.size b pf pt a2) (arrV cB n2.toNat (q_av (q_ad s0.heap.size b pf pt) t (mcp m a sp a2 dp n a2) (σ.2.2.2.2 a2))) := by rw [← hT]; rfl
  refine (kk _ _ (q_HR_set hG hH ⟨h3.2, hs2.2.1⟩ (by simp) (fun q hq => by simp [Array.getElem?_setIfInBounds, Ne.symm hq]) ⟨rfl, rfl, rfl⟩ (fun a' ha' => ⟨by funext j; exact if_neg (fun q => ha' q.1), rfl⟩) ?_) ?_ _ hheap X').elim (fun t2 h => ⟨t2, step t2 h.1, h.2⟩)
  · rw [hs2.2.2.1, hs2.2.2.2]
    refine ⟨fun h => absurd h (by omega), fun _ => ⟨cB, f1, f2, f3, ?_⟩⟩
    simp [Array.getElem?_setIfInBounds, hlt]
  · intro q hq
    rcases List.mem_append.mp hq with h | h
    · exact hf1 q h
    · obtain ⟨z, -, hz⟩ := List.mem_map.mp h
      rw [← hz]
      show _ ≤ q_ad _ _ _ _ a2
      rw [q_ad3 h3.2]
      omega
end
