section
variable {d : Nat} {M : Md} {pc : Nat} {L : List (Option AV)} {st : List AV} {σ σ' : Sg} {m m' : Mm} {r : Option AV}
/-! the class's two static rows -/
theorem q_gets {s0 : State} {D : va_G} {b pf pt : Nat} {H : Heap} {idx : Nat} {nm : String} {v : Value} {l : Launch} {p : Program} {e : Env} {R : Room} {s : State} {mi : MethodId} {args : Array Value} {below : List Frame} {meth : Method} {c : Code} {Q : State → Prop} {cells slots : Nat} {locs : List Loc} {ls : Array Slot} {rest : List Value}
    (hG : q_G s0 b pf pt D) (hC : q_SC s0 M d p R s mi meth c) (hH : q_HR s0 D (q_ad s0.heap.size b pf pt) σ m H) (hZ : va_Z "FloorCurves" nm "[I" v (fun q => s0.heap.size ≤ q) s0 s0.heap) (hl : Cond.fieldLink M.1.cls idx "FloorCurves" nm "[I" ∈ lw_tbl) (hd : decode M.2.1 pc = .ok (.getstatic idx, 3))
    (kk : W p l e R s mi args below meth c H locs cells slots Q (F0 mi (pc + 3) ls (v :: rest))) : W p l e R s mi args below meth c H locs cells slots Q (F0 mi pc ls rest) := by
  obtain ⟨a0, hts0⟩ := hG.1
  have hW := hC.2.2.2.2.2.2.2.1
  obtain ⟨cf, kf, fi, f, a, cell, h1, h2, h3, h4, h5, h6, h7, h8⟩ := hZ.moved hW.alike
  exact W.gets hC.1 hC.2.1 hC.2.2.2.2.1 (q_w hts0 hW hl rfl) h1 h2 h3 h4 (by rw [hH.2.2.1 a (Array.getElem?_eq_some_iff.mp h5).1]; exact h5) (fun e => by rw [e] at h6; cases h6) h7 rfl hd kk
theorem Ev.getF {idx : Nat} (hd : decode M.2.1 pc = .ok (.getstatic idx, 3)) (hl : Cond.fieldLink M.1.cls idx "FloorCurves" "PAIR_FROM" "[I" ∈ lw_tbl) (kk : Ev d M (pc + 3) L (vr 1 :: st) σ m r σ' m') : Ev d M pc L st σ m r σ' m' :=
  Ev.mem ⟨rfl, rfl⟩ (fun {l s0 b pf pt D} hG {p e R s mi args below meth c} hC {Q cells slots H locs ls} hH hf1 _ kk => q_gets hG hC hH hG.2.2.1 hl hd (kk _ _ hH hf1)) kk
theorem Ev.getT {idx : Nat} (hd : decode M.2.1 pc = .ok (.getstatic idx, 3)) (hl : Cond.fieldLink M.1.cls idx "FloorCurves" "PAIR_TO" "[I" ∈ lw_tbl) (kk : Ev d M (pc + 3) L (vr 2 :: st) σ m r σ' m') : Ev d M pc L st σ m r σ' m' :=
  Ev.mem ⟨rfl, rfl⟩ (fun {l s0 b pf pt D} hG {p e R s mi args below meth c} hC {Q cells slots H locs ls} hH hf1 _ kk => q_gets hG hC hH hG.2.2.2.1 hl hd (kk _ _ hH hf1)) kk
theorem q_getsN {s0 : State} {D : va_G} {b pf pt : Nat} {H : Heap} {idx : Nat} {nm : String} {v : Value} {l : Launch} {p : Program} {e : Env} {R : Room} {s : State} {mi : MethodId} {args : Array Value} {below : List Frame} {meth : Method} {c : Code} {Q : State → Prop} {cells slots : Nat} {locs : List Loc} {ls : Array Slot} {rest : List Value}
    (hG : q_G s0 b pf pt D) (hC : q_SC s0 M d p R s mi meth c) (hH : q_HR s0 D (q_ad s0.heap.size b pf pt) σ m H) (hZ : va_Z "FloorCurves" nm "[I" v (fun q => s0.heap.size ≤ q) s0 s0.heap) (hl : Cond.fieldLinkNest M.1.cls idx "FloorCurves" nm "[I" "FloorCurves" ∈ lw_tbl) (hd : decode M.2.1 pc = .ok (.getstatic idx, 3))
    (kk : W p l e R s mi args below meth c H locs cells slots Q (F0 mi (pc + 3) ls (v :: rest))) : W p l e R s mi args below meth c H locs cells slots Q (F0 mi pc ls rest) := by
  obtain ⟨a0, hts0⟩ := hG.1
  have hW := hC.2.2.2.2.2.2.2.1
  obtain ⟨cf, kf, fi, f, a, cell, h1, h2, h3, h4, h5, h6, h7, h8⟩ := hZ.moved hW.alike
  exact va_WgetsN hC.1 hC.2.1 hC.2.2.2.2.1 (va_Nw.use rfl (va_Nw.warmF hW (va_Nw.of rfl (hts0 _ hl)))) h1 h2 h3 h4 (by rw [hH.2.2.1 a (Array.getElem?_eq_some_iff.mp h5).1]; exact h5) (fun e => by rw [e] at h6; cases h6) h7 rfl hd kk
theorem Ev.getFN {idx : Nat} (hd : decode M.2.1 pc = .ok (.getstatic idx, 3)) (hl : Cond.fieldLinkNest M.1.cls idx "FloorCurves" "PAIR_FROM" "[I" "FloorCurves" ∈ lw_tbl) (kk : Ev d M (pc + 3) L (vr 1 :: st) σ m r σ' m') : Ev d M pc L st σ m r σ' m' :=
  Ev.mem ⟨rfl, rfl⟩ (fun {l s0 b pf pt D} hG {p e R s mi args below meth c} hC {Q cells slots H locs ls} hH hf1 _ kk => q_getsN hG hC hH hG.2.2.1 hl hd (kk _ _ hH hf1)) kk
theorem Ev.getTN {idx : Nat} (hd : decode M.2.1 pc = .ok (.getstatic idx, 3)) (hl : Cond.fieldLinkNest M.1.cls idx "FloorCurves" "PAIR_TO" "[I" "FloorCurves" ∈ lw_tbl) (kk : Ev d M (pc + 3) L (vr 2 :: st) σ m r σ' m') : Ev d M pc L st σ m r σ' m' :=
  Ev.mem ⟨rfl, rfl⟩ (fun {l s0 b pf pt D} hG {p e R s mi args below meth c} hC {Q cells slots H locs ls} hH hf1 _ kk => q_getsN hG hC hH hG.2.2.2.1 hl hd (kk _ _ hH hf1)) kk
theorem Ev.ldc {idx : Nat} {x : Int} (hd : decode M.2.1 pc = .ok (.ldc idx, 2)) (hl : Cond.constant M.1.cls idx (Int32.ofInt x) ∈ lw_tbl) (kk : Ev d M (pc + 2) L (vi x :: st) σ m r σ' m') : Ev d M pc L st σ m r σ' m' :=
  Ev.mem ⟨rfl, rfl⟩ (fun {l s0 b pf pt D} hG {p e R s mi args below meth c} hC {Q cells slots H locs ls} hH hf1 _ kk => by
    obtain ⟨a0, hts0⟩ := hG.1
    exact lv_ldc hC.1 hC.2.1 hC.2.2.2.2.1 (q_w hts0 hC.2.2.2.2.2.2.2.1 hl rfl) hd (kk _ _ hH hf1)) kk
theorem Ev.ldc2 {idx : Nat} {x : Int} (hd : decode M.2.1 pc = .ok (.ldc2_w idx, 3)) (hl : Cond.constantLong M.1.cls idx (Int64.ofInt x) ∈ lw_tbl) (kk : Ev d M (pc + 3) L (vl x :: st) σ m r σ' m') : Ev d M pc L st σ m r σ' m' :=
  Ev.mem ⟨rfl, rfl⟩ (fun {l s0 b pf pt D} hG {p e R s mi args below meth c} hC {Q cells slots H locs ls} hH hf1 _ kk => by
    obtain ⟨a0, hts0⟩ := hG.1
    exact lv_ldc2 hC.1 hC.2.1 hC.2.2.2.2.1 (q_w hts0 hC.2.2.2.2.2.2.2.1 hl rfl) hd (kk _ _ hH hf1)) kk
/-! making -/
theorem Ev.alloc {pc2 : Nat} {st2 : List AV} {t : Nat} {n c : Int} (hc0 : 0 ≤ c) (h : ∀ {l : Launch} {s0 : State} {b pf pt : Nat} {D : va_G}, q_G s0 b pf pt D → ∀ {p : Program} {e : Env} {R : Room} {s : State} {mi : MethodId} {args : Array Value} {below : List Frame} {meth : Method} {cd : Code}, q_SC s0 M d p R s mi meth cd → ∀ {Q : State → Prop} {cells slots : Nat} {H : Heap} {locs : List Loc} {ls : Array Slot}, q_HR s0 D (q_ad s0.heap.size b pf pt) σ m H → cells + 1 ≤ R.cells → slots + c.toNat ≤ R.slots →
    (∀ (H1 : Heap), q_HR s0 D (q_ad s0.heap.size b pf pt) (sn σ t n c) (mz m σ.1) H1 → W p l e R s mi args below meth cd H1 locs (cells + 1) (slots + c.toNat) Q (F0 mi pc2 ls (st2.map (q_cv (q_ad s0.heap.size b pf pt))))) → W p l e R s mi args below meth cd H locs cells slots Q (F0 mi pc ls (st.map (q_cv (q_ad s0.heap.size b pf pt))))) (k : Ev d M pc2 L st2 (sn σ t n c) (mz m σ.1) r σ' m') : Ev d M pc L st σ m r σ' m' := by
  have hle : σ.1 + 1 ≤ σ'.1 ∧ σ.2.1 + c ≤ σ'.2.1 := k.1
  refine ⟨⟨by omega, by omega⟩, fun l s0 b pf pt D hG p e R s mi args below meth cd n0 k0 hC h1 h2 h3 h4 H locs ls hH hf hl => h hG hC hH (by omega) (by omega) (fun H1 hH1 => ?_)⟩
  have := k.2 l s0 b pf pt D hG p e R s mi args below meth cd n0 k0 hC (by show n0 ≤ σ.1 + 1; omega) (by show k0 ≤ σ.2.1 + c; omega) h3 h4 H1 locs ls hH1 hf hl
  have e1 : ((sn σ t n c).1 - n0).toNat = (σ.1 - n0).toNat + 1 := by show (σ.1 + 1 - n0).toNat = _; omega
  have e2 : ((sn σ t n c).2.1 - k0).toNat = (σ.2.1 - k0).toNat + c.toNat := by show (σ.2.1 + c - k0).toNat = _; omega
  rw [e1, e2] at this
  exact this
def q_ln (own : String) (idx t : Nat) (N : Nat) : Prop := ∃ q, q_cls[t]? = some q ∧ q.2.2 = N ∧ Cond.classLink own idx q.1 ∈ lw_tbl ∧ Cond.instantiable q.1 q.2.2 ∈ lw_tbl ∧ Cond.initialized q.1 ∈ lw_tbl
theorem q_dv (A : Int → Nat) (t k : Nat) (q : vw_C) (hq : q_cls[t]? = some q) (hk : k < q.2.2) : defaultValue (q_ty t k) = q_fv A t (fun _ => 0) (fun _ => -1) k := by
  have key : ∀ t, t < 9 → ∀ k, k < 40 → k < (q_cls[t]?.map (fun q => q.2.2)).getD 0 → (q_fref t k = true → defaultValue (q_ty t k) = .null) ∧ (q_fref t k = false → defaultValue (q_ty t k) = .int 0) := by decide +kernel
  have hlen : ∀ t, t < 9 → (q_cls[t]?.map (fun q => q.2.2)).getD 0 ≤ 40 := by decide +kernel
  have ht : t < 9 := (List.getElem?_eq_some_iff.mp hq).1
  have hl := hlen t ht
  rw [hq] at hl
  have hl' : q.2.2 ≤ 40 := hl
  have h := key t ht k (by omega) (by rw [hq]; exact hk)
  unfold q_fv
  cases hr : q_fref t k with
  | true => rw [if_pos rfl, h.1 hr]; rfl
  | false => rw [if_neg (by decide), h.2 hr]; rfl
theorem Ev.new {idx t : Nat} {N : Nat} (hd : decode M.2.1 pc = .ok (.new idx, 3)) (hw : q_ln M.1.cls idx t N) (ht : t < 100) (k : Ev d M (pc + 3) L (vr σ.1 :: st) (sn σ t 0 N) (mz m σ.1) r σ' m') : Ev d M pc L st σ m r σ' m' := by
  refine Ev.alloc (c := N) (by omega) (fun {l s0 b pf pt D} hG {p e R s mi args below meth cd} hC {Q cells slots H locs ls} hH hc1 hc2 kk => ?_) k
  obtain ⟨q, hq, rfl, w1, w2, w3⟩ := hw
  obtain ⟨a0, hts0⟩ := hG.1
  have hW := hC.2.2.2.2.2.2.2.1
  have hKn := u_Kn_moved hW.alike (hG.2.1 t q hq)
  have hts := q_uw (args := args) hts0 hW (q_clsOk t q hq).2.2
  refine W.newcK hC.1 hC.2.1 hC.2.2.2.2.1 (q_w hts0 hW w1 rfl) (q_w hts0 hW w2 rfl) (q_w hts0 hW w3 rfl) rfl hd hc1 (by omega) hKn.2.1 rfl fun H1 kC hkC e1 z1 o1 => ?_
  have hcell : q_cell s0 D (q_ad s0.heap.size b pf pt) t 0 (fun _ => 0) (fun _ => -1) H.size H1 := by
    refine ⟨fun _ => ⟨q, hq, ?_⟩, fun h => absurd ht h⟩
    exact (u_born (q_ty t) hts (fun _ h => h) hKn hkC e1 (q_clsOk t q hq).2.1).to (fun j hj => q_dv _ t j q hq hj)
  have := kk H1 (q_HR_push hG hH z1 o1 hcell)
  rw [q_mp1 (by have := hH.1; omega), q_ad3 hH.1, ← hH.2.1] at this
  have e2 : ((q.2.2 : Nat) : Int).toNat = q.2.2 := by omega
  rw [e2] at this
  exact this
def q_at (t : Nat) : ArrayType := if t = 100 then .int else if t = 101 then .long else if t = 102 then .byte else .boolean
theorem Ev.newarray {t : Nat} {ty : ArrayType} {n : Int} (hd : decode M.2.1 pc = .ok (.newarray ty, 2)) (hy : newarray.typeOf ty = q_aty t) (hdv : defaultValue (q_aty t) = q_av (fun _ => 0) t (fun _ => 0) (fun _ => -1) 0) (ht : ¬ t < 100 ∧ t < 200) (hl : Cond.arrayClass (q_aty t) ∈ lw_tbl) (hn : 0 ≤ n ∧ n ≤ 60000) (hcb : componentBytes (q_aty t) ≤ 8) (k : Ev d M (pc + 2) L (vr σ.1 :: st) (sn σ t n n) (mz m σ.1) r σ' m') : Ev d M pc L (vi n :: st) σ m r σ' m' := by
  refine Ev.alloc (c := n) hn.1 (fun {l s0 b pf pt D} hG {p e R s mi args below meth cd} hC {Q cells slots H locs ls} hH hc1 hc2 kk => ?_) k
  obtain ⟨a0, hts0⟩ := hG.1
  have hW := hC.2.2.2.2.2.2.2.1
  refine va_newaK hC.1 hC.2.1 (by rw [hy]; exact q_w hts0 hW hl rfl) rfl hd rfl (by rw [q_z, q_lt (by omega) (by omega)]; omega) (q_clamp hn.1 (by omega)) (by rw [hy]; have h8 : n.toNat * componentBytes (q_aty t) ≤ 60000 * 8 := Nat.mul_le_mul (by omega) hcb; omega) hc1 hc2 rfl fun H1 cA e1 z1 o1 hAr hNm => ?_
  have hcell : q_cell s0 D (q_ad s0.heap.size b pf pt) t n (fun _ => 0) (fun _ => -1) H.size H1 := by
    refine ⟨fun h => absurd h ht.1, fun _ => ⟨cA, ?_, ?_, ⟨hn.1, by omega⟩, ?_⟩⟩
    · rw [← hy]; exact arrOfT_moved hW.alike.symm hAr
    · rw [← hy]
      have h2 : s0.vm.findClass ("[" ++ (newarray.typeOf ty).toString) = some cA := by rw [← hW.alike.findClass]; exact hNm
      cases ty <;> exact h2
    · have e9 : (fun _ : Nat => q_av (fun _ => 0) t (fun _ => 0) (fun _ => -1) 0) = q_av (q_ad s0.heap.size b pf pt) t (fun _ => 0) (fun _ => -1) := by
        funext j
        unfold q_av
        split
        · rfl
        split
        · rfl
        · omega
      rw [e1, hy, hdv, e9]
  have := kk H1 (q_HR_push hG hH z1 o1 hcell)
  rw [q_mp1 (by have := hH.1; omega), q_ad3 hH.1, ← hH.2.1] at this
  exact this
theorem Ev.anewarray {c idx : Nat} {C : String} {n : Int} (hd : decode M.2.1 pc = .ok (.anewarray idx, 3)) (hq : q_aty (200 + c) = .object C) (hl : Cond.classLink M.1.cls idx C ∈ lw_tbl) (ho : Cond.arrayOver (.object C) ∈ lw_tbl) (hn : 0 ≤ n ∧ n ≤ 60000) (k : Ev d M (pc + 3) L (vr σ.1 :: st) (sn σ (200 + c) n n) (mz m σ.1) r σ' m') : Ev d M pc L (vi n :: st) σ m r σ' m' := by
  refine Ev.alloc (c := n) hn.1 (fun {l s0 b pf pt D} hG {p e R s mi args below meth cd} hC {Q cells slots H locs ls} hH hc1 hc2 kk => ?_) k
  obtain ⟨a0, hts0⟩ := hG.1
  have hW := hC.2.2.2.2.2.2.2.1
  have hov : va_AO C s := va_AO.moved hW.alike (va_AO.of (hts0 _ ho))
  refine W.anew hC.1 hC.2.1 hC.2.2.2.2.1 (q_w hts0 hW hl rfl) (va_AO.use hov) rfl hd rfl (by rw [q_z, q_lt (by omega) (by omega)]; omega) (by rw [q_clamp hn.1 (by omega)]; omega) hc1 (by rw [q_clamp hn.1 (by omega)]; exact hc2) fun cA kA comp f1 f2 f3 f4 => ?_
  rw [q_clamp hn.1 (by omega)]
  generalize hH1 : H.push ({ cls := cA, slots := Array.replicate n.toNat .null, vm := .none } : Cell) = H1
  have z1 : H1.size = H.size + 1 := by rw [← hH1, Array.size_push]
  have e1 : H1[H.size]? = some (arrV cA n.toNat (fun _ => .null)) := by rw [← hH1, Array.getElem?_push_size, ← arrV_new]
  have o1 : ∀ q : Nat, q < H.size → H1[q]? = H[q]? := fun q hq => by rw [← hH1, Array.getElem?_push, if_neg (Nat.ne_of_lt hq)]
  have hAr : ArrOfT s cA (.object C) := fun N z => ⟨(fun k h => by cases h), kA, f2, comp, f3⟩
  have hRA : va_RA s cA (.object C) := ⟨kA, comp, f2, f3, f4, f1⟩
  have hcell : q_cell s0 D (q_ad s0.heap.size b pf pt) (200 + c) n (fun _ => 0) (fun _ => -1) H.size H1 := by
    refine ⟨fun h => absurd h (by omega), fun _ => ⟨cA, ?_, ?_, ⟨hn.1, by omega⟩, ?_⟩⟩
    · rw [hq]; exact arrOfT_moved hW.alike.symm hAr
    · rw [hq]; exact hRA.moved hW.alike.symm
    · rw [e1]
      congr 2
      funext j
      unfold q_av
      rw [if_neg (by omega), if_neg (by omega)]
      rfl
  have := kk H1 (q_HR_push hG hH z1 o1 hcell)
  rw [q_mp1 (by have := hH.1; omega), q_ad3 hH.1, ← hH.2.1] at this
  exact this
theorem Ev.aastore {a i n x n2 : Int} {c : Nat} (hd : decode M.2.1 pc = .ok (.aastore, 1)) (hs : Is σ a (200 + c) n) (h3 : 3 ≤ a) (hi : 0 ≤ i ∧ i < n) (hx : Is σ x c n2) (hc9 : c < 9) (k : Ev d M (pc + 1) L st (su σ a i x) m r σ' m') : Ev d M pc L (vr x :: vi i :: vr a :: st) σ m r σ' m' := by
  refine Ev.mem (σ2 := su σ a i x) (m2 := m) ⟨rfl, rfl⟩ (fun {l s0 b pf pt D} hG {p e R s mi args below meth cd} hC {Q cells slots H locs ls} hH hf hl kk => ?_) k
  have hW := hC.2.2.2.2.2.2.2.1
  have hcl := hH.2.2.2.1 a h3 hs.2.1
  rw [hs.2.2.1, hs.2.2.2] at hcl
  obtain ⟨cA, g1, g2, g3, g4⟩ := hcl.2 (by omega)
  obtain ⟨-, q, hq, cellV, v1, v2, v3, v4⟩ := q_HR_obj hH hx (by omega)
  have hKn := u_Kn_moved hW.alike (hG.2.1 c q hq)
  have hty : q_aty (200 + c) = .object q.1 := by
    unfold q_aty
    rw [if_neg (by omega), if_neg (by omega), if_neg (by omega), if_neg (by omega), show 200 + c - 200 = c by omega, hq]
    rfl
  rw [hty] at g2
  obtain ⟨kA, comp, k1, k2, k3, -⟩ := g2.moved hW.alike
  have hcomp : comp = D.1 c := Option.some.inj (k3.symm.trans hKn.2.1)
  subst hcomp
  obtain ⟨kC, hkC, -⟩ := hKn.2.2
  rw [List.map_cons, q_mp2 hs.1, q_ref hx.1]
  refine W.aast hC.1 hC.2.1 g4 (fun q h => by cases h) (fun h => by cases h) k1 k2 rfl hkC ⟨by rw [q_z, q_lt (by omega) (by omega)]; omega, by rw [arrV_size, q_clamp hi.1 (by omega)]; omega⟩ v1 (fun q h => by rw [v3] at h; cases h) (by rw [v2]; exact hkC) (by rw [v2]; exact va_assign hKn.2) rfl rfl hd fun H1 e z oq => kk H1 _ ?_ (q_inr (b := b) (pf := pf) (pt := pt) (a := a) hH hf (by show _ ≤ q_ad _ _ _ _ a; rw [q_ad3 h3]; omega))
  refine q_HR_set hG hH ⟨h3, hs.2.1⟩ z oq ⟨rfl, rfl, rfl⟩ (fun a' ha' => ⟨rfl, by funext j; exact if_neg (fun q => ha' q.1)⟩) ?_
  rw [hs.2.2.1, hs.2.2.2]
  refine ⟨fun h => absurd h (by omega), fun _ => ⟨cA, g1, by rw [hty]; exact g2, g3, ?_⟩⟩
  rw [e, arrV_store, q_clamp hi.1 (by omega)]
  congr 2
  funext j
  have c1 : ¬ (200 + c = 101) := by omega
  have c2 : ¬ (200 + c < 200) := by omega
  simp only [updV, q_av, su, mu, if_neg c1, if_neg c2]
  by_cases hj : j = i.toNat
  · subst hj
    rw [if_pos rfl, show ((i.toNat : Nat) : Int) = i by omega]
    simp only [and_self, if_true]
    rw [q_ref hx.1]
  · rw [if_neg hj]
    have hj2 : ¬ ((j : Int) = i) := by omega
    simp [hj2]
end
