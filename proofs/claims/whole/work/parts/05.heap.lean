section
variable {d : Nat} {M : Md} {pc : Nat} {L : List (Option AV)} {st : List AV} {σ σ' : Sg} {m m' : Mm} {r : Option AV}
/-- cell a has tag t and length n -/
abbrev Is (σ : Sg) (a : Int) (t : Nat) (n : Int) : Prop := 0 ≤ a ∧ a < σ.1 ∧ σ.2.2.1 a = t ∧ σ.2.2.2.1 a = n
def mu (m : Mm) (a i x : Int) : Mm := fun b j => if b = a ∧ j = i then x else m b j
def mz (m : Mm) (a : Int) : Mm := fun b j => if b = a then 0 else m b j
def su (σ : Sg) (a i x : Int) : Sg := (σ.1, σ.2.1, σ.2.2.1, σ.2.2.2.1, mu σ.2.2.2.2 a i x)
def sn (σ : Sg) (t : Nat) (n c : Int) : Sg := (σ.1 + 1, σ.2.1 + c, fun a => if a = σ.1 then t else σ.2.2.1 a, fun a => if a = σ.1 then n else σ.2.2.2.1 a, fun a i => if a = σ.1 then -1 else σ.2.2.2.2 a i)
theorem q_ad3 {z b pf pt : Nat} {k : Int} (h : 3 ≤ k) : q_ad z b pf pt k = z + (k.toNat - 3) := by
  unfold q_ad
  rw [if_neg (by omega), if_neg (by omega), if_neg (by omega)]
theorem q_adl {z b pf pt : Nat} {k : Int} (h0 : 0 ≤ k) (h : k < 3) (hb : b < z) (h1 : pf < z) (h2 : pt < z) : q_ad z b pf pt k < z := by
  unfold q_ad
  split
  · exact hb
  split
  · exact h1
  split
  · exact h2
  · omega
theorem q_cell.kept {s0 : State} {D : va_G} {A : Int → Nat} {t : Nat} {n : Int} {f g : Int → Int} {a : Nat} {H H1 : Heap} (h : q_cell s0 D A t n f g a H) (e : H1[a]? = H[a]?) : q_cell s0 D A t n f g a H1 :=
  ⟨fun ht => by obtain ⟨q, h1, h2⟩ := h.1 ht; exact ⟨q, h1, h2.kept e⟩, fun ht => by obtain ⟨cA, h1, h2, h3, h4⟩ := h.2 ht; exact ⟨cA, h1, h2, h3, e.trans h4⟩⟩
theorem q_HR_set {s0 : State} {D : va_G} {b pf pt : Nat} {H H1 : Heap} {k : Int} {m1 : Mm} {σ1 : Sg} (hG : q_G s0 b pf pt D) (hH : q_HR s0 D (q_ad s0.heap.size b pf pt) σ m H) (hk : 3 ≤ k ∧ k < σ.1) (z : H1.size = H.size) (oq : ∀ q : Nat, q ≠ q_ad s0.heap.size b pf pt k → H1[q]? = H[q]?)
    (hs : σ1.1 = σ.1 ∧ σ1.2.2.1 = σ.2.2.1 ∧ σ1.2.2.2.1 = σ.2.2.2.1) (hm : ∀ a : Int, a ≠ k → m1 a = m a ∧ σ1.2.2.2.2 a = σ.2.2.2.2 a) (hc : q_cell s0 D (q_ad s0.heap.size b pf pt) (σ.2.2.1 k) (σ.2.2.2.1 k) (m1 k) (σ1.2.2.2.2 k) (q_ad s0.heap.size b pf pt k) H1) : q_HR s0 D (q_ad s0.heap.size b pf pt) σ1 m1 H1 := by
  obtain ⟨h3, hz, hold, hcl, ho⟩ := hH
  obtain ⟨e1, e2, e3⟩ := hs
  refine ⟨by rw [e1]; exact h3, by rw [z, hz, e1], fun q hq => ?_, fun a ha1 ha2 => ?_, fun a ha1 ha2 => ?_⟩
  · rw [oq q (by rw [q_ad3 hk.1]; omega)]
    exact hold q hq
  · rw [e1] at ha2
    rw [e2, e3]
    by_cases hak : a = k
    · subst hak
      exact hc
    · rw [(hm a hak).1, (hm a hak).2]
      exact (hcl a ha1 ha2).kept (oq _ (by rw [q_ad3 ha1, q_ad3 hk.1]; omega))
  · rw [e2, e3, (hm a (by omega)).1]
    exact ho a ha1 ha2
theorem q_HR_push {s0 : State} {D : va_G} {b pf pt : Nat} {H H1 : Heap} {t : Nat} {n c : Int} (hG : q_G s0 b pf pt D) (hH : q_HR s0 D (q_ad s0.heap.size b pf pt) σ m H) (z1 : H1.size = H.size + 1) (o1 : ∀ q : Nat, q < H.size → H1[q]? = H[q]?)
    (hc : q_cell s0 D (q_ad s0.heap.size b pf pt) t n (fun _ => 0) (fun _ => -1) H.size H1) : q_HR s0 D (q_ad s0.heap.size b pf pt) (sn σ t n c) (mz m σ.1) H1 := by
  obtain ⟨h3, hz, hold, hcl, ho⟩ := hH
  refine ⟨by show 3 ≤ σ.1 + 1; omega, by show H1.size = s0.heap.size + ((σ.1 + 1).toNat - 3); omega, fun q hq => (o1 q (by omega)).trans (hold q hq), fun a ha1 ha2 => ?_, fun a ha1 ha2 => ?_⟩
  · have ha2' : a < σ.1 + 1 := ha2
    by_cases hak : a = σ.1
    · subst hak
      have e1 : (sn σ t n c).2.2.1 σ.1 = t := if_pos rfl
      have e2 : (sn σ t n c).2.2.2.1 σ.1 = n := if_pos rfl
      have e3 : (sn σ t n c).2.2.2.2 σ.1 = fun _ => -1 := by funext i; exact if_pos rfl
      have e4 : mz m σ.1 σ.1 = fun _ => 0 := by funext i; exact if_pos rfl
      rw [e1, e2, e3, e4, show q_ad s0.heap.size b pf pt σ.1 = H.size by rw [q_ad3 h3, hz]]
      exact hc
    · have e1 : (sn σ t n c).2.2.1 a = σ.2.2.1 a := if_neg hak
      have e2 : (sn σ t n c).2.2.2.1 a = σ.2.2.2.1 a := if_neg hak
      have e3 : (sn σ t n c).2.2.2.2 a = σ.2.2.2.2 a := by funext i; exact if_neg hak
      have e4 : mz m σ.1 a = m a := by funext i; exact if_neg hak
      rw [e1, e2, e3, e4]
      exact (hcl a ha1 (by omega)).kept (o1 _ (by rw [q_ad3 ha1]; omega))
  · have e1 : (sn σ t n c).2.2.1 a = σ.2.2.1 a := if_neg (by omega)
    have e2 : (sn σ t n c).2.2.2.1 a = σ.2.2.2.1 a := if_neg (by omega)
    have e4 : mz m σ.1 a = m a := by funext i; exact if_neg (by omega)
    rw [e1, e2, e4]
    exact ho a ha1 ha2
/-- an array, of whatever kind, as it lies there -/
theorem q_HR_arr {s0 : State} {D : va_G} {b pf pt : Nat} {H : Heap} {a n : Int} {t : Nat} (hG : q_G s0 b pf pt D) (hH : q_HR s0 D (q_ad s0.heap.size b pf pt) σ m H) (hs : Is σ a t n) (ht : ¬ t < 100) : ∃ cell : Cell, H[q_ad s0.heap.size b pf pt a]? = some cell ∧ s0.isArrayOf cell (q_aty t) ∧ cell.vm ≠ .unknown ∧ n ≤ (cell.slots.size : Int) ∧ n ≤ 2147483647 ∧ Int32.ofNat cell.slots.size = Int32.ofInt n ∧ ∀ j : Nat, (j : Int) < n → cell.slots[j]? = some (q_av (q_ad s0.heap.size b pf pt) t (m a) (σ.2.2.2.2 a) j) := by
  obtain ⟨h3, hz, hold, hcl, ho⟩ := hH
  obtain ⟨a0, a1, a2, a3⟩ := hs
  by_cases hk : 3 ≤ a
  · have h := hcl a hk a1
    rw [a2, a3] at h
    obtain ⟨cA, g1, g2, g3, g4⟩ := h.2 ht
    refine ⟨_, g4, g1 _ _, (fun e => by cases e), (by rw [arrV_size]; omega), g3.2, (by rw [arrV_size, ← Int32.ofInt_eq_ofNat, show ((n.toNat : Nat) : Int) = n by omega]), fun j hj => ?_⟩
    rw [arrV_read _ _ (by omega)]
  · obtain ⟨g1, cell, c1, c2, c3, c4, c5, c7, c6⟩ := ho a a0 (by omega)
    rw [a2] at g1
    subst g1
    refine ⟨cell, ?_, c2, c3, by rw [← a3]; exact c4, by rw [← a3]; exact c5, by rw [← a3]; exact c7, fun j hj => ?_⟩
    · rw [hold _ (q_adl a0 (by omega) hG.2.2.2.2.1 hG.2.2.2.2.2.1 hG.2.2.2.2.2.2)]
      exact c1
    · rw [c6 j (by rw [a3]; exact hj)]
      rfl
/-- an object, as it lies there -/
theorem q_HR_obj {s0 : State} {D : va_G} {b pf pt : Nat} {H : Heap} {a n : Int} {t : Nat} (hH : q_HR s0 D (q_ad s0.heap.size b pf pt) σ m H) (hs : Is σ a t n) (ht : t < 100) : 3 ≤ a ∧ ∃ q, q_cls[t]? = some q ∧ t_OB (q_ad s0.heap.size b pf pt a) (D.1 t) q.2.2 (D.2 t) H (q_fv (q_ad s0.heap.size b pf pt) t (m a) (σ.2.2.2.2 a)) := by
  obtain ⟨h3, hz, hold, hcl, ho⟩ := hH
  obtain ⟨a0, a1, a2, a3⟩ := hs
  have hk : 3 ≤ a := by
    rcases Int.lt_or_le a 3 with h | h
    · have := (ho a a0 h).1
      omega
    · exact h
  have h := hcl a hk a1
  rw [a2, a3] at h
  exact ⟨hk, h.1 ht⟩
theorem Ev.mem {pc2 : Nat} {st2 : List AV} {σ2 : Sg} {m2 : Mm} (hs : σ2.1 = σ.1 ∧ σ2.2.1 = σ.2.1) (h : ∀ {l : Launch} {s0 : State} {b pf pt : Nat} {D : va_G}, q_G s0 b pf pt D → ∀ {p : Program} {e : Env} {R : Room} {s : State} {mi : MethodId} {args : Array Value} {below : List Frame} {meth : Method} {c : Code}, q_SC s0 M d p R s mi meth c → ∀ {Q : State → Prop} {cells slots : Nat} {H : Heap} {locs : List Loc} {ls : Array Slot}, q_HR s0 D (q_ad s0.heap.size b pf pt) σ m H → (∀ q ∈ locs, s0.heap.size ≤ q.base) → q_LR (q_ad s0.heap.size b pf pt) L ls →
    (∀ (H1 : Heap) (locs1 : List Loc), q_HR s0 D (q_ad s0.heap.size b pf pt) σ2 m2 H1 → (∀ q ∈ locs1, s0.heap.size ≤ q.base) → W p l e R s mi args below meth c H1 locs1 cells slots Q (F0 mi pc2 ls (st2.map (q_cv (q_ad s0.heap.size b pf pt))))) → W p l e R s mi args below meth c H locs cells slots Q (F0 mi pc ls (st.map (q_cv (q_ad s0.heap.size b pf pt))))) (k : Ev d M pc2 L st2 σ2 m2 r σ' m') : Ev d M pc L st σ m r σ' m' := by
  refine ⟨by rw [← hs.1, ← hs.2]; exact k.1, fun l s0 b pf pt D hG p e R s mi args below meth c n0 k0 hC h1 h2 h3 h4 H locs ls hH hf hl => h hG hC hH hf hl (fun H1 locs1 hH1 hf1 => ?_)⟩
  have := k.2 l s0 b pf pt D hG p e R s mi args below meth c n0 k0 hC (by rw [hs.1]; exact h1) (by rw [hs.2]; exact h2) h3 h4 H1 locs1 ls hH1 hf1 hl
  rw [hs.1, hs.2] at this
  exact this
theorem q_inr {s0 : State} {b pf pt : Nat} {D : va_G} {A : Int → Nat} {H : Heap} {a : Int} (hH : q_HR s0 D A σ m H) {x : Loc} {locs : List Loc} (hf : ∀ q ∈ locs, s0.heap.size ≤ q.base) (hx : s0.heap.size ≤ x.base) : ∀ q ∈ locs ++ [x], s0.heap.size ≤ q.base := by
  intro q hq
  rcases List.mem_append.mp hq with h | h
  · exact hf q h
  · rw [List.mem_singleton.mp h]; exact hx
theorem q_ref {A : Int → Nat} {a : Int} (h : 0 ≤ a) : q_cv A (vr a) = .ref (A a) := by
  simp only [q_cv]
  rw [if_neg (by omega)]
theorem q_mp2 {A : Int → Nat} {i a : Int} (h : 0 ≤ a) : (vi i :: vr a :: st).map (q_cv A) = .int (Int32.ofInt i) :: .ref (A a) :: st.map (q_cv A) := by
  simp only [List.map_cons]
  rw [q_ref h]
  rfl
theorem q_mp1 {A : Int → Nat} {a : Int} (h : 0 ≤ a) : (vr a :: st).map (q_cv A) = .ref (A a) :: st.map (q_cv A) := by
  simp only [List.map_cons]
  rw [q_ref h]
theorem Ev.iaload {a i n : Int} (hd : decode M.2.1 pc = .ok (.iaload, 1)) (hs : Is σ a 100 n) (hi : 0 ≤ i ∧ i < n) (k : Ev d M (pc + 1) L (vi (m a i) :: st) σ m r σ' m') : Ev d M pc L (vi i :: vr a :: st) σ m r σ' m' := by
  refine Ev.mem ⟨rfl, rfl⟩ (fun {l s0 b pf pt D} hG {p e R s mi args below meth c} hC {Q cells slots H locs ls} hH hf hl kk => ?_) k
  obtain ⟨cell, g1, g2, g3, g4, g5, g7, g6⟩ := q_HR_arr hG hH hs (by decide)
  rw [q_mp2 hs.1]
  refine W.iald hC.1 hC.2.1 g1 (State.isArrayOf_alike hC.2.2.2.2.2.2.2.1.alike g2) g3 (q_pin hi.1 (by omega) (by omega)) (v := q_cv (q_ad s0.heap.size b pf pt) (vi (m a i))) ?_ rfl rfl hd (kk H locs hH hf)
  rw [q_clamp hi.1 (by omega), g6 _ (by omega)]
  show some (q_av _ 100 (m a) _ _) = _
  simp only [q_av]
  rw [show ((i.toNat : Nat) : Int) = i by omega]
  rfl
theorem Ev.laload {a i n : Int} (hd : decode M.2.1 pc = .ok (.laload, 1)) (hs : Is σ a 101 n) (hi : 0 ≤ i ∧ i < n) (k : Ev d M (pc + 1) L (vl (m a i) :: st) σ m r σ' m') : Ev d M pc L (vi i :: vr a :: st) σ m r σ' m' := by
  refine Ev.mem ⟨rfl, rfl⟩ (fun {l s0 b pf pt D} hG {p e R s mi args below meth c} hC {Q cells slots H locs ls} hH hf hl kk => ?_) k
  obtain ⟨cell, g1, g2, g3, g4, g5, g7, g6⟩ := q_HR_arr hG hH hs (by decide)
  rw [q_mp2 hs.1]
  refine W.lald hC.1 hC.2.1 g1 (State.isArrayOf_alike hC.2.2.2.2.2.2.2.1.alike g2) g3 (q_pin hi.1 (by omega) (by omega)) (v := q_cv (q_ad s0.heap.size b pf pt) (vl (m a i))) ?_ rfl rfl hd (kk H locs hH hf)
  rw [q_clamp hi.1 (by omega), g6 _ (by omega)]
  show some (q_av _ 101 (m a) _ _) = _
  simp only [q_av]
  rw [show ((i.toNat : Nat) : Int) = i by omega]
  rfl
theorem Ev.baload {a i n : Int} (hd : decode M.2.1 pc = .ok (.baload, 1)) (hs : Is σ a 102 n) (hi : 0 ≤ i ∧ i < n) (k : Ev d M (pc + 1) L (vi (m a i) :: st) σ m r σ' m') : Ev d M pc L (vi i :: vr a :: st) σ m r σ' m' := by
  refine Ev.mem ⟨rfl, rfl⟩ (fun {l s0 b pf pt D} hG {p e R s mi args below meth c} hC {Q cells slots H locs ls} hH hf hl kk => ?_) k
  obtain ⟨cell, g1, g2, g3, g4, g5, g7, g6⟩ := q_HR_arr hG hH hs (by decide)
  rw [q_mp2 hs.1]
  refine W.bald hC.1 hC.2.1 g1 (State.isArrayOf_alike hC.2.2.2.2.2.2.2.1.alike g2) g3 (q_pin hi.1 (by omega) (by omega)) (v := q_cv (q_ad s0.heap.size b pf pt) (vi (m a i))) ?_ rfl rfl hd (kk H locs hH hf)
  rw [q_clamp hi.1 (by omega), g6 _ (by omega)]
  show some (q_av _ 102 (m a) _ _) = _
  simp only [q_av]
  rw [show ((i.toNat : Nat) : Int) = i by omega]
  rfl
theorem Ev.zaload {a i n : Int} (hd : decode M.2.1 pc = .ok (.baload, 1)) (hs : Is σ a 103 n) (hi : 0 ≤ i ∧ i < n) (k : Ev d M (pc + 1) L (vi (m a i) :: st) σ m r σ' m') : Ev d M pc L (vi i :: vr a :: st) σ m r σ' m' := by
  refine Ev.mem ⟨rfl, rfl⟩ (fun {l s0 b pf pt D} hG {p e R s mi args below meth c} hC {Q cells slots H locs ls} hH hf hl kk => ?_) k
  obtain ⟨cell, g1, g2, g3, g4, g5, g7, g6⟩ := q_HR_arr hG hH hs (by decide)
  rw [q_mp2 hs.1]
  refine W.zald hC.1 hC.2.1 g1 (State.isArrayOf_alike hC.2.2.2.2.2.2.2.1.alike g2) g3 (q_pin hi.1 (by omega) (by omega)) (v := q_cv (q_ad s0.heap.size b pf pt) (vi (m a i))) ?_ rfl rfl hd (kk H locs hH hf)
  rw [q_clamp hi.1 (by omega), g6 _ (by omega)]
  show some (q_av _ 103 (m a) _ _) = _
  simp only [q_av]
  rw [show ((i.toNat : Nat) : Int) = i by omega]
  rfl
theorem Ev.aaload {a i n v : Int} {c : Nat} (hd : decode M.2.1 pc = .ok (.aaload, 1)) (hs : Is σ a (200 + c) n) (hi : 0 ≤ i ∧ i < n) (hv : σ.2.2.2.2 a i = v) (k : Ev d M (pc + 1) L (vr v :: st) σ m r σ' m') : Ev d M pc L (vi i :: vr a :: st) σ m r σ' m' := by
  refine Ev.mem ⟨rfl, rfl⟩ (fun {l s0 b pf pt D} hG {p e R s mi args below meth c'} hC {Q cells slots H locs ls} hH hf hl kk => ?_) k
  obtain ⟨cell, g1, g2, g3, g4, g5, g7, g6⟩ := q_HR_arr hG hH hs (by omega)
  rw [q_mp2 hs.1]
  have hty : q_aty (200 + c) = .object ((q_cls[(200 + c) - 200]?.map (fun q => q.1)).getD "") := by
    unfold q_aty
    rw [if_neg (by omega), if_neg (by omega), if_neg (by omega), if_neg (by omega)]
  refine W.aald (ty := q_aty (200 + c)) hC.1 hC.2.1 g1 (State.isArrayOf_alike hC.2.2.2.2.2.2.2.1.alike g2) (by rw [hty]; rfl) g3 (q_pin hi.1 (by omega) (by omega)) (v := q_cv (q_ad s0.heap.size b pf pt) (vr v)) ?_ rfl rfl hd (kk H locs hH hf)
  rw [q_clamp hi.1 (by omega), g6 _ (by omega)]
  simp only [q_av]
  rw [if_neg (by omega), if_neg (by omega), show ((i.toNat : Nat) : Int) = i by omega, hv]
theorem Ev.arraylength {a n : Int} {t : Nat} (hd : decode M.2.1 pc = .ok (.arraylength, 1)) (hs : Is σ a t n) (ht : ¬ t < 100) (k : Ev d M (pc + 1) L (vi n :: st) σ m r σ' m') : Ev d M pc L (vr a :: st) σ m r σ' m' := by
  refine Ev.mem ⟨rfl, rfl⟩ (fun {l s0 b pf pt D} hG {p e R s mi args below meth c} hC {Q cells slots H locs ls} hH hf hl kk => ?_) k
  obtain ⟨cell, g1, g2, g3, g4, g5, g7, g6⟩ := q_HR_arr hG hH hs ht
  rw [q_mp1 hs.1]
  refine W.alen (n := Int32.ofInt n) hC.1 hC.2.1 g1 (State.isArrayOf_alike hC.2.2.2.2.2.2.2.1.alike g2) g7 rfl rfl hd (kk H locs hH hf)
theorem Ev.iastore {a i n x : Int} (hd : decode M.2.1 pc = .ok (.iastore, 1)) (hs : Is σ a 100 n) (h3 : 3 ≤ a) (hi : 0 ≤ i ∧ i < n) (k : Ev d M (pc + 1) L st σ (mu m a i x) r σ' m') : Ev d M pc L (vi x :: vi i :: vr a :: st) σ m r σ' m' := by
  refine Ev.mem (σ2 := σ) (m2 := mu m a i x) ⟨rfl, rfl⟩ (fun {l s0 b pf pt D} hG {p e R s mi args below meth c} hC {Q cells slots H locs ls} hH hf hl kk => ?_) k
  have hcl := hH.2.2.2.1 a h3 hs.2.1
  rw [hs.2.2.1, hs.2.2.2] at hcl
  obtain ⟨cA, g1, g2, g3, g4⟩ := hcl.2 (by decide)
  rw [List.map_cons, q_mp2 hs.1]
  refine W.iast hC.1 hC.2.1 g4 (State.isArrayOf_alike hC.2.2.2.2.2.2.2.1.alike (g1 _ _)) (fun e => by cases e) (by rw [arrV_size]; exact q_pin hi.1 (by omega) (by omega)) rfl rfl hd (fun H1 e z oq => kk H1 _ ?_ (q_inr (b := b) (pf := pf) (pt := pt) (a := a) hH hf (by show _ ≤ q_ad _ _ _ _ a; rw [q_ad3 h3]; omega)))
  refine q_HR_set hG hH ⟨h3, hs.2.1⟩ z oq ⟨rfl, rfl, rfl⟩ (fun a' ha' => ⟨by funext j; exact if_neg (fun q => ha' q.1), rfl⟩) ?_
  rw [hs.2.2.1, hs.2.2.2]
  refine ⟨fun h => absurd h (by decide), fun _ => ⟨cA, g1, g2, g3, ?_⟩⟩
  rw [e, arrV_store, q_clamp hi.1 (by omega)]
  congr 2
  funext j
  simp only [updV, q_av, mu]
  by_cases hj : j = i.toNat
  · subst hj
    rw [if_pos rfl, show ((i.toNat : Nat) : Int) = i by omega]
    simp only [and_self, if_true]
    try rfl
  · rw [if_neg hj]
    have hj2 : ¬ ((j : Int) = i) := by omega
    simp [hj2]
theorem Ev.lastore {a i n x : Int} (hd : decode M.2.1 pc = .ok (.lastore, 1)) (hs : Is σ a 101 n) (h3 : 3 ≤ a) (hi : 0 ≤ i ∧ i < n) (k : Ev d M (pc + 1) L st σ (mu m a i x) r σ' m') : Ev d M pc L (vl x :: vi i :: vr a :: st) σ m r σ' m' := by
  refine Ev.mem (σ2 := σ) (m2 := mu m a i x) ⟨rfl, rfl⟩ (fun {l s0 b pf pt D} hG {p e R s mi args below meth c} hC {Q cells slots H locs ls} hH hf hl kk => ?_) k
  have hcl := hH.2.2.2.1 a h3 hs.2.1
  rw [hs.2.2.1, hs.2.2.2] at hcl
  obtain ⟨cA, g1, g2, g3, g4⟩ := hcl.2 (by decide)
  rw [List.map_cons, q_mp2 hs.1]
  refine W.last hC.1 hC.2.1 g4 (State.isArrayOf_alike hC.2.2.2.2.2.2.2.1.alike (g1 _ _)) (fun e => by cases e) (by rw [arrV_size]; exact q_pin hi.1 (by omega) (by omega)) rfl rfl hd (fun H1 e z oq => kk H1 _ ?_ (q_inr (b := b) (pf := pf) (pt := pt) (a := a) hH hf (by show _ ≤ q_ad _ _ _ _ a; rw [q_ad3 h3]; omega)))
  refine q_HR_set hG hH ⟨h3, hs.2.1⟩ z oq ⟨rfl, rfl, rfl⟩ (fun a' ha' => ⟨by funext j; exact if_neg (fun q => ha' q.1), rfl⟩) ?_
  rw [hs.2.2.1, hs.2.2.2]
  refine ⟨fun h => absurd h (by decide), fun _ => ⟨cA, g1, g2, g3, ?_⟩⟩
  rw [e, arrV_store, q_clamp hi.1 (by omega)]
  congr 2
  funext j
  simp only [updV, q_av, mu]
  by_cases hj : j = i.toNat
  · subst hj
    rw [if_pos rfl, show ((i.toNat : Nat) : Int) = i by omega]
    simp only [and_self, if_true]
    try rfl
  · rw [if_neg hj]
    have hj2 : ¬ ((j : Int) = i) := by omega
    simp [hj2]
theorem Ev.bastore {a i n x : Int} (hd : decode M.2.1 pc = .ok (.bastore, 1)) (hs : Is σ a 102 n) (h3 : 3 ≤ a) (hi : 0 ≤ i ∧ i < n) (k : Ev d M (pc + 1) L st σ (mu m a i (x.bmod 256)) r σ' m') : Ev d M pc L (vi x :: vi i :: vr a :: st) σ m r σ' m' := by
  refine Ev.mem (σ2 := σ) (m2 := mu m a i (x.bmod 256)) ⟨rfl, rfl⟩ (fun {l s0 b pf pt D} hG {p e R s mi args below meth c} hC {Q cells slots H locs ls} hH hf hl kk => ?_) k
  have hcl := hH.2.2.2.1 a h3 hs.2.1
  rw [hs.2.2.1, hs.2.2.2] at hcl
  obtain ⟨cA, g1, g2, g3, g4⟩ := hcl.2 (by decide)
  rw [List.map_cons, q_mp2 hs.1]
  refine W.bast hC.1 hC.2.1 g4 (State.isArrayOf_alike hC.2.2.2.2.2.2.2.1.alike (g1 _ _)) (fun e => by cases e) (by rw [arrV_size]; exact q_pin hi.1 (by omega) (by omega)) rfl rfl hd (fun H1 e z oq => kk H1 _ ?_ (q_inr (b := b) (pf := pf) (pt := pt) (a := a) hH hf (by show _ ≤ q_ad _ _ _ _ a; rw [q_ad3 h3]; omega)))
  refine q_HR_set hG hH ⟨h3, hs.2.1⟩ z oq ⟨rfl, rfl, rfl⟩ (fun a' ha' => ⟨by funext j; exact if_neg (fun q => ha' q.1), rfl⟩) ?_
  rw [hs.2.2.1, hs.2.2.2]
  refine ⟨fun h => absurd h (by decide), fun _ => ⟨cA, g1, g2, g3, ?_⟩⟩
  rw [e, arrV_store, q_clamp hi.1 (by omega)]
  congr 2
  funext j
  simp only [updV, q_av, mu]
  by_cases hj : j = i.toNat
  · subst hj
    rw [if_pos rfl, show ((i.toNat : Nat) : Int) = i by omega]
    simp only [and_self, if_true]
    show narrow .byte (.int (Int32.ofInt x)) = _
    have e8 : (Int32.ofInt x).toInt8.toInt32 = Int32.ofInt (x.bmod 256) := Int32.toInt_inj.mp (by rw [Int8.toInt_toInt32, Int32.toInt_toInt8, Int32.toInt_ofInt, Int32.toInt_ofInt]; simp only [Int32.size, Int.bmod_def]; omega)
    show _ = Value.int (Int32.ofInt (x.bmod 256))
    rw [← e8]
    try rfl
  · rw [if_neg hj]
    have hj2 : ¬ ((j : Int) = i) := by omega
    simp [hj2]
theorem Ev.zastore {a i n x : Int} (hd : decode M.2.1 pc = .ok (.bastore, 1)) (hs : Is σ a 103 n) (h3 : 3 ≤ a) (hi : 0 ≤ i ∧ i < n) (hx : x = 0 ∨ x = 1) (k : Ev d M (pc + 1) L st σ (mu m a i x) r σ' m') : Ev d M pc L (vi x :: vi i :: vr a :: st) σ m r σ' m' := by
  refine Ev.mem (σ2 := σ) (m2 := mu m a i x) ⟨rfl, rfl⟩ (fun {l s0 b pf pt D} hG {p e R s mi args below meth c} hC {Q cells slots H locs ls} hH hf hl kk => ?_) k
  have hcl := hH.2.2.2.1 a h3 hs.2.1
  rw [hs.2.2.1, hs.2.2.2] at hcl
  obtain ⟨cA, g1, g2, g3, g4⟩ := hcl.2 (by decide)
  rw [List.map_cons, q_mp2 hs.1]
  refine W.zast hC.1 hC.2.1 g4 (State.isArrayOf_alike hC.2.2.2.2.2.2.2.1.alike (g1 _ _)) (fun e => by cases e) (by rw [arrV_size]; exact q_pin hi.1 (by omega) (by omega)) rfl rfl hd (fun H1 e z oq => kk H1 _ ?_ (q_inr (b := b) (pf := pf) (pt := pt) (a := a) hH hf (by show _ ≤ q_ad _ _ _ _ a; rw [q_ad3 h3]; omega)))
  refine q_HR_set hG hH ⟨h3, hs.2.1⟩ z oq ⟨rfl, rfl, rfl⟩ (fun a' ha' => ⟨by funext j; exact if_neg (fun q => ha' q.1), rfl⟩) ?_
  rw [hs.2.2.1, hs.2.2.2]
  refine ⟨fun h => absurd h (by decide), fun _ => ⟨cA, g1, g2, g3, ?_⟩⟩
  rw [e, arrV_store, q_clamp hi.1 (by omega)]
  congr 2
  funext j
  simp only [updV, q_av, mu]
  by_cases hj : j = i.toNat
  · subst hj
    rw [if_pos rfl, show ((i.toNat : Nat) : Int) = i by omega]
    simp only [and_self, if_true]
    rcases hx with rfl | rfl <;> rfl
  · rw [if_neg hj]
    have hj2 : ¬ ((j : Int) = i) := by omega
    simp [hj2]
end
