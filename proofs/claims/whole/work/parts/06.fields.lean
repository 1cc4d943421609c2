section
variable {d : Nat} {M : Md} {pc : Nat} {L : List (Option AV)} {st : List AV} {σ σ' : Sg} {m m' : Mm} {r : Option AV}
/-- entry idx of own's pool names field k of the class number t -/
def q_lf (own : String) (idx t k : Nat) : Prop := ∃ q, q_cls[t]? = some q ∧ k < q.2.2 ∧ Cond.fieldLink own idx (q.2.1 k).1 (q.2.1 k).2.1 (q.2.1 k).2.2.1 ∈ lw_tbl
theorem q_getv {s0 : State} {D : va_G} {b pf pt : Nat} {H : Heap} {a n : Int} {t idx k : Nat} {l : Launch} {p : Program} {e : Env} {R : Room} {s : State} {mi : MethodId} {args : Array Value} {below : List Frame} {meth : Method} {c : Code} {Q : State → Prop} {cells slots : Nat} {locs : List Loc} {ls : Array Slot} {rest : List Value}
    (hG : q_G s0 b pf pt D) (hC : q_SC s0 M d p R s mi meth c) (hH : q_HR s0 D (q_ad s0.heap.size b pf pt) σ m H) (hs : Is σ a t n) (ht : t < 100) (hw : q_lf M.1.cls idx t k) (hd : decode M.2.1 pc = .ok (.getfield idx, 3))
    (kk : W p l e R s mi args below meth c H locs cells slots Q (F0 mi (pc + 3) ls (q_fv (q_ad s0.heap.size b pf pt) t (m a) (σ.2.2.2.2 a) k :: rest))) : W p l e R s mi args below meth c H locs cells slots Q (F0 mi pc ls (.ref (q_ad s0.heap.size b pf pt a) :: rest)) := by
  obtain ⟨q, hq, hk, hl⟩ := hw
  obtain ⟨a0, hts0⟩ := hG.1
  obtain ⟨h3, q', hq', cell, c1, c2, c3, c4⟩ := q_HR_obj hH hs ht
  cases hq.symm.trans hq'
  have hW := hC.2.2.2.2.2.2.2.1
  have hts := q_uw (args := args) hts0 hW (q_clsOk t q hq).2.2
  obtain ⟨hS, hfc, kC, hkC, hkind⟩ := u_Kn_moved hW.alike (hG.2.1 t q hq)
  obtain ⟨cf, kf, fi, f, hi, hsl⟩ := hS k hk
  refine W.getf hC.1 hC.2.1 hC.2.2.2.2.1 (q_w hts0 hW hl rfl) hi (u_facts hfc hkC (u_lays hts (fun _ h => h) hk) hi).1 c1 (by rw [c3]; exact fun h => by cases h) (v := q_fv (q_ad s0.heap.size b pf pt) t (m a) (σ.2.2.2.2 a) k) ?_ rfl rfl hd kk
  rw [hsl, c4 k hk]
theorem Ev.getfield {a n : Int} {t idx k : Nat} (hd : decode M.2.1 pc = .ok (.getfield idx, 3)) (hw : q_lf M.1.cls idx t k) (hf : q_fref t k = false) (hs : Is σ a t n) (ht : t < 100) (kk : Ev d M (pc + 3) L (vi (m a k) :: st) σ m r σ' m') : Ev d M pc L (vr a :: st) σ m r σ' m' := by
  refine Ev.mem ⟨rfl, rfl⟩ (fun {l s0 b pf pt D} hG {p e R s mi args below meth c} hC {Q cells slots H locs ls} hH hf1 hl kk => ?_) kk
  rw [q_mp1 hs.1]
  refine q_getv hG hC hH hs ht hw hd ?_
  have := kk H locs hH hf1
  simp only [q_fv, hf]
  exact this
theorem Ev.getfieldR {a n v : Int} {t idx k : Nat} (hd : decode M.2.1 pc = .ok (.getfield idx, 3)) (hw : q_lf M.1.cls idx t k) (hf : q_fref t k = true) (hs : Is σ a t n) (ht : t < 100) (hv : σ.2.2.2.2 a k = v) (kk : Ev d M (pc + 3) L (vr v :: st) σ m r σ' m') : Ev d M pc L (vr a :: st) σ m r σ' m' := by
  refine Ev.mem ⟨rfl, rfl⟩ (fun {l s0 b pf pt D} hG {p e R s mi args below meth c} hC {Q cells slots H locs ls} hH hf1 hl kk => ?_) kk
  rw [q_mp1 hs.1]
  refine q_getv hG hC hH hs ht hw hd ?_
  have := kk H locs hH hf1
  simp only [q_fv, hf, if_true, hv]
  exact this
theorem q_putv {s0 : State} {D : va_G} {b pf pt : Nat} {H : Heap} {a n : Int} {t idx k : Nat} {l : Launch} {p : Program} {e : Env} {R : Room} {s : State} {mi : MethodId} {args : Array Value} {below : List Frame} {meth : Method} {c : Code} {Q : State → Prop} {cells slots : Nat} {locs : List Loc} {ls : Array Slot} {rest : List Value} {v : Value} {m1 : Mm} {σ1 : Sg}
    (hG : q_G s0 b pf pt D) (hC : q_SC s0 M d p R s mi meth c) (hH : q_HR s0 D (q_ad s0.heap.size b pf pt) σ m H) (hs : Is σ a t n) (ht : t < 100) (hw : q_lf M.1.cls idx t k) (hd : decode M.2.1 pc = .ok (.putfield idx, 3))
    (hfin : ∀ q, q_cls[t]? = some q → (q.2.1 k).2.2.2 = false ∨ (M.1.name = "<init>" ∧ (q.2.1 k).1 = M.1.cls)) (hn : narrow (q_ty t k) v = v) (hfit : fits (q_ty t k) v = true)
    (hs1 : σ1.1 = σ.1 ∧ σ1.2.2.1 = σ.2.2.1 ∧ σ1.2.2.2.1 = σ.2.2.2.1) (hm : ∀ a' : Int, a' ≠ a → m1 a' = m a' ∧ σ1.2.2.2.2 a' = σ.2.2.2.2 a') (hv : ∀ j, updV (q_fv (q_ad s0.heap.size b pf pt) t (m a) (σ.2.2.2.2 a)) k v j = q_fv (q_ad s0.heap.size b pf pt) t (m1 a) (σ1.2.2.2.2 a) j)
    (hf : ∀ q ∈ locs, s0.heap.size ≤ q.base) (kk : ∀ (H1 : Heap) (locs1 : List Loc), q_HR s0 D (q_ad s0.heap.size b pf pt) σ1 m1 H1 → (∀ q ∈ locs1, s0.heap.size ≤ q.base) → W p l e R s mi args below meth c H1 locs1 cells slots Q (F0 mi (pc + 3) ls rest)) : W p l e R s mi args below meth c H locs cells slots Q (F0 mi pc ls (v :: .ref (q_ad s0.heap.size b pf pt a) :: rest)) := by
  obtain ⟨q, hq, hk, hl⟩ := hw
  obtain ⟨a0, hts0⟩ := hG.1
  obtain ⟨h3, q', hq', cell, c1, c2, c3, c4⟩ := q_HR_obj hH hs ht
  cases hq.symm.trans hq'
  have hW := hC.2.2.2.2.2.2.2.1
  have hts := q_uw (args := args) hts0 hW (q_clsOk t q hq).2.2
  have hKn := u_Kn_moved hW.alike (hG.2.1 t q hq)
  obtain ⟨hS, hfc, kC, hkC, hkind⟩ := id hKn
  obtain ⟨cf, kf, fi, f, hi, hsl⟩ := hS k hk
  have hst := (u_facts hfc hkC (u_lays hts (fun _ h => h) hk) hi).1
  have hap : ∀ x y, x < q.2.2 → y < q.2.2 → x ≠ y → D.2 t x ≠ D.2 t y := by
    intro x y hx hy hne
    obtain ⟨_, _, _, fa, hia, ea⟩ := hS x hx
    obtain ⟨_, _, _, fb, hib, eb⟩ := hS y hy
    rw [← ea, ← eb]
    refine u_apart (u_lays hts (fun _ h => h) hx) (u_lays hts (fun _ h => h) hy) hia hib ?_
    rw [(State.fieldFound?_type hia ((q_clsOk t q hq).2.1 x hx)).1, (State.fieldFound?_type hib ((q_clsOk t q hq).2.1 y hy)).1]
    exact (q_clsOk t q hq).1 x hx y hy hne
  have fin : ∀ H' : Heap, H'[q_ad s0.heap.size b pf pt a]? = some (cell.setSlot f.slot v) → H'.size = H.size → (∀ q' : Nat, q' ≠ q_ad s0.heap.size b pf pt a → H'[q']? = H[q']?) → W p l e R s mi args below meth c H' (locs ++ [⟨q_ad s0.heap.size b pf pt a, f.slot⟩]) cells slots Q (F0 mi (pc + 3) ls rest) := by
    intro H' e1 e2 e3
    refine kk H' _ (q_HR_set hG hH ⟨h3, hs.2.1⟩ e2 e3 hs1 hm ?_) (q_inr (b := b) (pf := pf) (pt := pt) (a := a) hH hf (by show _ ≤ q_ad _ _ _ _ a; rw [q_ad3 h3]; omega))
    rw [hs.2.2.1]
    refine ⟨fun _ => ⟨q, hq, ?_⟩, fun h => absurd ht h⟩
    rw [hsl] at e1
    exact t_OB.to (V := updV (q_fv (q_ad s0.heap.size b pf pt) t (m a) (σ.2.2.2.2 a)) k v) ⟨_, e1, c2, c3, t_set c4 hap hk v⟩ (fun j _ => hv j)
  have hlay := hts _ (u_in_lay hk)
  unfold u_lay at hlay
  rcases hfin q hq with hF | ⟨hF1, hF2⟩
  · rw [if_neg (by rw [hF]; decide)] at hlay
    have h6 := u_store hfc hkC hkind hlay hi ((q_clsOk t q hq).2.1 k hk) hn hfit
    exact W.putK hC.1 hC.2.1 (f := f) ⟨hC.2.2.2.2.1, q_w hts0 hW hl rfl, ⟨_, _, _, hi⟩, hst⟩ (by rw [c2]; exact h6) c1 c3 (by rw [hsl]; exact k2_hasslot (c4 k hk)) rfl rfl hd fin
  · by_cases hF : (q.2.1 k).2.2.2 = true
    · rw [if_pos hF] at hlay
      have hcf : mi.cls = cf := by
        obtain ⟨_, _, c', _, _, _, -, -, hf', -, -, -, hown2, -⟩ := Cond.laysFinal_spec hlay
        have e1 : c' = cf := by have := hi.symm.trans hf'; simp at this; exact this.1.symm
        rw [hF2] at hown2
        rw [← e1]; exact Option.some.inj (hC.2.2.2.2.1.symm.trans hown2)
      have h6 := u_fits hfc hkC hkind (Or.inr hlay) hi ((q_clsOk t q hq).2.1 k hk) hn hfit
      exact W.putFinK hC.1 hC.2.1 hC.2.2.2.2.1 (q_w hts0 hW hl rfl) hi hst hcf (hC.2.2.2.2.2.2.1 hF1) (by rw [c2]; exact h6) c1 c3 (by rw [hsl]; exact k2_hasslot (c4 k hk)) rfl rfl hd fin
    · rw [if_neg hF] at hlay
      have h6 := u_store hfc hkC hkind hlay hi ((q_clsOk t q hq).2.1 k hk) hn hfit
      exact W.putK hC.1 hC.2.1 (f := f) ⟨hC.2.2.2.2.1, q_w hts0 hW hl rfl, ⟨_, _, _, hi⟩, hst⟩ (by rw [c2]; exact h6) c1 c3 (by rw [hsl]; exact k2_hasslot (c4 k hk)) rfl rfl hd fin
def q_pf (M : Md) (t k : Nat) : Bool := match q_cls[t]? with
  | some q => !(q.2.1 k).2.2.2 || (decide (M.1.name = "<init>") && decide ((q.2.1 k).1 = M.1.cls))
  | none => false
theorem q_pf_ok {t k : Nat} (h : q_pf M t k = true) : ∀ q, q_cls[t]? = some q → (q.2.1 k).2.2.2 = false ∨ (M.1.name = "<init>" ∧ (q.2.1 k).1 = M.1.cls) := by
  intro q hq
  unfold q_pf at h
  rw [hq] at h
  simp only [Bool.or_eq_true, Bool.not_eq_true', Bool.and_eq_true, decide_eq_true_eq] at h
  exact h
theorem Ev.putfield {a n x : Int} {t idx k : Nat} (hd : decode M.2.1 pc = .ok (.putfield idx, 3)) (hw : q_lf M.1.cls idx t k) (hp : q_pf M t k = true) (hy : q_ty t k = .int) (hf : q_fref t k = false) (hs : Is σ a t n) (ht : t < 100) (kk : Ev d M (pc + 3) L st σ (mu m a k x) r σ' m') : Ev d M pc L (vi x :: vr a :: st) σ m r σ' m' := by
  refine Ev.mem (σ2 := σ) (m2 := mu m a k x) ⟨rfl, rfl⟩ (fun {l s0 b pf pt D} hG {p e R s mi args below meth c} hC {Q cells slots H locs ls} hH hf1 hl kk => ?_) kk
  rw [List.map_cons, q_mp1 hs.1]
  refine q_putv (v := .int (Int32.ofInt x)) hG hC hH hs ht hw hd (q_pf_ok hp) (by rw [hy]; rfl) (by rw [hy]; rfl) ⟨rfl, rfl, rfl⟩ (fun a' ha' => ⟨by funext j; exact if_neg (fun q => ha' q.1), rfl⟩) (fun j => ?_) hf1 kk
  simp only [updV, q_fv, mu]
  by_cases hj : j = k
  · subst hj
    rw [if_pos rfl, if_neg (by rw [hf]; decide)]
    simp
  · rw [if_neg hj]
    have hj2 : ¬ ((j : Int) = k) := by omega
    simp [hj2]
theorem Ev.putfieldZ {a n x : Int} {t idx k : Nat} (hd : decode M.2.1 pc = .ok (.putfield idx, 3)) (hw : q_lf M.1.cls idx t k) (hp : q_pf M t k = true) (hy : q_ty t k = .boolean) (hf : q_fref t k = false) (hs : Is σ a t n) (ht : t < 100) (hx : x = 0 ∨ x = 1) (kk : Ev d M (pc + 3) L st σ (mu m a k x) r σ' m') : Ev d M pc L (vi x :: vr a :: st) σ m r σ' m' := by
  refine Ev.mem (σ2 := σ) (m2 := mu m a k x) ⟨rfl, rfl⟩ (fun {l s0 b pf pt D} hG {p e R s mi args below meth c} hC {Q cells slots H locs ls} hH hf1 hl kk => ?_) kk
  rw [List.map_cons, q_mp1 hs.1]
  refine q_putv (v := .int (Int32.ofInt x)) hG hC hH hs ht hw hd (q_pf_ok hp) (by rw [hy]; rcases hx with rfl | rfl <;> rfl) (by rw [hy]; rcases hx with rfl | rfl <;> rfl) ⟨rfl, rfl, rfl⟩ (fun a' ha' => ⟨by funext j; exact if_neg (fun q => ha' q.1), rfl⟩) (fun j => ?_) hf1 kk
  simp only [updV, q_fv, mu]
  by_cases hj : j = k
  · subst hj
    rw [if_pos rfl, if_neg (by rw [hf]; decide)]
    simp
  · rw [if_neg hj]
    have hj2 : ¬ ((j : Int) = k) := by omega
    simp [hj2]
def q_isr (ty : FieldType) : Bool := match ty with
  | .object _ => true
  | .array _ => true
  | _ => false
theorem Ev.putfieldR {a n x : Int} {t idx k : Nat} (hd : decode M.2.1 pc = .ok (.putfield idx, 3)) (hw : q_lf M.1.cls idx t k) (hp : q_pf M t k = true) (hy : q_isr (q_ty t k) = true) (hf : q_fref t k = true) (hs : Is σ a t n) (ht : t < 100) (kk : Ev d M (pc + 3) L st (su σ a k x) m r σ' m') : Ev d M pc L (vr x :: vr a :: st) σ m r σ' m' := by
  refine Ev.mem (σ2 := su σ a k x) (m2 := m) ⟨rfl, rfl⟩ (fun {l s0 b pf pt D} hG {p e R s mi args below meth c} hC {Q cells slots H locs ls} hH hf1 hl kk => ?_) kk
  rw [List.map_cons, q_mp1 hs.1]
  refine q_putv (v := q_cv (q_ad s0.heap.size b pf pt) (vr x)) (σ1 := su σ a k x) (m1 := m) hG hC hH hs ht hw hd (q_pf_ok hp) ?_ ?_ ⟨rfl, rfl, rfl⟩ (fun a' ha' => ⟨rfl, by funext j; exact if_neg (fun q => ha' q.1)⟩) (fun j => ?_) hf1 kk
  · simp only [q_cv]
    cases hty : q_ty t k <;> simp [hty, q_isr] at hy <;> split <;> rfl
  · simp only [q_cv]
    cases hty : q_ty t k <;> simp [hty, q_isr] at hy <;> split <;> rfl
  · simp only [updV, q_fv, su, mu]
    by_cases hj : j = k
    · subst hj
      rw [if_pos rfl, if_pos hf]
      simp
    · rw [if_neg hj]
      have hj2 : ¬ ((j : Int) = k) := by omega
      simp [hj2]
end
