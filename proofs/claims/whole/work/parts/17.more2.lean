section
variable {d : Nat} {M : Md} {pc : Nat} {L : List (Option AV)} {st : List AV} {σ σ' : Sg} {m m' : Mm} {r : Option AV}
theorem Ev.gf {a n : Int} {t idx k : Nat} (ki : Int) (hd : decode M.2.1 pc = .ok (.getfield idx, 3)) (hw : q_lf M.1.cls idx t k) (hk : (k : Int) = ki) (hf : q_fref t k = false) (hs : Is σ a t n) (ht : t < 100) (kk : Ev d M (pc + 3) L (vi (m a ki) :: st) σ m r σ' m') : Ev d M pc L (vr a :: st) σ m r σ' m' := by
  subst hk; exact Ev.getfield hd hw hf hs ht kk
theorem Ev.gr {a n v : Int} {t idx k : Nat} (ki : Int) (hd : decode M.2.1 pc = .ok (.getfield idx, 3)) (hw : q_lf M.1.cls idx t k) (hk : (k : Int) = ki) (hf : q_fref t k = true) (hs : Is σ a t n) (ht : t < 100) (hv : σ.2.2.2.2 a ki = v) (kk : Ev d M (pc + 3) L (vr v :: st) σ m r σ' m') : Ev d M pc L (vr a :: st) σ m r σ' m' := by
  subst hk; exact Ev.getfieldR hd hw hf hs ht hv kk
theorem Ev.pf {a n x : Int} {t idx k : Nat} (ki : Int) (hd : decode M.2.1 pc = .ok (.putfield idx, 3)) (hw : q_lf M.1.cls idx t k) (hk : (k : Int) = ki) (hp : q_pf M t k = true) (hy : q_ty t k = .int) (hf : q_fref t k = false) (hs : Is σ a t n) (ht : t < 100) (kk : Ev d M (pc + 3) L st σ (mu m a ki x) r σ' m') : Ev d M pc L (vi x :: vr a :: st) σ m r σ' m' := by
  subst hk; exact Ev.putfield hd hw hp hy hf hs ht kk
theorem Ev.pz {a n x : Int} {t idx k : Nat} (ki : Int) (hd : decode M.2.1 pc = .ok (.putfield idx, 3)) (hw : q_lf M.1.cls idx t k) (hk : (k : Int) = ki) (hp : q_pf M t k = true) (hy : q_ty t k = .boolean) (hf : q_fref t k = false) (hs : Is σ a t n) (ht : t < 100) (hx : x = 0 ∨ x = 1) (kk : Ev d M (pc + 3) L st σ (mu m a ki x) r σ' m') : Ev d M pc L (vi x :: vr a :: st) σ m r σ' m' := by
  subst hk; exact Ev.putfieldZ hd hw hp hy hf hs ht hx kk
theorem Ev.pr {a n x : Int} {t idx k : Nat} (ki : Int) (hd : decode M.2.1 pc = .ok (.putfield idx, 3)) (hw : q_lf M.1.cls idx t k) (hk : (k : Int) = ki) (hp : q_pf M t k = true) (hy : q_isr (q_ty t k) = true) (hf : q_fref t k = true) (hs : Is σ a t n) (ht : t < 100) (kk : Ev d M (pc + 3) L st (su σ a ki x) m r σ' m') : Ev d M pc L (vr x :: vr a :: st) σ m r σ' m' := by
  subst hk; exact Ev.putfieldR hd hw hp hy hf hs ht kk
end
