/-! THE CLAIM OUT OF ONE RUN OF THE LAW -/
def R_law : String := "FloorCurvesLaw"
def lw_P (b : Addr) (xs : List Int32) (args : Array Value) (s : State) : Prop := args = #[.ref b] ∧ s.IntsAt b xs ∧ xs.length ≤ 3072 ∧ (Jvm.Cond.and given_1 narrow_1).before args s = true
def lw_Q (_ : Array Value) (s : State) (o : Outcome) (t : State) : Prop := o = .returned (some (.int 1)) ∧ Framed s o t [] 600000 7302250
def lw_Z (below : List Frame) (a : Array Value) (s : State) : State → Prop := fun t => ∃ o, t.status = .running ∧ Ended t below o ∧ lw_Q a s o t
/-- the law's own end, with 1 on the stack, nothing written that was there before, its room as the claim has it -/
theorem lw_ret {p : Program} {l : Launch} {e : Env} {s : State} {m : MethodId} {below : List Frame} {meth : Method} {c : Code} {b : Nat} (hx : p.tables.exec = Jvm.exec) (hb : c.code = code) (hr : meth.sig.returnType = ret) (hlocks : meth.locks = false) {pc : Nat} {H : Heap} {ls : Array Slot} (hdg : decode code pc = .ok (.ireturn, 1)) : W p l e room_1 s m #[Value.ref b] below meth c H [] 600000 7302250 (lw_Z below #[Value.ref b] s) (F0 m pc ls [.int 1]) := by
  intro T hT X
  obtain ⟨fs, hret, hrun, hended, hW, hframe⟩ := X.leave (v := some (.int 1)) (hlocks := hlocks) (fun h => by rw [hr] at h; cases h)
  have hmeth' : T.vm.method? m = some meth := X.method'
  refine ⟨T.setFrames fs, ?_, .returned (some (.int 1)), hrun, hended, rfl, ⟨_, rfl⟩, hW, hframe⟩
  jvm_step X.here [X.here.top, hx, hb, hdg, hmeth', hr, ret, narrow_b1]
  (try refine ⟨rfl, ?_⟩); (try refine ⟨rfl, ?_⟩)
  first | (intro acts; rw [hret _ acts rfl rfl rfl]) | rw [hret _ _ rfl rfl rfl]
  exact Steps.refl _
/-- what holds at the law's entry: the machine, the code, the tables' words (any of lw_tbl by 'hts w (by decide +kernel)'), the script of L ints xs at the cell b, what the Statement gives of the start (any of its parts by flat_of_before) -/
def lw_At (p : Program) (s : State) (m : MethodId) (meth : Method) (c : Code) (b L : Nat) (xs : Nat → Int32) : Prop :=
  p.tables.exec = Jvm.exec ∧ c.code = code ∧ meth.sig.returnType = ret ∧ c.maxLocals = 4 ∧ s.vm.findClass R_law = some m.cls ∧ (∀ w ∈ lw_tbl, w.before #[Value.ref b] s = true) ∧ va_X b L xs s s.heap ∧ b < s.heap.size ∧ meth.locks = false ∧ (Jvm.Cond.and given_1 narrow_1).before #[Value.ref b] s = true

theorem whole_start0 {p : Program} {e : Env} {s : State} {m : MethodId} {below : List Frame} {meth : Method} {c : Code} (l : Launch) {b L : Nat} {xs : Nat → Int32} (hL : L ≤ 3072) (hlaw : q_law L xs) (C0 : lw_At p s m meth c b L xs) : W p l e room_1 s m #[Value.ref b] below meth c s.heap [] 0 0 (lw_Z below #[Value.ref b] s) (entryFrame m ([Value.ref b] : List Value).toArray 4) := by
  obtain ⟨hx, hb, hr, hml, hown, hts, hX, hbl, hlocks, hgv⟩ := id C0
  obtain ⟨σ', m', ⟨hle, hE⟩, hc1, hc2⟩ := hlaw
  have hs := flat_of_before _ hgv
  have hA : ∀ a : Nat, a < s.heap.size → ¬ (s.heap.size ≤ a) := fun a h => Nat.not_le.mpr h
  obtain ⟨pf, hpf, hTF⟩ := va_Tof (tm := .static "FloorCurves" "PAIR_FROM" "[I") (ty := .int) (N := 6) (f := fun j => .int (Int32.ofInt (q_pF j))) (A := fun a => s.heap.size ≤ a) (by decide) (hs _ (by decide +kernel)) (va_eqt (hs (.eq (.length (.static "FloorCurves" "PAIR_FROM" "[I")) (.int 6)) (by decide +kernel)))
    (fun j hj => by
      rcases (show j = 0 ∨ j = 1 ∨ j = 2 ∨ j = 3 ∨ j = 4 ∨ j = 5 by omega) with rfl | rfl | rfl | rfl | rfl | rfl
      · exact va_eqt (hs (.eq (.elem (.static "FloorCurves" "PAIR_FROM" "[I") (.int 0)) (.int 0)) (by decide +kernel))
      · exact va_eqt (hs (.eq (.elem (.static "FloorCurves" "PAIR_FROM" "[I") (.int 1)) (.int 0)) (by decide +kernel))
      · exact va_eqt (hs (.eq (.elem (.static "FloorCurves" "PAIR_FROM" "[I") (.int 2)) (.int 0)) (by decide +kernel))
      · exact va_eqt (hs (.eq (.elem (.static "FloorCurves" "PAIR_FROM" "[I") (.int 3)) (.int 1)) (by decide +kernel))
      · exact va_eqt (hs (.eq (.elem (.static "FloorCurves" "PAIR_FROM" "[I") (.int 4)) (.int 1)) (by decide +kernel))
      · exact va_eqt (hs (.eq (.elem (.static "FloorCurves" "PAIR_FROM" "[I") (.int 5)) (.int 2)) (by decide +kernel))) hA
  obtain ⟨pt, hpt, hTT⟩ := va_Tof (tm := .static "FloorCurves" "PAIR_TO" "[I") (ty := .int) (N := 6) (f := fun j => .int (Int32.ofInt (q_pT j))) (A := fun a => s.heap.size ≤ a) (by decide) (hs _ (by decide +kernel)) (va_eqt (hs (.eq (.length (.static "FloorCurves" "PAIR_TO" "[I")) (.int 6)) (by decide +kernel)))
    (fun j hj => by
      rcases (show j = 0 ∨ j = 1 ∨ j = 2 ∨ j = 3 ∨ j = 4 ∨ j = 5 by omega) with rfl | rfl | rfl | rfl | rfl | rfl
      · exact va_eqt (hs (.eq (.elem (.static "FloorCurves" "PAIR_TO" "[I") (.int 0)) (.int 1)) (by decide +kernel))
      · exact va_eqt (hs (.eq (.elem (.static "FloorCurves" "PAIR_TO" "[I") (.int 1)) (.int 2)) (by decide +kernel))
      · exact va_eqt (hs (.eq (.elem (.static "FloorCurves" "PAIR_TO" "[I") (.int 2)) (.int 3)) (by decide +kernel))
      · exact va_eqt (hs (.eq (.elem (.static "FloorCurves" "PAIR_TO" "[I") (.int 3)) (.int 2)) (by decide +kernel))
      · exact va_eqt (hs (.eq (.elem (.static "FloorCurves" "PAIR_TO" "[I") (.int 4)) (.int 3)) (by decide +kernel))
      · exact va_eqt (hs (.eq (.elem (.static "FloorCurves" "PAIR_TO" "[I") (.int 5)) (.int 3)) (by decide +kernel))) hA
  have hZF : va_Z "FloorCurves" "PAIR_FROM" "[I" (.ref pf) (fun q => s.heap.size ≤ q) s s.heap := va_Zof (hts (.laysStatic "FloorCurves" "PAIR_FROM" "[I") (by decide +kernel)) (hts (.initialized "FloorCurves") (by decide +kernel)) hpf hA
  have hZT : va_Z "FloorCurves" "PAIR_TO" "[I" (.ref pt) (fun q => s.heap.size ≤ q) s s.heap := va_Zof (hts (.laysStatic "FloorCurves" "PAIR_TO" "[I") (by decide +kernel)) (hts (.initialized "FloorCurves") (by decide +kernel)) hpt hA
  have hKn : ∀ t : Nat, ∃ (cC : ClassId) (iS : Nat → Nat), ∀ q, q_cls[t]? = some q → u_Kn s q.1 q.2.1 q.2.2 cC iS := by
    intro t
    cases hq : q_cls[t]? with
    | none => exact ⟨0, fun k => k, fun q h => by cases h⟩
    | some q =>
      have hin : ∀ t, t < 9 → ((q_cls[t]?.map (fun q => decide (Cond.instantiable q.1 q.2.2 ∈ lw_tbl))).getD false) = true := by decide +kernel
      have h1 := hin t (List.getElem?_eq_some_iff.mp hq).1
      rw [hq] at h1
      have h1 : Cond.instantiable q.1 q.2.2 ∈ lw_tbl := by simpa using h1
      have hall := (q_clsOk t q hq).2.2
      obtain ⟨cC, iS, h⟩ := u_known (C := q.1) (T := q.2.1) (N := q.2.2) (n := q.2.2) hts (fun w hw => by
        have := List.all_eq_true.mp hall w hw
        simp only [Bool.and_eq_true, decide_eq_true_eq] at this
        exact this.1) (hts _ h1)
      exact ⟨cC, iS, fun q' e => by cases e; exact h⟩
  have hG : q_G s b pf pt (fun t => (hKn t).choose, fun t => (hKn t).choose_spec.choose) := by
    refine ⟨⟨_, hts⟩, fun t q hq => (hKn t).choose_spec.choose_spec q hq, hZF, hZT, hbl, ?_, ?_⟩
    · obtain ⟨cell, h1, -⟩ := hTF
      exact (Array.getElem?_eq_some_iff.mp h1).1
    · obtain ⟨cell, h1, -⟩ := hTT
      exact (Array.getElem?_eq_some_iff.mp h1).1
  have hH : q_HR s (fun t => (hKn t).choose, fun t => (hKn t).choose_spec.choose) (q_ad s.heap.size b pf pt) (q_s0 L) (q_m0 (fun j => (xs j.toNat).toInt)) s.heap := by
    refine ⟨Int.le_refl 3, rfl, fun _ _ => rfl, fun k h1 h2 => ?_, fun k h1 h2 => ?_⟩
    · have : k < 3 := h2
      omega
    · rcases (show k = 0 ∨ k = 1 ∨ k = 2 by omega) with rfl | rfl | rfl
      · obtain ⟨scr, x1, x2, x3, x4, x5⟩ := hX
        refine ⟨rfl, scr, x1, x2, x3, ?_, ?_, ?_, fun j hj => ?_⟩
        · show (L : Int) ≤ _; omega
        · show (L : Int) ≤ _; omega
        · show _ = Int32.ofInt (L : Int); rw [x4, Int32.ofInt_eq_ofNat]
        · have hj' : (j : Int) < (L : Int) := hj
          rw [x5 j (by omega)]
          show _ = some (Value.int (Int32.ofInt ((xs (j : Int).toNat).toInt)))
          rw [Int32.ofInt_toInt, Int.toNat_natCast]
      · obtain ⟨cell, h1, h2, h3, h4, h5, h6, -⟩ := hTF
        refine ⟨rfl, cell, h1, h2, h3, ?_, ?_, h5, fun j hj => ?_⟩
        · show (6 : Int) ≤ _; omega
        · show (6 : Int) ≤ _; omega
        · have hj' : (j : Int) < 6 := hj
          exact h6 j (by omega)
      · obtain ⟨cell, h1, h2, h3, h4, h5, h6, -⟩ := hTT
        refine ⟨rfl, cell, h1, h2, h3, ?_, ?_, h5, fun j hj => ?_⟩
        · show (6 : Int) ≤ _; omega
        · show (6 : Int) ≤ _; omega
        · have hj' : (j : Int) < 6 := hj
          exact h6 j (by omega)
  have hle1 : (3 : Int) ≤ σ'.1 := hle.1
  have hle2 : (0 : Int) ≤ σ'.2.1 := hle.2
  have K := hE l s b pf pt _ hG p e room_1 s m #[Value.ref b] below meth c 3 0 ⟨hx, hb, hr, hml, hown, hlocks, (fun h => absurd h (by decide)), State.WarmedH.refl s, Nat.le_refl 2048, by decide⟩ (Int.le_refl 3) (Int.le_refl 0) (by show (σ'.1 - 3).toNat ≤ 600000; omega) (by show (σ'.2.1 - 0).toNat ≤ 7302250; omega) s.heap [] ((lg_sl [Value.ref b] ++ List.replicate (4 - (lg_sl [Value.ref b]).length) Slot.unset).toArray) hH (fun q hq => by cases hq) (q_enLR (N := m_law) (av := [vr 0]) (by decide))
  rw [lg_entry_eq]
  intro T hT X
  obtain ⟨t, a1, o, b1, b2, ⟨ho, -⟩, Lx, ⟨f1, f2, f3⟩, hfree⟩ := K T hT X
  refine ⟨t, a1, o, b1, b2, ho, f1, f2, ?_⟩
  exact f3.weaken (fun y hy hlt => absurd hlt (Nat.not_lt.mpr (hfree y hy))) (by omega) (by omega)
theorem whole_start {p : Program} {e : Env} {s : State} {m : MethodId} {below : List Frame} {meth : Method} {c : Code} (l : Launch) {b L : Nat} {xs : Nat → Int32} (hL : L ≤ 3072) (C0 : lw_At p s m meth c b L xs) : W p l e room_1 s m #[Value.ref b] below meth c s.heap [] 0 0 (lw_Z below #[Value.ref b] s) (entryFrame m ([Value.ref b] : List Value).toArray 4) := whole_start0 l hL (law_runs L hL xs) C0
set_option maxHeartbeats 4000000 in
theorem lw_walk (l : Launch) (b : Addr) (xs : List Int32) : MetFree l x (headSpec (Jvm.Cond.code x code maxLocals ret :: tables_1) room_1) (lw_P b xs) (fun _ _ _ _ _ => True) lw_Q := by
  refine MetFree.of_bodyS (code := code) (maxLocals := maxLocals) (ret := ret) (by decide) ?_ ?_
  · intro args s m h hn
    obtain ⟨meth, c, h1, h2, h3, h4, h5, h6, -, -⟩ := Cond.code_spec hn (atoms_spec (ws := Jvm.Cond.code x code maxLocals ret :: tables_1) h _ List.mem_cons_self)
    exact ⟨meth, c, h1, h2, h3, h4, h5, h6⟩
  · intro p e s m args below meth c s₁ B hml0 hP _
    obtain ⟨rfl, hx, hbd, hgv⟩ := hP
    obtain ⟨scr, harrAt, hlist, hof, hsmall⟩ := hx
    obtain ⟨hcb, hkn, -, -⟩ := State.arrayAt?_spec harrAt
    have hown : s.vm.findClass R_law = some m.cls := findClass_of_methodNamed B.named
    have hts0 : ∀ c ∈ (Jvm.Cond.code x code maxLocals ret :: tables_1), c.before #[Value.ref b] s = true := atoms_spec (ws := Jvm.Cond.code x code maxLocals ret :: tables_1) B.pre
    have hts : ∀ w ∈ lw_tbl, w.before #[Value.ref b] s = true := k2_hts_sels lw_privs (fun w hw => hts0 w (List.mem_cons_of_mem _ hw)) lw_privs_ok
    have hml : c.maxLocals = 4 := B.maxLocals_eq (hts0 _ List.mem_cons_self)
    have X₀ : Stand p l e room_1 s m #[Value.ref b] below meth c s₁ [] 0 0 := Stand.of_body B
    have hh0 : s₁.heap = s.heap := by rw [B.state]; rfl
    have hsz : scr.slots.size = xs.length := by rw [← Array.length_toList, hlist, List.length_map]
    have hval : ∀ j : Nat, j < xs.length → scr.slots[j]? = some (.int (xs.getD j 0)) := fun j hj => by
      rw [← Array.getElem?_toList, hlist]
      simp [hj]
    have hbl : b < s.heap.size := (Array.getElem?_eq_some_iff.mp hcb).1
    have hX : va_X b xs.length (fun j => xs.getD j 0) s s.heap := ⟨scr, hcb, hof, hkn, hsz, hval⟩
    have K : W p l e room_1 s m #[Value.ref b] below meth c s₁.heap [] 0 0 (lw_Z below #[Value.ref b] s) (entryFrame m ([Value.ref b] : List Value).toArray 4) := by
      rw [hh0]
      exact whole_start l hbd ⟨B.exec, B.bytes, B.returns, hml, hown, hts, hX, hbl, B.notSynchronized, hgv⟩
    obtain ⟨t, a1, o, b1, b2, b3⟩ := K s₁ rfl X₀
    exact ⟨t, o, a1, b1, b2, b3⟩
theorem lw_pre_spec {args : Array Value} {s : State} (h : (Jvm.Cond.and given_1 narrow_1).before args s = true) (hr : rest_1_c.before args s = true) : ∃ (b : Addr) (xs : List Int32), lw_P b xs args s := by
  have hs := flat_of_before _ h
  have hq := flat_of_before _ hr
  have hc : (Cond.count 1).before args s = true := hs _ (by decide +kernel)
  have harr : (Cond.arrayOf (.arg 0) .int).before args s = true := hs _ (by decide +kernel)
  have hle : (Cond.le (.length (.arg 0)) (.int 3072)).before args s = true := hs _ (by decide +kernel)
  have hlen : (Cond.isInt (.length (.arg 0))).before args s = true := hq _ (by decide +kernel)
  have hall : (Cond.all (.arg 0) (.isInt (.elem (.arg 0) (.index 0)))).before args s = true := hq _ (by decide +kernel)
  obtain ⟨b, xs, hb, hx⟩ := State.ints_of_pre rfl harr hlen hall
  have hsm : xs.length < 2 ^ 31 := hx.choose_spec.2.2.2
  have hev : (Term.length (.arg 0)).eval args s none [] s = some (.int xs.length.toInt32) := hx.length_eval hb
  have hv := Cond.le_ints hev (show (Term.int 3072).eval args s none [] s = some (.int 3072) from rfl)
  have hd : xs.length.toInt32 ≤ 3072 := by
    simpa [Cond.before, Cond.holds, hv] using hle
  have hN : xs.length ≤ 3072 := (Int32.ofNat_le_ofNat hsm (by decide)).mp (show Int32.ofNat xs.length ≤ Int32.ofNat 3072 from hd)
  exact ⟨b, xs, Cond.one_arg hc (show args[0]? = some (.ref b) from hb), hx, hN, h⟩
theorem lw_comes (l : Launch) : Comes l x (Jvm.Cond.code x code maxLocals ret :: tables_1) room_1 (fun tb e args s => Calls_1 tb e args s ∧ rest_1 tb e args s ∧ Pre_1 tb e args s)
    (fun _ _ args s o t => lw_Q args s o t) := by
  intro p e ha hc hk s m args below hf hfit hheap happ hpre
  obtain ⟨b, xs, hP⟩ := lw_pre_spec hpre.2.2 hpre.2.1
  obtain ⟨k, o, h1, h2, h3, hQ⟩ := lw_walk l b xs p e ha hc hk s m args below hf ((Spec.applies_iff_loose hf).mp happ).1 hP trivial
  exact ⟨k, o, h1, h2, h3, hQ⟩
theorem lw_frame {s t : State} {o : Outcome} {args : Array Value} (h : Framed s o t [] 600000 7302250) :
    Framed s o t (fieldLocs frame_1_writes args s ++ arrayLocs frame_1_arrays args s ++ staticLocs frame_1_statics s) 600000 7302250 := h
theorem lw_limb (L : Cond) (hL : ∀ (args : Array Value) (s t : State), L.after args s (.returned (some (.int 1))) t = true) :
    ArmFor flags0 classFile x code maxLocals ret World_1 tables_1 room_1 Calls_1 rest_1 Pre_1
      (fun tb e a s o t => postC L tb e a s o t ∧ Framed s o t (fieldLocs frame_1_writes a s ++ arrayLocs frame_1_arrays a s ++ staticLocs frame_1_statics s) 600000 7302250) := by
  intro l _ _ _ p e ha hc hk s m args below hf hfit hheap happ hpre
  obtain ⟨k, o, h1, h2, h3, rfl, hF⟩ := lw_comes l p e ha hc hk s m args below hf hfit hheap happ hpre
  exact ⟨k, _, h1, h2, h3, hL args s _, lw_frame hF⟩
theorem i_vc : Claimed_1_1 ∧ Claimed_1_2 := ⟨lw_limb limb_1_1 (fun args s t => by simp [limb_1_1, Cond.after, Cond.holds, Cond.value]), lw_limb limb_1_2 (fun args s t => Cond.after_iff.mpr (by
  first | (rw [show limb_1_2 = Cond.eq .result (.int 1) from rfl, Cond.eq_ints (x := 1) (y := 1) rfl rfl]; simp; done) | (simp [limb_1_2, Cond.value, Term.eval]; done)))⟩

