section
variable {d : Nat} {M : Md} {pc : Nat} {L : List (Option AV)} {st : List AV} {σ σ' : Sg} {m m' : Mm} {r : Option AV}
/-- a call of a static method with more below on the stack -/
theorem q_runS16 {y : MethodName} {bytes cc : ByteArray} {maxL nL mc ms n index : Nat} {ret : Option FieldType} {ws : List Cond} {rm R : Room} {Pc : Array Value → State → Prop} {Qc : Array Value → State → Outcome → State → Prop} {free : Addr → Prop} {own : String} {As rest : List Value} {g : JFrame} {p : Program} {l : Launch} {e : Env} {s : State} {mi : MethodId} {args : Array Value} {below : List Frame} {meth : Method} {c : Code} {H : Heap} {locs : List Loc} {cells slots : Nat}
    (hx : p.tables.exec = Jvm.exec) (hb : c.code = cc) (hml : c.maxLocals = nL) (ho : s.vm.findClass own = some mi.cls) (hM : Met l y ws rm Pc Qc mc ms free) (hrc : rm.cells = mc) (hrs : rm.slots = ms) (hfr : rm.frames + 1 ≤ R.frames) (hlo : 16 + (maxL + 11) + rm.locals ≤ R.locals) (hws : ∀ w ∈ ws, ∀ (a' : Array Value) (U : State), s.WarmedH U.vm → w.before a' U = true) (hcw : Cond.code y bytes maxL ret ∈ ws)
    (hcode : (Cond.code y bytes maxL ret).before args s = true) (hini : (Cond.initialized y.cls).before args s = true) (hy : y.cls ≠ "java/lang/invoke/MethodHandle" ∧ y.cls ≠ "java/lang/invoke/VarHandle") (hlen : ∀ sig, parseMethodDescriptor y.desc = some sig → n = sig.parameters.length) (hl : (Cond.methodLink own index y).before args s = true) (hstt : (Cond.static y).before args s = true) (hp : PreS s H Pc As)
    (hg : g.method = mi) (hn : As.length = n) (hsize : g.locals.size = nL) (hstack : g.stack = As.reverse ++ rest) (hW : 2 * g.monitorRoom + (rest.map fun v => v.category).sum ≤ 16) (hdg : decode cc g.pc = .ok (.invokestatic index, 3)) (hf : cells + mc ≤ R.cells ∧ slots + ms ≤ R.slots) :
    va_Run p l e R s mi args below meth c H locs cells slots mc ms g rest (Qc As.toArray) (free) := by
  have hK : Back l R p e below s args y 3 16 (PreOf R mc ms Pc) (PostOf Qc mc ms free) := back_of (bytes := bytes) (maxL := maxL) (ret := ret) hM hp.1 hrc hrs hfr hlo hws hcw (fun a' U hW => word_at hW (Or.inl (by first | rfl | simp [Cond.onTables, Cond.keeps, Cond.steady])) hini)
  intro T hT X
  obtain ⟨v, vm₁, ⟨U', l2, c2, s2⟩, hW₁, X', ⟨g', mk, t, L, e1, e2, hq, h1, hL, h2, h3⟩, st⟩ := callS X hx (bytes := bytes) (maxL := maxL) (ret := ret) ho hl hstt hini hcode hy hK hg (hsize.trans hml.symm) (argsL := As) (rest := rest) (fun sig h => hn.trans (hlen sig h)) hstack hW (by rw [hb]; exact hdg)
    (fun vm₁ hW₁ => ⟨hf.1, hf.2, hp.2 (T.setVm vm₁) hT hW₁⟩)
  dsimp only [Pt.U, Pt.locs, Pt.cells, Pt.slots] at X' e1 e2 h1 h2 h3 st
  subst h1; subst h2; subst h3
  exact ⟨v, (T.setVm vm₁).calling g' mk As.toArray, t, U', L, hT, X', hL, e1, e2, hq, st⟩
theorem Ev.callS16 {N : Md} {d1 n idx : Nat} {v : AV} {av stk rest : List AV} {σ1 : Sg} {m1 : Mm} (hd : decode M.2.1 pc = .ok (.invokestatic idx, 3)) (hN : q_mt N n) (h5 : N.2.2.1 ≤ 13) (hl : Cond.methodLink M.1.cls idx N.1 ∈ lw_tbl) (hst : Cond.static N.1 ∈ lw_tbl) (hn : av.length = n) (hen : (q_sl av).length ≤ N.2.2.1) (hL : L.length = M.2.2.1) (hcat : (rest.map q_cat).sum ≤ 16) (hdd : d1 + 1 ≤ d) (hstk : stk = av.reverse ++ rest) (c : Call d1 N av σ m (some v) σ1 m1) (k : Ev d M (pc + 3) L (v :: rest) σ1 m1 r σ' m') : Ev d M pc L stk σ m r σ' m' := by
  refine Ev.callX c hN hen (fun {l s0 b pf pt D} hG {p e R s mi args below meth cd} hC {cells slots H locs ls} hH hl1 hM hf => ?_) k
  obtain ⟨a0, hts0⟩ := hG.1
  have hW := hC.2.2.2.2.2.2.2.1
  obtain ⟨⟨w1, w2⟩, w3, w4, w5, w6⟩ := q_cw (args := args) (x := 0) (y := 0) hts0 hW hN ⟨hdd, hC.2.2.2.2.2.2.2.2.1, hC.2.2.2.2.2.2.2.2.2⟩
  have hd2 := hC.2.2.2.2.2.2.2.2.2
  have hcs : ((rest.map (q_cv (q_ad s0.heap.size b pf pt))).map fun v => v.category).sum ≤ 16 := by
    have : (rest.map (q_cv (q_ad s0.heap.size b pf pt))).map (fun v => v.category) = rest.map q_cat := by
      rw [List.map_map]
      apply List.map_congr_left
      intro v _
      exact q_cat_eq _ v
    rw [this]
    exact hcat
  refine q_runS16 (As := av.map (q_cv (q_ad s0.heap.size b pf pt))) (rest := rest.map (q_cv (q_ad s0.heap.size b pf pt))) hC.1 hC.2.1 hC.2.2.2.1 hC.2.2.2.2.1 hM rfl rfl w1 (by show 16 + (N.2.2.1 + 11) + 40 * d1 ≤ R.locals; omega) w3 List.mem_cons_self w4 w5 ⟨hN.2.2.1.1, hN.2.2.1.2.1⟩ w6 (q_w hts0 hW hl rfl) (q_w hts0 hW hst rfl) (q_pre hW hH) rfl (by rw [List.length_map]; exact hn) (hl1.1.trans hL) ?_ (by show 2 * 0 + _ ≤ 16; omega) hd hf
  show stk.map _ = _
  rw [hstk, List.map_append, List.map_reverse]
end
section
variable {σ : Sg} {m : Mm}
/-! ways to choose -/
def cvv (n : Int) : Nat → Int
  | 0 => 1
  | i + 1 => cvv n i * (n - i) / (i + 1)
theorem cvv_b : ∀ n : Nat, n < 18 → ∀ i : Nat, i < 21 → 0 ≤ cvv n i * ((n : Int) - i) ∧ cvv n i * ((n : Int) - i) ≤ 1000000 := by decide +kernel
def chs (n k : Int) : Int := if 0 ≤ k ∧ k ≤ n then cvv n k.toNat else 0
theorem lp_Mo_choose {n k : Int} (hn : 0 ≤ n ∧ n ≤ 17) (hk : k ≤ 20) : ∀ (q i : Nat), (i : Int) + q = k → Ev 1 m_Mo_choose 5 [some (vi n), some (vi k), some (vl (cvv n i)), none, some (vi (i : Int))] [] σ m (some (vl (chs n k))) σ m
  | 0, i, hi => by
    refine Ev.iload d_Mo_choose_5 rfl ?_
    refine Ev.iload_n d_Mo_choose_7 rfl ?_
    refine Ev.icmp_ge (tgt := 31) d_Mo_choose_8 rfl (by first | omega | (simp [mu]; done) | (simp [mu]; omega)) (by first | omega | (simp [mu]; done) | (simp [mu]; omega)) (fun hb8 => ?_) (fun hb8 => by exfalso; first | omega | simp at hb8 | contradiction)
    refine Ev.iload_n d_Mo_choose_31 rfl ?_
    refine Ev.if_lt (tgt := 40) d_Mo_choose_32 rfl (by first | omega | (simp [mu]; done) | (simp [mu]; omega)) (fun hb32 => by exfalso; first | omega | simp at hb32 | contradiction) (fun hb32 => ?_)
    refine Ev.iload_n d_Mo_choose_35 rfl ?_
    refine Ev.iload_n d_Mo_choose_36 rfl ?_
    refine Ev.icmp_le (tgt := 44) d_Mo_choose_37 rfl (by first | omega | (simp [mu]; done) | (simp [mu]; omega)) (by first | omega | (simp [mu]; done) | (simp [mu]; omega)) (fun hb37 => ?_) (fun hb37 => ?_)
    · refine Ev.lload_n d_Mo_choose_44 rfl ?_
      exact Ev.to (Ev.lreturn d_Mo_choose_45 rfl) (rl (by rw [chs, if_pos (by omega), show k.toNat = i by omega])) rfl
    · refine Ev.lconst (x := 0) d_Mo_choose_40 rfl ?_
      refine Ev.goto (tgt := 45) d_Mo_choose_41 rfl ?_
      exact Ev.to (Ev.lreturn d_Mo_choose_45 rfl) (rl (by rw [chs, if_neg (by omega)])) rfl
  | q + 1, i, hi => by
    have hb := cvv_b n.toNat (by omega) i (by omega)
    rw [show ((n.toNat : Nat) : Int) = n by omega] at hb
    refine Ev.iload d_Mo_choose_5 rfl ?_
    refine Ev.iload_n d_Mo_choose_7 rfl ?_
    refine Ev.icmp_ge (tgt := 31) d_Mo_choose_8 rfl (by first | omega | (simp [mu]; done) | (simp [mu]; omega)) (by first | omega | (simp [mu]; done) | (simp [mu]; omega)) (fun hb8 => by exfalso; first | omega | simp at hb8 | contradiction) (fun hb8 => ?_)
    refine Ev.lload_n d_Mo_choose_11 rfl ?_
    refine Ev.iload_n d_Mo_choose_12 rfl ?_
    refine Ev.iload d_Mo_choose_13 rfl ?_
    refine Ev.isub d_Mo_choose_15 ?_
    refine Ev.i2l d_Mo_choose_16 (by first | omega | (simp [mu]; done) | (simp [mu]; omega)) ?_
    refine Ev.lmul d_Mo_choose_17 ?_
    refine Ev.iload d_Mo_choose_18 rfl ?_
    refine Ev.iconst d_Mo_choose_20 ?_
    refine Ev.iadd d_Mo_choose_21 ?_
    refine Ev.i2l d_Mo_choose_22 (by first | omega | (simp [mu]; done) | (simp [mu]; omega)) ?_
    refine Ev.ldiv d_Mo_choose_23 (by omega) (by first | omega | (simp [mu]; done) | (simp [mu]; omega)) ?_
    refine Ev.lstore_2 d_Mo_choose_24 rfl ?_
    refine Ev.iinc_4 d_Mo_choose_25 rfl ?_
    refine Ev.goto (tgt := 5) d_Mo_choose_28 rfl ?_
    exact lp_Mo_choose hn hk q (i + 1) (by omega)
theorem c_Mo_choose {n k : Int} (hn : 0 ≤ n ∧ n ≤ 17) (hk : k ≤ 20 ∧ 0 ≤ k) : Call 1 m_Mo_choose [vi n, vi k] σ m (some (vl (chs n k))) σ m := by
  show Ev 1 m_Mo_choose 0 [some (vi n), some (vi k), none, none, none] [] σ m _ σ m
  refine Ev.lconst (x := 1) d_Mo_choose_0 rfl ?_
  refine Ev.lstore_2 d_Mo_choose_1 rfl ?_
  refine Ev.iconst d_Mo_choose_2 ?_
  refine Ev.istore_4 d_Mo_choose_3 rfl ?_
  exact lp_Mo_choose hn hk.1 k.toNat 0 (by omega)
def pwr (v : Int) : Nat → Int
  | 0 => 1
  | n + 1 => pwr v n * v
theorem lp_Mo_power {v n : Int} (hv : -2147483648 ≤ v ∧ v ≤ 2147483647) (hn : 0 ≤ n ∧ n ≤ 1000) : ∀ (q i : Nat), (i : Int) + q = n → Ev 1 m_Mo_power 5 [some (vi v), some (vi n), some (vl (pwr v i)), none, some (vi (i : Int))] [] σ m (some (vl (pwr v n.toNat))) σ m
  | 0, i, hi => by
    refine Ev.iload d_Mo_power_5 rfl ?_
    refine Ev.iload_n d_Mo_power_7 rfl ?_
    refine Ev.icmp_ge (tgt := 22) d_Mo_power_8 rfl (by first | omega | (simp [mu]; done) | (simp [mu]; omega)) (by first | omega | (simp [mu]; done) | (simp [mu]; omega)) (fun hb8 => ?_) (fun hb8 => by exfalso; first | omega | simp at hb8 | contradiction)
    refine Ev.lload_n d_Mo_power_22 rfl ?_
    exact Ev.to (Ev.lreturn d_Mo_power_23 rfl) (rl (by rw [show n.toNat = i by omega])) rfl
  | q + 1, i, hi => by
    refine Ev.iload d_Mo_power_5 rfl ?_
    refine Ev.iload_n d_Mo_power_7 rfl ?_
    refine Ev.icmp_ge (tgt := 22) d_Mo_power_8 rfl (by first | omega | (simp [mu]; done) | (simp [mu]; omega)) (by first | omega | (simp [mu]; done) | (simp [mu]; omega)) (fun hb8 => by exfalso; first | omega | simp at hb8 | contradiction) (fun hb8 => ?_)
    refine Ev.lload_n d_Mo_power_11 rfl ?_
    refine Ev.iload_n d_Mo_power_12 rfl ?_
    refine Ev.i2l d_Mo_power_13 (by first | omega | (simp [mu]; done) | (simp [mu]; omega)) ?_
    refine Ev.lmul d_Mo_power_14 ?_
    refine Ev.lstore_2 d_Mo_power_15 rfl ?_
    refine Ev.iinc_4 d_Mo_power_16 rfl ?_
    refine Ev.goto (tgt := 5) d_Mo_power_19 rfl ?_
    exact lp_Mo_power hv hn q (i + 1) (by omega)
theorem c_Mo_power {v n : Int} (hv : -2147483648 ≤ v ∧ v ≤ 2147483647) (hn : 0 ≤ n ∧ n ≤ 1000) : Call 1 m_Mo_power [vi v, vi n] σ m (some (vl (pwr v n.toNat))) σ m := by
  show Ev 1 m_Mo_power 0 [some (vi v), some (vi n), none, none, none] [] σ m _ σ m
  refine Ev.lconst (x := 1) d_Mo_power_0 rfl ?_
  refine Ev.lstore_2 d_Mo_power_1 rfl ?_
  refine Ev.iconst d_Mo_power_2 ?_
  refine Ev.istore_4 d_Mo_power_3 rfl ?_
  exact lp_Mo_power hv hn n.toNat 0 (by omega)
/-! rational -/
def RT (k : Int) : Int := if k = 1 then 1 else if k = 2 then 1 else if k = 3 then 12 else if k = 4 then 620 else if k = 5 then 87304 else if k = 6 then 26312976 else 14616808192
def rtm (k a : Int) : Int := RT a * RT (k - a) * a * a * (k - a) * ((k - a) * chs (3 * k - 4) (3 * a - 2) - a * chs (3 * k - 4) (3 * a - 1))
def rts (k : Int) : Nat → Int
  | 0 => 0
  | n + 1 => rts k n + rtm k (n + 1)
theorem rts_ok : ∀ k : Nat, k < 6 → rts (k + 2) (k + 1) = RT (k + 2) := by decide +kernel
theorem lp2_Mo_rat (hM : MoS σ) {d k : Int} {mF : Mm} {r : Option AV} (hk : 2 ≤ k ∧ k ≤ 7) : ∀ (q : Nat) (a : Nat) (m : Mm) (x5 : Option AV), (a : Int) + 1 + q = k → m 84 k = rts k a → (∀ j, 1 ≤ j → j < k → m 84 j = RT j) → (∀ (m1 : Mm) (x4 x5 : Option AV), m1 = mu m 84 k (rts k (k - 1).toNat) → Ev 2 m_Mo_rational 122 [some (vr 57), some (vi d), some (vr 84), some (vi k), x4, x5] [] σ m1 r σ mF) → Ev 2 m_Mo_rational 39 [some (vr 57), some (vi d), some (vr 84), some (vi k), some (vi ((a : Int) + 1)), x5] [] σ m r σ mF
  | 0, a, m, x5, ha, hs, hR, c => by
    refine Ev.iload d_Mo_rational_39 rfl ?_
    refine Ev.iload_n d_Mo_rational_41 rfl ?_
    refine Ev.icmp_ge (tgt := 122) d_Mo_rational_42 rfl (by first | omega | (simp [mu]; done) | (simp [mu]; omega)) (by first | omega | (simp [mu]; done) | (simp [mu]; omega)) (fun hb42 => ?_) (fun hb42 => by exfalso; first | omega | simp at hb42 | contradiction)
    refine c m _ _ ?_
    rw [show (k - 1).toNat = a by omega, ← hs]
    funext b j
    simp only [mu]
    split
    next h => rw [h.1, h.2]
    next => rfl
  | q + 1, a, m, x5, ha, hs, hR, c => by
    refine Ev.iload d_Mo_rational_39 rfl ?_
    refine Ev.iload_n d_Mo_rational_41 rfl ?_
    refine Ev.icmp_ge (tgt := 122) d_Mo_rational_42 rfl (by first | omega | (simp [mu]; done) | (simp [mu]; omega)) (by first | omega | (simp [mu]; done) | (simp [mu]; omega)) (fun hb42 => by exfalso; first | omega | simp at hb42 | contradiction) (fun hb42 => ?_)
    refine Ev.iload_n d_Mo_rational_45 rfl ?_
    refine Ev.iload d_Mo_rational_46 rfl ?_
    refine Ev.isub d_Mo_rational_48 ?_
    refine Ev.istore_5 d_Mo_rational_49 rfl ?_
    refine Ev.aload_n d_Mo_rational_51 rfl ?_
    refine Ev.iload_n d_Mo_rational_52 rfl ?_
    refine Ev.dup2 d_Mo_rational_53 rfl rfl ?_
    refine Ev.laload d_Mo_rational_54 (is_84 hM) (by first | omega | (simp [mu]; done) | (simp [mu]; omega)) ?_
    refine Ev.aload_n d_Mo_rational_55 rfl ?_
    refine Ev.iload d_Mo_rational_56 rfl ?_
    refine Ev.laload d_Mo_rational_58 (is_84 hM) (by first | omega | (simp [mu]; done) | (simp [mu]; omega)) ?_
    refine Ev.aload_n d_Mo_rational_59 rfl ?_
    refine Ev.iload d_Mo_rational_60 rfl ?_
    refine Ev.laload d_Mo_rational_62 (is_84 hM) (by first | omega | (simp [mu]; done) | (simp [mu]; omega)) ?_
    refine Ev.lmul d_Mo_rational_63 ?_
    refine Ev.iload d_Mo_rational_64 rfl ?_
    refine Ev.i2l d_Mo_rational_66 (by first | omega | (simp [mu]; done) | (simp [mu]; omega)) ?_
    refine Ev.lmul d_Mo_rational_67 ?_
    refine Ev.iload d_Mo_rational_68 rfl ?_
    refine Ev.i2l d_Mo_rational_70 (by first | omega | (simp [mu]; done) | (simp [mu]; omega)) ?_
    refine Ev.lmul d_Mo_rational_71 ?_
    refine Ev.iload d_Mo_rational_72 rfl ?_
    refine Ev.i2l d_Mo_rational_74 (by first | omega | (simp [mu]; done) | (simp [mu]; omega)) ?_
    refine Ev.lmul d_Mo_rational_75 ?_
    refine Ev.iload d_Mo_rational_76 rfl ?_
    refine Ev.i2l d_Mo_rational_78 (by first | omega | (simp [mu]; done) | (simp [mu]; omega)) ?_
    refine Ev.iconst d_Mo_rational_79 ?_
    refine Ev.iload_n d_Mo_rational_80 rfl ?_
    refine Ev.imul d_Mo_rational_81 ?_
    refine Ev.iconst d_Mo_rational_82 ?_
    refine Ev.isub d_Mo_rational_83 ?_
    refine Ev.iconst d_Mo_rational_84 ?_
    refine Ev.iload d_Mo_rational_85 rfl ?_
    refine Ev.imul d_Mo_rational_87 ?_
    refine Ev.iconst d_Mo_rational_88 ?_
    refine Ev.isub d_Mo_rational_89 ?_
    refine Ev.callS d_Mo_rational_90 mt_Mo_choose lk_Mo_274 st_Mo_choose rfl (Nat.le_of_ble_eq_true rfl) rfl (Nat.le_of_ble_eq_true rfl) (by decide) rfl (c_Mo_choose (by omega) (by omega)) ?_
    refine Ev.lmul d_Mo_rational_93 ?_
    refine Ev.iload d_Mo_rational_94 rfl ?_
    refine Ev.i2l d_Mo_rational_96 (by first | omega | (simp [mu]; done) | (simp [mu]; omega)) ?_
    refine Ev.iconst d_Mo_rational_97 ?_
    refine Ev.iload_n d_Mo_rational_98 rfl ?_
    refine Ev.imul d_Mo_rational_99 ?_
    refine Ev.iconst d_Mo_rational_100 ?_
    refine Ev.isub d_Mo_rational_101 ?_
    refine Ev.iconst d_Mo_rational_102 ?_
    refine Ev.iload d_Mo_rational_103 rfl ?_
    refine Ev.imul d_Mo_rational_105 ?_
    refine Ev.iconst d_Mo_rational_106 ?_
    refine Ev.isub d_Mo_rational_107 ?_
    refine Ev.callS16 d_Mo_rational_108 mt_Mo_choose (by decide) lk_Mo_274 st_Mo_choose rfl (Nat.le_of_ble_eq_true rfl) rfl (Nat.le_of_ble_eq_true rfl) (by decide) rfl (c_Mo_choose (by omega) (by omega)) ?_
    refine Ev.lmul d_Mo_rational_111 ?_
    refine Ev.lsub d_Mo_rational_112 ?_
    refine Ev.lmul d_Mo_rational_113 ?_
    refine Ev.ladd d_Mo_rational_114 ?_
    rw [hs, hR ((a : Int) + 1) (by omega) (by omega), hR (k - ((a : Int) + 1)) (by omega) (by omega)]
    refine Ev.lastore d_Mo_rational_115 (is_84 hM) (by decide) (by first | omega | (simp [mu]; done) | (simp [mu]; omega)) ?_
    refine Ev.iinc_4 d_Mo_rational_116 rfl ?_
    refine Ev.goto (tgt := 39) d_Mo_rational_119 rfl ?_
    refine lp2_Mo_rat hM hk q (a + 1) _ _ (by omega) (by rw [mu_s]; rfl) (fun j h1 h2 => by rw [mu_n (by omega)]; exact hR j h1 h2) (fun m1 x4 x5 e => c m1 x4 x5 ?_)
    rw [e]
    funext b j
    simp only [mu]
    split <;> rfl
theorem lp1_Mo_rat (hM : MoS σ) {d : Int} (hd : 1 ≤ d ∧ d ≤ 7) : ∀ (q : Nat) (k : Int) (m : Mm) (x4 x5 : Option AV), k + q = d + 1 → 2 ≤ k → (∀ j, 1 ≤ j → j < k → m 84 j = RT j) → ∃ m', Ev 2 m_Mo_rational 27 [some (vr 57), some (vi d), some (vr 84), some (vi k), x4, x5] [] σ m (some (vl (RT d))) σ m' ∧ ∀ a i : Int, a ≠ 84 → m' a i = m a i
  | 0, k, m, x4, x5, hq, hk, hR => by
    refine ⟨m, ?_, fun _ _ _ => rfl⟩
    refine Ev.iload_n d_Mo_rational_27 rfl ?_
    refine Ev.iload_n d_Mo_rational_28 rfl ?_
    refine Ev.icmp_gt (tgt := 128) d_Mo_rational_29 rfl (by first | omega | (simp [mu]; done) | (simp [mu]; omega)) (by first | omega | (simp [mu]; done) | (simp [mu]; omega)) (fun hb29 => ?_) (fun hb29 => by exfalso; first | omega | simp at hb29 | contradiction)
    refine Ev.aload_n d_Mo_rational_128 rfl ?_
    refine Ev.iload_n d_Mo_rational_129 rfl ?_
    refine Ev.laload d_Mo_rational_130 (is_84 hM) (by first | omega | (simp [mu]; done) | (simp [mu]; omega)) ?_
    exact Ev.to (Ev.lreturn d_Mo_rational_131 rfl) (rl (hR d (by omega) (by omega))) rfl
  | q + 1, k, m, x4, x5, hq, hk, hR => by
    have hrt := rts_ok (k - 2).toNat (by omega)
    rw [show (((k - 2).toNat : Nat) : Int) + 2 = k by omega, show (k - 2).toNat + 1 = (k - 1).toNat by omega] at hrt
    obtain ⟨m', g1, g2⟩ := lp1_Mo_rat hM hd q (k + 1) (mu (mu m 84 k 0) 84 k (RT k)) none none (by omega) (by omega) (fun j h1 h2 => by
      by_cases e : j = k
      · rw [e, mu_s]
      · rw [mu_n (by omega), mu_n (by omega)]; exact hR j h1 (by omega))
    refine ⟨m', ?_, fun a i h => by rw [g2 a i h, mu_a h, mu_a h]⟩
    refine Ev.iload_n d_Mo_rational_27 rfl ?_
    refine Ev.iload_n d_Mo_rational_28 rfl ?_
    refine Ev.icmp_gt (tgt := 128) d_Mo_rational_29 rfl (by first | omega | (simp [mu]; done) | (simp [mu]; omega)) (by first | omega | (simp [mu]; done) | (simp [mu]; omega)) (fun hb29 => by exfalso; first | omega | simp at hb29 | contradiction) (fun hb29 => ?_)
    refine Ev.aload_n d_Mo_rational_32 rfl ?_
    refine Ev.iload_n d_Mo_rational_33 rfl ?_
    refine Ev.lconst (x := 0) d_Mo_rational_34 rfl ?_
    refine Ev.lastore d_Mo_rational_35 (is_84 hM) (by decide) (by first | omega | (simp [mu]; done) | (simp [mu]; omega)) ?_
    refine Ev.iconst d_Mo_rational_36 ?_
    refine Ev.istore_4 d_Mo_rational_37 rfl ?_
    refine lp2_Mo_rat hM (k := k) (by omega) (k - 1).toNat 0 _ _ (by omega) mu_s (fun j h1 h2 => by rw [mu_n (by omega)]; exact hR j h1 h2) (fun m1 y4 y5 e => ?_)
    rw [hrt] at e
    subst e
    refine Ev.iinc_3 d_Mo_rational_122 rfl ?_
    refine Ev.goto (tgt := 27) d_Mo_rational_125 rfl ?_
    refine Ev.forget 4 ?_
    refine Ev.forget 5 ?_
    exact g1
def sp_rational (d : Int) : Int := if 1 ≤ d ∧ d ≤ 7 then RT d else -1
theorem c_Mo_rational (hM : MoS σ) {d : Int} (h1 : -2147483648 ≤ d ∧ d ≤ 2147483647) : ∃ m', Call 2 m_Mo_rational [vr 57, vi d] σ m (some (vl (sp_rational d))) σ m' ∧ ∀ a i : Int, a ≠ 84 → m' a i = m a i := by
  by_cases hd : 1 ≤ d ∧ d ≤ 7
  · obtain ⟨m', g1, g2⟩ := lp1_Mo_rat hM hd (d - 1).toNat 2 (mu m 84 1 1) none none (by omega) (by omega) (fun j h1 h2 => by rw [show j = 1 by omega, mu_s]; rfl)
    refine ⟨m', ?_, fun a i h => by rw [g2 a i h, mu_a h]⟩
    rw [sp_rational, if_pos hd]
    show Ev 2 m_Mo_rational 0 [some (vr 57), some (vi d), none, none, none, none] [] σ m _ σ _
    refine Ev.iload_n d_Mo_rational_0 rfl ?_
    refine Ev.i2l d_Mo_rational_1 (by first | omega | (simp [mu]; done) | (simp [mu]; omega)) ?_
    refine Ev.lconst (x := 1) d_Mo_rational_2 rfl ?_
    refine Ev.ldc2 (x := 7) d_Mo_rational_3 kl_Mo_293 ?_
    refine Ev.callS d_Mo_rational_6 mt_Mo_in lk_Mo_107 st_Mo_in rfl (Nat.le_of_ble_eq_true rfl) rfl (Nat.le_of_ble_eq_true rfl) (by decide) rfl (c_Mo_in (by omega) (by omega) (by omega)) ?_
    refine Ev.if_ne (tgt := 16) d_Mo_rational_9 rfl b01_b (fun hb9 => ?_) (fun hb9 => by exfalso; (first | rw [b01_ne] at hb9 | rw [b01_eq] at hb9); omega)
    rw [b01_ne] at hb9
    refine Ev.aload_n d_Mo_rational_16 rfl ?_
    refine Ev.gr 35 d_Mo_rational_17 lf_Mo_91 rfl rfl (is_57 hM) (by decide) (rf_57_35 hM) ?_
    refine Ev.astore_2 d_Mo_rational_20 rfl ?_
    refine Ev.aload_n d_Mo_rational_21 rfl ?_
    refine Ev.iconst d_Mo_rational_22 ?_
    refine Ev.lconst (x := 1) d_Mo_rational_23 rfl ?_
    refine Ev.lastore d_Mo_rational_24 (is_84 hM) (by decide) (by first | omega | (simp [mu]; done) | (simp [mu]; omega)) ?_
    refine Ev.iconst d_Mo_rational_25 ?_
    refine Ev.istore_3 d_Mo_rational_26 rfl ?_
    exact g1
  · refine ⟨m, ?_, fun _ _ _ => rfl⟩
    rw [sp_rational, if_neg hd]
    show Ev 2 m_Mo_rational 0 [some (vr 57), some (vi d), none, none, none, none] [] σ m _ σ _
    refine Ev.iload_n d_Mo_rational_0 rfl ?_
    refine Ev.i2l d_Mo_rational_1 (by first | omega | (simp [mu]; done) | (simp [mu]; omega)) ?_
    refine Ev.lconst (x := 1) d_Mo_rational_2 rfl ?_
    refine Ev.ldc2 (x := 7) d_Mo_rational_3 kl_Mo_293 ?_
    refine Ev.callS d_Mo_rational_6 mt_Mo_in lk_Mo_107 st_Mo_in rfl (Nat.le_of_ble_eq_true rfl) rfl (Nat.le_of_ble_eq_true rfl) (by decide) rfl (c_Mo_in (by omega) (by omega) (by omega)) ?_
    refine Ev.if_ne (tgt := 16) d_Mo_rational_9 rfl b01_b (fun hb9 => by exfalso; (first | rw [b01_ne] at hb9 | rw [b01_eq] at hb9); omega) (fun hb9 => ?_)
    rw [b01_eq] at hb9
    refine Ev.ldc2 (x := (-1)) d_Mo_rational_12 kl_Mo_154 ?_
    exact Ev.to (Ev.lreturn d_Mo_rational_15 rfl) rfl rfl
end
