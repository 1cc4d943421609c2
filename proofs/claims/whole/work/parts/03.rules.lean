section
variable {d : Nat} {M : Md} {pc : Nat} {L : List (Option AV)} {st : List AV} {σ σ' : Sg} {m m' : Mm} {r : Option AV}
theorem Ev.lift {pc2 : Nat} {st2 : List AV} (h : ∀ {A : Int → Nat} {p : Program} {l : Launch} {e : Env} {R : Room} {s : State} {mi : MethodId} {args : Array Value} {below : List Frame} {meth : Method} {c : Code} {H : Heap} {locs : List Loc} {cells slots : Nat} {Q : State → Prop} {ls : Array Slot}, p.tables.exec = Jvm.exec → c.code = M.2.1 → q_LR A L ls → W p l e R s mi args below meth c H locs cells slots Q (F0 mi pc2 ls (st2.map (q_cv A))) → W p l e R s mi args below meth c H locs cells slots Q (F0 mi pc ls (st.map (q_cv A)))) (k : Ev d M pc2 L st2 σ m r σ' m') : Ev d M pc L st σ m r σ' m' :=
  ⟨k.1, fun l s0 b pf pt D hG p e R s mi args below meth c n0 k0 hC h1 h2 h3 h4 H locs ls hH hf hl => h hC.1 hC.2.1 hl (k.2 l s0 b pf pt D hG p e R s mi args below meth c n0 k0 hC h1 h2 h3 h4 H locs ls hH hf hl)⟩
theorem Ev.two {pc2 pc3 : Nat} {st2 : List AV} {P : Prop} (h : ∀ {A : Int → Nat} {p : Program} {l : Launch} {e : Env} {R : Room} {s : State} {mi : MethodId} {args : Array Value} {below : List Frame} {meth : Method} {c : Code} {H : Heap} {locs : List Loc} {cells slots : Nat} {Q : State → Prop} {ls : Array Slot}, p.tables.exec = Jvm.exec → c.code = M.2.1 → (P → W p l e R s mi args below meth c H locs cells slots Q (F0 mi pc2 ls (st2.map (q_cv A)))) → (¬ P → W p l e R s mi args below meth c H locs cells slots Q (F0 mi pc3 ls (st2.map (q_cv A)))) → W p l e R s mi args below meth c H locs cells slots Q (F0 mi pc ls (st.map (q_cv A)))) (k1 : P → Ev d M pc2 L st2 σ m r σ' m') (k2 : ¬ P → Ev d M pc3 L st2 σ m r σ' m') : Ev d M pc L st σ m r σ' m' := by
  refine ⟨?_, fun l s0 b pf pt D hG p e R s mi args below meth c n0 k0 hC h1 h2 h3 h4 H locs ls hH hf hl => h hC.1 hC.2.1 (fun q => (k1 q).2 l s0 b pf pt D hG p e R s mi args below meth c n0 k0 hC h1 h2 h3 h4 H locs ls hH hf hl) (fun q => (k2 q).2 l s0 b pf pt D hG p e R s mi args below meth c n0 k0 hC h1 h2 h3 h4 H locs ls hH hf hl)⟩
  by_cases q : P
  · exact (k1 q).1
  · exact (k2 q).1
theorem Ev.iconst {n : Int} (hd : decode M.2.1 pc = .ok (.iconst n, 1)) (k : Ev d M (pc + 1) L (vi n :: st) σ m r σ' m') : Ev d M pc L st σ m r σ' m' := 
  Ev.lift (fun hx hb _ k => lv_iconst hx hb hd rfl k) k
theorem Ev.bipush {n : Int} (hd : decode M.2.1 pc = .ok (.bipush n, 2)) (hn : (Int8.ofInt n).toInt32 = Int32.ofInt n) (k : Ev d M (pc + 2) L (vi n :: st) σ m r σ' m') : Ev d M pc L st σ m r σ' m' := 
  Ev.lift (fun hx hb _ k => lv_bipush hx hb hd hn k) k
theorem Ev.sipush {n : Int} (hd : decode M.2.1 pc = .ok (.sipush n, 3)) (hn : (Int16.ofInt n).toInt32 = Int32.ofInt n) (k : Ev d M (pc + 3) L (vi n :: st) σ m r σ' m') : Ev d M pc L st σ m r σ' m' := 
  Ev.lift (fun hx hb _ k => lv_sipush hx hb hd hn k) k
theorem Ev.lconst {n : Fin 2} {x : Int} (hd : decode M.2.1 pc = .ok (.lconst n, 1)) (hn : Int64.ofNat (n : Nat) = Int64.ofInt x) (k : Ev d M (pc + 1) L (vl x :: st) σ m r σ' m') : Ev d M pc L st σ m r σ' m' := 
  Ev.lift (fun hx hb _ k => lv_lconst hx hb hd hn k) k
theorem Ev.null (hd : decode M.2.1 pc = .ok (.aconst_null, 1)) (k : Ev d M (pc + 1) L (vr (-1) :: st) σ m r σ' m') : Ev d M pc L st σ m r σ' m' := 
  Ev.lift (fun hx hb _ k => lv_null hx hb hd k) k
theorem Ev.iload_n {k : Fin 4} {x : Int} (hd : decode M.2.1 pc = .ok (.iload_n k, 1)) (hv : L[(k : Nat)]? = some (some (vi x))) (kk : Ev d M (pc + 1) L (vi x :: st) σ m r σ' m') : Ev d M pc L st σ m r σ' m' := 
  Ev.lift (fun hx hb hl k => lv_iload_n hx hb hd rfl (hl.2.2 _ _ hv) k) kk
theorem Ev.iload {i : Nat} {x : Int} (hd : decode M.2.1 pc = .ok (.iload i, 2)) (hv : L[i]? = some (some (vi x))) (kk : Ev d M (pc + 2) L (vi x :: st) σ m r σ' m') : Ev d M pc L st σ m r σ' m' := 
  Ev.lift (fun hx hb hl k => lv_iload hx hb hd (hl.2.2 _ _ hv) k) kk
theorem Ev.lload_n {k : Fin 4} {x : Int} (hd : decode M.2.1 pc = .ok (.lload_n k, 1)) (hv : L[(k : Nat)]? = some (some (vl x))) (kk : Ev d M (pc + 1) L (vl x :: st) σ m r σ' m') : Ev d M pc L st σ m r σ' m' := 
  Ev.lift (fun hx hb hl k => lv_lload_n hx hb hd rfl (hl.2.2 _ _ hv) k) kk
theorem Ev.lload {i : Nat} {x : Int} (hd : decode M.2.1 pc = .ok (.lload i, 2)) (hv : L[i]? = some (some (vl x))) (kk : Ev d M (pc + 2) L (vl x :: st) σ m r σ' m') : Ev d M pc L st σ m r σ' m' := 
  Ev.lift (fun hx hb hl k => lv_lload hx hb hd (hl.2.2 _ _ hv) k) kk
theorem Ev.aload_n {k : Fin 4} {x : Int} (hd : decode M.2.1 pc = .ok (.aload_n k, 1)) (hv : L[(k : Nat)]? = some (some (vr x))) (kk : Ev d M (pc + 1) L (vr x :: st) σ m r σ' m') : Ev d M pc L st σ m r σ' m' := by
  refine Ev.lift (fun {A} {p l e R s mi args below meth c H locs cells slots Q ls} hx hb hl k => ?_) kk
  have h1 := hl.2.2 _ _ hv
  simp only [q_cv] at h1
  simp only [List.map_cons, q_cv] at k
  by_cases h : x < 0
  · rw [if_pos h] at h1 k
    exact lv_aload_nN hx hb hd rfl h1 k
  · rw [if_neg h] at h1 k
    exact lv_aload_n hx hb hd rfl h1 k
theorem Ev.aload {i : Nat} {x : Int} (hd : decode M.2.1 pc = .ok (.aload i, 2)) (hv : L[i]? = some (some (vr x))) (kk : Ev d M (pc + 2) L (vr x :: st) σ m r σ' m') : Ev d M pc L st σ m r σ' m' := by
  refine Ev.lift (fun {A} {p l e R s mi args below meth c H locs cells slots Q ls} hx hb hl k => ?_) kk
  have h1 := hl.2.2 _ _ hv
  simp only [q_cv] at h1
  simp only [List.map_cons, q_cv] at k
  by_cases h : x < 0
  · rw [if_pos h] at h1 k
    exact lv_aloadN hx hb hd h1 k
  · rw [if_neg h] at h1 k
    exact lv_aload hx hb hd h1 k
theorem Ev.iadd {x y : Int} (hd : decode M.2.1 pc = .ok (.iadd, 1)) (k : Ev d M (pc + 1) L (vi (x + y) :: st) σ m r σ' m') : Ev d M pc L (vi y :: vi x :: st) σ m r σ' m' := 
  Ev.lift (fun hx hb _ k => lv_iadd hx hb hd (by simp only [List.map_cons, q_cv, Int32.ofInt_add] at k; exact k)) k
theorem Ev.isub {x y : Int} (hd : decode M.2.1 pc = .ok (.isub, 1)) (k : Ev d M (pc + 1) L (vi (x - y) :: st) σ m r σ' m') : Ev d M pc L (vi y :: vi x :: st) σ m r σ' m' := 
  Ev.lift (fun hx hb _ k => lv_isub hx hb hd (by simp only [List.map_cons, q_cv, Int32.ofInt_sub] at k; exact k)) k
theorem Ev.imul {x y : Int} (hd : decode M.2.1 pc = .ok (.imul, 1)) (k : Ev d M (pc + 1) L (vi (x * y) :: st) σ m r σ' m') : Ev d M pc L (vi y :: vi x :: st) σ m r σ' m' := 
  Ev.lift (fun hx hb _ k => lv_imul hx hb hd (by simp only [List.map_cons, q_cv, Int32.ofInt_mul] at k; exact k)) k
theorem Ev.ladd {x y : Int} (hd : decode M.2.1 pc = .ok (.ladd, 1)) (k : Ev d M (pc + 1) L (vl (x + y) :: st) σ m r σ' m') : Ev d M pc L (vl y :: vl x :: st) σ m r σ' m' := 
  Ev.lift (fun hx hb _ k => lv_ladd hx hb hd (by simp only [List.map_cons, q_cv, Int64.ofInt_add] at k; exact k)) k
theorem Ev.lsub {x y : Int} (hd : decode M.2.1 pc = .ok (.lsub, 1)) (k : Ev d M (pc + 1) L (vl (x - y) :: st) σ m r σ' m') : Ev d M pc L (vl y :: vl x :: st) σ m r σ' m' := 
  Ev.lift (fun hx hb _ k => lv_lsub hx hb hd (by simp only [List.map_cons, q_cv, Int64.ofInt_sub] at k; exact k)) k
theorem Ev.lmul {x y : Int} (hd : decode M.2.1 pc = .ok (.lmul, 1)) (k : Ev d M (pc + 1) L (vl (x * y) :: st) σ m r σ' m') : Ev d M pc L (vl y :: vl x :: st) σ m r σ' m' := 
  Ev.lift (fun hx hb _ k => lv_lmul hx hb hd (by simp only [List.map_cons, q_cv, Int64.ofInt_mul] at k; exact k)) k
theorem Ev.ineg {x : Int} (hd : decode M.2.1 pc = .ok (.ineg, 1)) (k : Ev d M (pc + 1) L (vi (-x) :: st) σ m r σ' m') : Ev d M pc L (vi x :: st) σ m r σ' m' := 
  Ev.lift (fun hx hb _ k => lv_ineg hx hb hd (by simp only [List.map_cons, q_cv, Int32.ofInt_neg] at k; exact k)) k
theorem q_div32 {x y : Int} (h0 : 0 ≤ x) (h1 : x ≤ 2147483647) (h2 : 0 < y) (h3 : y ≤ 2147483647) : Int32.ofInt x / Int32.ofInt y = Int32.ofInt (x / y) := by
  have h := Int32.ofInt_tdiv (a := x) (b := y) (by rw [Int32.toInt_minValue]; omega) (by rw [Int32.toInt_maxValue]; omega) (by rw [Int32.toInt_minValue]; omega) (by rw [Int32.toInt_maxValue]; omega)
  rw [← h, Int.tdiv_eq_ediv_of_nonneg h0]
theorem q_div64 {x y : Int} (h0 : 0 ≤ x) (h1 : x ≤ 9223372036854775807) (h2 : 0 < y) (h3 : y ≤ 9223372036854775807) : Int64.ofInt x / Int64.ofInt y = Int64.ofInt (x / y) := by
  have h := Int64.ofInt_tdiv (a := x) (b := y) (by rw [Int64.toInt_minValue]; omega) (by rw [Int64.toInt_maxValue]; omega) (by rw [Int64.toInt_minValue]; omega) (by rw [Int64.toInt_maxValue]; omega)
  rw [← h, Int.tdiv_eq_ediv_of_nonneg h0]
theorem q_ne0 {y : Int} (h2 : 0 < y) (h3 : y ≤ 2147483647) : ¬ Int32.ofInt y = 0 := by
  rw [q_z, q_eq (by omega) (by omega)]; omega
theorem q_ne0l {y : Int} (h2 : 0 < y) (h3 : y ≤ 9223372036854775807) : ¬ Int64.ofInt y = 0 := by
  rw [show (0 : Int64) = Int64.ofInt 0 from rfl, ← Int64.toInt_inj, q_i64 (by omega), q_i64 (by omega)]; omega
theorem Ev.idiv {x y : Int} (hd : decode M.2.1 pc = .ok (.idiv, 1)) (hx : 0 ≤ x ∧ x ≤ 2147483647) (hy : 0 < y ∧ y ≤ 2147483647) (k : Ev d M (pc + 1) L (vi (x / y) :: st) σ m r σ' m') : Ev d M pc L (vi y :: vi x :: st) σ m r σ' m' := 
  Ev.lift (fun hX hb _ k => lv_idiv hX hb hd (q_ne0 hy.1 hy.2) (by rw [q_div32 hx.1 hx.2 hy.1 hy.2]; exact k)) k
theorem Ev.irem {x y : Int} (hd : decode M.2.1 pc = .ok (.irem, 1)) (hx : 0 ≤ x ∧ x ≤ 2147483647) (hy : 0 < y ∧ y ≤ 2147483647) (k : Ev d M (pc + 1) L (vi (x % y) :: st) σ m r σ' m') : Ev d M pc L (vi y :: vi x :: st) σ m r σ' m' :=
  Ev.lift (fun hX hb _ k => lv_irem hX hb hd (q_ne0 hy.1 hy.2) (by rw [q_div32 hx.1 hx.2 hy.1 hy.2, ← Int32.ofInt_mul, ← Int32.ofInt_sub, show x - x / y * y = x % y by rw [Int.emod_def, Int.mul_comm]]; exact k)) k
theorem Ev.ldiv {x y : Int} (hd : decode M.2.1 pc = .ok (.ldiv, 1)) (hx : 0 ≤ x ∧ x ≤ 9223372036854775807) (hy : 0 < y ∧ y ≤ 9223372036854775807) (k : Ev d M (pc + 1) L (vl (x / y) :: st) σ m r σ' m') : Ev d M pc L (vl y :: vl x :: st) σ m r σ' m' := 
  Ev.lift (fun hX hb _ k => lv_ldiv hX hb hd (q_ne0l hy.1 hy.2) (by rw [q_div64 hx.1 hx.2 hy.1 hy.2]; exact k)) k
theorem Ev.i2l {x : Int} (hd : decode M.2.1 pc = .ok (.i2l, 1)) (hx : -2147483648 ≤ x ∧ x ≤ 2147483647) (k : Ev d M (pc + 1) L (vl x :: st) σ m r σ' m') : Ev d M pc L (vi x :: st) σ m r σ' m' :=
  Ev.lift (fun hX hb _ k => lv_i2l hX hb hd (Int32.toInt64_ofInt (by rw [Int32.toInt_minValue]; omega) (by rw [Int32.toInt_maxValue]; omega)) k) k
theorem Ev.l2i {x : Int} (hd : decode M.2.1 pc = .ok (.l2i, 1)) (k : Ev d M (pc + 1) L (vi x :: st) σ m r σ' m') : Ev d M pc L (vl x :: st) σ m r σ' m' :=
  Ev.lift (fun hX hb _ k => lv_l2i hX hb hd Int64.toInt32_ofInt k) k
theorem Ev.i2b {x : Int} (hd : decode M.2.1 pc = .ok (.i2b, 1)) (k : Ev d M (pc + 1) L (vi (x.bmod 256) :: st) σ m r σ' m') : Ev d M pc L (vi x :: st) σ m r σ' m' :=
  Ev.lift (fun hX hb _ k => lv_i2b hX hb hd (Int32.toInt_inj.mp (by rw [Int8.toInt_toInt32, Int32.toInt_toInt8, Int32.toInt_ofInt, Int32.toInt_ofInt]; simp only [Int32.size, Int.bmod_def]; omega)) k) k
theorem Ev.i2s {x : Int} (hd : decode M.2.1 pc = .ok (.i2s, 1)) (k : Ev d M (pc + 1) L (vi (x.bmod 65536) :: st) σ m r σ' m') : Ev d M pc L (vi x :: st) σ m r σ' m' :=
  Ev.lift (fun hX hb _ k => lv_i2s hX hb hd (Int32.toInt_inj.mp (by rw [Int16.toInt_toInt32, Int32.toInt_toInt16, Int32.toInt_ofInt, Int32.toInt_ofInt]; simp only [Int32.size, Int.bmod_def]; omega)) k) k
theorem q_cat_eq (A : Int → Nat) (v : AV) : (q_cv A v).category = q_cat v := by
  rcases v with x | x | x
  · rfl
  · rfl
  · simp only [q_cv, q_cat]; split <;> rfl
theorem Ev.dup {v : AV} (hd : decode M.2.1 pc = .ok (.dup, 1)) (hv : q_cat v = 1) (k : Ev d M (pc + 1) L (v :: v :: st) σ m r σ' m') : Ev d M pc L (v :: st) σ m r σ' m' :=
  Ev.lift (fun {A} {p l e R s mi args below meth c H locs cells slots Q ls} hX hb _ k => lv_dup hX hb hd (by rw [q_cat_eq]; exact hv) k) k
theorem Ev.pop {v : AV} (hd : decode M.2.1 pc = .ok (.pop, 1)) (hv : q_cat v = 1) (k : Ev d M (pc + 1) L st σ m r σ' m') : Ev d M pc L (v :: st) σ m r σ' m' :=
  Ev.lift (fun {A} {p l e R s mi args below meth c H locs cells slots Q ls} hX hb _ k => lv_pop hX hb hd (by rw [q_cat_eq]; exact hv) k) k
theorem Ev.dup2 {v u : AV} (hd : decode M.2.1 pc = .ok (.dup2, 1)) (hv : q_cat v = 1) (hu : q_cat u = 1) (k : Ev d M (pc + 1) L (v :: u :: v :: u :: st) σ m r σ' m') : Ev d M pc L (v :: u :: st) σ m r σ' m' :=
  Ev.lift (fun {A} {p l e R s mi args below meth c H locs cells slots Q ls} hX hb _ k => lv_dup2_11 hX hb hd (by rw [q_cat_eq]; exact hv) (by rw [q_cat_eq]; exact hu) k) k
theorem Ev.goto {off : Int} {tgt : Nat} (hd : decode M.2.1 pc = .ok (.goto off, 3)) (ht : (pc : Int) + off = (tgt : Int)) (k : Ev d M tgt L st σ m r σ' m') : Ev d M pc L st σ m r σ' m' :=
  Ev.lift (fun hX hb _ k => lv_goto hX hb hd ht k) k
-- how the kit states each branch is met by simp over both forms
theorem Ev.icmp_ne {x y : Int} {off : Int} {tgt : Nat} (hd : decode M.2.1 pc = .ok (.if_icmp .ne off, 3)) (ht : (pc : Int) + off = (tgt : Int)) (hx : -2147483648 ≤ x ∧ x ≤ 2147483647) (hy : -2147483648 ≤ y ∧ y ≤ 2147483647) (k1 : ¬ x = y → Ev d M tgt L st σ m r σ' m') (k2 : x = y → Ev d M (pc + 3) L st σ m r σ' m') : Ev d M pc L (vi y :: vi x :: st) σ m r σ' m' :=
  Ev.two (P := ¬ x = y) (fun hX hb k1 k2 => lv_icmp_ne hX hb hd ht (fun q => k1 (fun z => q ((q_eq hx hy).mpr z))) (fun q => k2 (fun z => z ((q_eq hx hy).mp q)))) k1 (fun z => k2 (Decidable.of_not_not z))
theorem Ev.if_ne {x : Int} {off : Int} {tgt : Nat} (hd : decode M.2.1 pc = .ok (.ifCond .ne off, 3)) (ht : (pc : Int) + off = (tgt : Int)) (hx : -2147483648 ≤ x ∧ x ≤ 2147483647) (k1 : ¬ x = 0 → Ev d M tgt L st σ m r σ' m') (k2 : x = 0 → Ev d M (pc + 3) L st σ m r σ' m') : Ev d M pc L (vi x :: st) σ m r σ' m' := by
  have hy : -2147483648 ≤ (0 : Int) ∧ (0 : Int) ≤ 2147483647 := by omega
  exact Ev.two (P := ¬ x = 0) (fun hX hb k1 k2 => lv_if_ne hX hb hd ht (fun q => k1 (fun z => q ((q_eq hx hy).mpr z))) (fun q => k2 (fun z => z ((q_eq hx hy).mp q)))) k1 (fun z => k2 (Decidable.of_not_not z))
theorem Ev.icmp_eq {x y : Int} {off : Int} {tgt : Nat} (hd : decode M.2.1 pc = .ok (.if_icmp .eq off, 3)) (ht : (pc : Int) + off = (tgt : Int)) (hx : -2147483648 ≤ x ∧ x ≤ 2147483647) (hy : -2147483648 ≤ y ∧ y ≤ 2147483647) (k1 : x = y → Ev d M tgt L st σ m r σ' m') (k2 : ¬ (x = y) → Ev d M (pc + 3) L st σ m r σ' m') : Ev d M pc L (vi y :: vi x :: st) σ m r σ' m' :=
  Ev.two (P := x = y) (fun hX hb k1 k2 => lv_icmp_eq hX hb hd ht (fun q => k1 (by first | exact (q_eq hx hy).mp q | exact (q_lt hx hy).mp q | exact (q_le hx hy).mp q | exact (q_lt hy hx).mp q | exact (q_le hy hx).mp q | (rw [q_eq hx hy] at q; exact q) | (rw [ne_eq, q_eq hx hy] at q; exact q))) (fun q => k2 (by first | (rw [q_eq hx hy] at q; exact q) | (rw [q_lt hx hy] at q; exact q) | (rw [q_le hx hy] at q; exact q) | (rw [q_lt hy hx] at q; exact q) | (rw [q_le hy hx] at q; exact q) | (rw [ne_eq, q_eq hx hy] at q; exact q)))) k1 k2
theorem Ev.if_eq {x : Int} {off : Int} {tgt : Nat} (hd : decode M.2.1 pc = .ok (.ifCond .eq off, 3)) (ht : (pc : Int) + off = (tgt : Int)) (hx : -2147483648 ≤ x ∧ x ≤ 2147483647) (k1 : x = 0 → Ev d M tgt L st σ m r σ' m') (k2 : ¬ (x = 0) → Ev d M (pc + 3) L st σ m r σ' m') : Ev d M pc L (vi x :: st) σ m r σ' m' := by
  have hy : -2147483648 ≤ (0 : Int) ∧ (0 : Int) ≤ 2147483647 := by omega
  exact Ev.two (P := x = 0) (fun hX hb k1 k2 => lv_if_eq hX hb hd ht (fun q => k1 (by first | exact (q_eq hx hy).mp q | exact (q_lt hx hy).mp q | exact (q_le hx hy).mp q | exact (q_lt hy hx).mp q | exact (q_le hy hx).mp q | (rw [q_z, q_eq hx hy] at q; exact q) | (rw [ne_eq, q_z, q_eq hx hy] at q; exact q))) (fun q => k2 (by rw [q_z] at q; first | (rw [q_eq hx hy] at q; exact q) | (rw [q_lt hx hy] at q; exact q) | (rw [q_le hx hy] at q; exact q) | (rw [q_lt hy hx] at q; exact q) | (rw [q_le hy hx] at q; exact q) | (rw [ne_eq, q_eq hx hy] at q; exact q)))) k1 k2
theorem Ev.icmp_lt {x y : Int} {off : Int} {tgt : Nat} (hd : decode M.2.1 pc = .ok (.if_icmp .lt off, 3)) (ht : (pc : Int) + off = (tgt : Int)) (hx : -2147483648 ≤ x ∧ x ≤ 2147483647) (hy : -2147483648 ≤ y ∧ y ≤ 2147483647) (k1 : x < y → Ev d M tgt L st σ m r σ' m') (k2 : ¬ (x < y) → Ev d M (pc + 3) L st σ m r σ' m') : Ev d M pc L (vi y :: vi x :: st) σ m r σ' m' :=
  Ev.two (P := x < y) (fun hX hb k1 k2 => lv_icmp_lt hX hb hd ht (fun q => k1 (by first | exact (q_eq hx hy).mp q | exact (q_lt hx hy).mp q | exact (q_le hx hy).mp q | exact (q_lt hy hx).mp q | exact (q_le hy hx).mp q | (rw [q_eq hx hy] at q; exact q) | (rw [ne_eq, q_eq hx hy] at q; exact q))) (fun q => k2 (by first | (rw [q_eq hx hy] at q; exact q) | (rw [q_lt hx hy] at q; exact q) | (rw [q_le hx hy] at q; exact q) | (rw [q_lt hy hx] at q; exact q) | (rw [q_le hy hx] at q; exact q) | (rw [ne_eq, q_eq hx hy] at q; exact q)))) k1 k2
theorem Ev.if_lt {x : Int} {off : Int} {tgt : Nat} (hd : decode M.2.1 pc = .ok (.ifCond .lt off, 3)) (ht : (pc : Int) + off = (tgt : Int)) (hx : -2147483648 ≤ x ∧ x ≤ 2147483647) (k1 : x < 0 → Ev d M tgt L st σ m r σ' m') (k2 : ¬ (x < 0) → Ev d M (pc + 3) L st σ m r σ' m') : Ev d M pc L (vi x :: st) σ m r σ' m' := by
  have hy : -2147483648 ≤ (0 : Int) ∧ (0 : Int) ≤ 2147483647 := by omega
  exact Ev.two (P := x < 0) (fun hX hb k1 k2 => lv_if_lt hX hb hd ht (fun q => k1 (by first | exact (q_eq hx hy).mp q | exact (q_lt hx hy).mp q | exact (q_le hx hy).mp q | exact (q_lt hy hx).mp q | exact (q_le hy hx).mp q | (rw [q_z, q_eq hx hy] at q; exact q) | (rw [ne_eq, q_z, q_eq hx hy] at q; exact q))) (fun q => k2 (by rw [q_z] at q; first | (rw [q_eq hx hy] at q; exact q) | (rw [q_lt hx hy] at q; exact q) | (rw [q_le hx hy] at q; exact q) | (rw [q_lt hy hx] at q; exact q) | (rw [q_le hy hx] at q; exact q) | (rw [ne_eq, q_eq hx hy] at q; exact q)))) k1 k2
theorem Ev.icmp_ge {x y : Int} {off : Int} {tgt : Nat} (hd : decode M.2.1 pc = .ok (.if_icmp .ge off, 3)) (ht : (pc : Int) + off = (tgt : Int)) (hx : -2147483648 ≤ x ∧ x ≤ 2147483647) (hy : -2147483648 ≤ y ∧ y ≤ 2147483647) (k1 : y ≤ x → Ev d M tgt L st σ m r σ' m') (k2 : ¬ (y ≤ x) → Ev d M (pc + 3) L st σ m r σ' m') : Ev d M pc L (vi y :: vi x :: st) σ m r σ' m' :=
  Ev.two (P := y ≤ x) (fun hX hb k1 k2 => lv_icmp_ge hX hb hd ht (fun q => k1 (by first | exact (q_eq hx hy).mp q | exact (q_lt hx hy).mp q | exact (q_le hx hy).mp q | exact (q_lt hy hx).mp q | exact (q_le hy hx).mp q | (rw [q_eq hx hy] at q; exact q) | (rw [ne_eq, q_eq hx hy] at q; exact q))) (fun q => k2 (by first | (rw [q_eq hx hy] at q; exact q) | (rw [q_lt hx hy] at q; exact q) | (rw [q_le hx hy] at q; exact q) | (rw [q_lt hy hx] at q; exact q) | (rw [q_le hy hx] at q; exact q) | (rw [ne_eq, q_eq hx hy] at q; exact q)))) k1 k2
theorem Ev.if_ge {x : Int} {off : Int} {tgt : Nat} (hd : decode M.2.1 pc = .ok (.ifCond .ge off, 3)) (ht : (pc : Int) + off = (tgt : Int)) (hx : -2147483648 ≤ x ∧ x ≤ 2147483647) (k1 : 0 ≤ x → Ev d M tgt L st σ m r σ' m') (k2 : ¬ (0 ≤ x) → Ev d M (pc + 3) L st σ m r σ' m') : Ev d M pc L (vi x :: st) σ m r σ' m' := by
  have hy : -2147483648 ≤ (0 : Int) ∧ (0 : Int) ≤ 2147483647 := by omega
  exact Ev.two (P := 0 ≤ x) (fun hX hb k1 k2 => lv_if_ge hX hb hd ht (fun q => k1 (by first | exact (q_eq hx hy).mp q | exact (q_lt hx hy).mp q | exact (q_le hx hy).mp q | exact (q_lt hy hx).mp q | exact (q_le hy hx).mp q | (rw [q_z, q_eq hx hy] at q; exact q) | (rw [ne_eq, q_z, q_eq hx hy] at q; exact q))) (fun q => k2 (by rw [q_z] at q; first | (rw [q_eq hx hy] at q; exact q) | (rw [q_lt hx hy] at q; exact q) | (rw [q_le hx hy] at q; exact q) | (rw [q_lt hy hx] at q; exact q) | (rw [q_le hy hx] at q; exact q) | (rw [ne_eq, q_eq hx hy] at q; exact q)))) k1 k2
theorem Ev.icmp_gt {x y : Int} {off : Int} {tgt : Nat} (hd : decode M.2.1 pc = .ok (.if_icmp .gt off, 3)) (ht : (pc : Int) + off = (tgt : Int)) (hx : -2147483648 ≤ x ∧ x ≤ 2147483647) (hy : -2147483648 ≤ y ∧ y ≤ 2147483647) (k1 : y < x → Ev d M tgt L st σ m r σ' m') (k2 : ¬ (y < x) → Ev d M (pc + 3) L st σ m r σ' m') : Ev d M pc L (vi y :: vi x :: st) σ m r σ' m' :=
  Ev.two (P := y < x) (fun hX hb k1 k2 => lv_icmp_gt hX hb hd ht (fun q => k1 (by first | exact (q_eq hx hy).mp q | exact (q_lt hx hy).mp q | exact (q_le hx hy).mp q | exact (q_lt hy hx).mp q | exact (q_le hy hx).mp q | (rw [q_eq hx hy] at q; exact q) | (rw [ne_eq, q_eq hx hy] at q; exact q))) (fun q => k2 (by first | (rw [q_eq hx hy] at q; exact q) | (rw [q_lt hx hy] at q; exact q) | (rw [q_le hx hy] at q; exact q) | (rw [q_lt hy hx] at q; exact q) | (rw [q_le hy hx] at q; exact q) | (rw [ne_eq, q_eq hx hy] at q; exact q)))) k1 k2
theorem Ev.if_gt {x : Int} {off : Int} {tgt : Nat} (hd : decode M.2.1 pc = .ok (.ifCond .gt off, 3)) (ht : (pc : Int) + off = (tgt : Int)) (hx : -2147483648 ≤ x ∧ x ≤ 2147483647) (k1 : 0 < x → Ev d M tgt L st σ m r σ' m') (k2 : ¬ (0 < x) → Ev d M (pc + 3) L st σ m r σ' m') : Ev d M pc L (vi x :: st) σ m r σ' m' := by
  have hy : -2147483648 ≤ (0 : Int) ∧ (0 : Int) ≤ 2147483647 := by omega
  exact Ev.two (P := 0 < x) (fun hX hb k1 k2 => lv_if_gt hX hb hd ht (fun q => k1 (by first | exact (q_eq hx hy).mp q | exact (q_lt hx hy).mp q | exact (q_le hx hy).mp q | exact (q_lt hy hx).mp q | exact (q_le hy hx).mp q | (rw [q_z, q_eq hx hy] at q; exact q) | (rw [ne_eq, q_z, q_eq hx hy] at q; exact q))) (fun q => k2 (by rw [q_z] at q; first | (rw [q_eq hx hy] at q; exact q) | (rw [q_lt hx hy] at q; exact q) | (rw [q_le hx hy] at q; exact q) | (rw [q_lt hy hx] at q; exact q) | (rw [q_le hy hx] at q; exact q) | (rw [ne_eq, q_eq hx hy] at q; exact q)))) k1 k2
theorem Ev.icmp_le {x y : Int} {off : Int} {tgt : Nat} (hd : decode M.2.1 pc = .ok (.if_icmp .le off, 3)) (ht : (pc : Int) + off = (tgt : Int)) (hx : -2147483648 ≤ x ∧ x ≤ 2147483647) (hy : -2147483648 ≤ y ∧ y ≤ 2147483647) (k1 : x ≤ y → Ev d M tgt L st σ m r σ' m') (k2 : ¬ (x ≤ y) → Ev d M (pc + 3) L st σ m r σ' m') : Ev d M pc L (vi y :: vi x :: st) σ m r σ' m' :=
  Ev.two (P := x ≤ y) (fun hX hb k1 k2 => lv_icmp_le hX hb hd ht (fun q => k1 (by first | exact (q_eq hx hy).mp q | exact (q_lt hx hy).mp q | exact (q_le hx hy).mp q | exact (q_lt hy hx).mp q | exact (q_le hy hx).mp q | (rw [q_eq hx hy] at q; exact q) | (rw [ne_eq, q_eq hx hy] at q; exact q))) (fun q => k2 (by first | (rw [q_eq hx hy] at q; exact q) | (rw [q_lt hx hy] at q; exact q) | (rw [q_le hx hy] at q; exact q) | (rw [q_lt hy hx] at q; exact q) | (rw [q_le hy hx] at q; exact q) | (rw [ne_eq, q_eq hx hy] at q; exact q)))) k1 k2
theorem Ev.if_le {x : Int} {off : Int} {tgt : Nat} (hd : decode M.2.1 pc = .ok (.ifCond .le off, 3)) (ht : (pc : Int) + off = (tgt : Int)) (hx : -2147483648 ≤ x ∧ x ≤ 2147483647) (k1 : x ≤ 0 → Ev d M tgt L st σ m r σ' m') (k2 : ¬ (x ≤ 0) → Ev d M (pc + 3) L st σ m r σ' m') : Ev d M pc L (vi x :: st) σ m r σ' m' := by
  have hy : -2147483648 ≤ (0 : Int) ∧ (0 : Int) ≤ 2147483647 := by omega
  exact Ev.two (P := x ≤ 0) (fun hX hb k1 k2 => lv_if_le hX hb hd ht (fun q => k1 (by first | exact (q_eq hx hy).mp q | exact (q_lt hx hy).mp q | exact (q_le hx hy).mp q | exact (q_lt hy hx).mp q | exact (q_le hy hx).mp q | (rw [q_z, q_eq hx hy] at q; exact q) | (rw [ne_eq, q_z, q_eq hx hy] at q; exact q))) (fun q => k2 (by rw [q_z] at q; first | (rw [q_eq hx hy] at q; exact q) | (rw [q_lt hx hy] at q; exact q) | (rw [q_le hx hy] at q; exact q) | (rw [q_lt hy hx] at q; exact q) | (rw [q_le hy hx] at q; exact q) | (rw [ne_eq, q_eq hx hy] at q; exact q)))) k1 k2
theorem Ev.ifnonnull {x : Int} {off : Int} {tgt : Nat} (hd : decode M.2.1 pc = .ok (.ifnonnull off, 3)) (ht : (pc : Int) + off = (tgt : Int)) (k1 : 0 ≤ x → Ev d M tgt L st σ m r σ' m') (k2 : ¬ (0 ≤ x) → Ev d M (pc + 3) L st σ m r σ' m') : Ev d M pc L (vr x :: st) σ m r σ' m' := by
  refine Ev.two (P := 0 ≤ x) (fun {A} {p l e R s mi args below meth c H locs cells slots Q ls} hX hb k1 k2 => ?_) k1 k2
  simp only [List.map_cons, q_cv]
  by_cases h : x < 0
  · rw [if_pos h]; exact lv_ifnonnullN hX hb hd (k2 (by omega))
  · rw [if_neg h]; exact lv_ifnonnull hX hb hd ht (k1 (by omega))
theorem Ev.ifnull {x : Int} {off : Int} {tgt : Nat} (hd : decode M.2.1 pc = .ok (.ifnull off, 3)) (ht : (pc : Int) + off = (tgt : Int)) (k1 : x < 0 → Ev d M tgt L st σ m r σ' m') (k2 : ¬ (x < 0) → Ev d M (pc + 3) L st σ m r σ' m') : Ev d M pc L (vr x :: st) σ m r σ' m' := by
  refine Ev.two (P := x < 0) (fun {A} {p l e R s mi args below meth c H locs cells slots Q ls} hX hb k1 k2 => ?_) k1 k2
  simp only [List.map_cons, q_cv]
  by_cases h : x < 0
  · rw [if_pos h]; exact lv_ifnullN hX hb hd ht (k1 h)
  · rw [if_neg h]; exact lv_ifnull hX hb hd (k2 h)
theorem Ev.tableOut {x : Int} {dflt lo hi : Int} {offs : Array Int} {len tgt : Nat} (hd : decode M.2.1 pc = .ok (.tableswitch dflt lo hi offs, len)) (hx : -2147483648 ≤ x ∧ x ≤ 2147483647) (h : x < lo ∨ hi < x) (ht : (pc : Int) + dflt = (tgt : Int)) (k : Ev d M tgt L st σ m r σ' m') : Ev d M pc L (vi x :: st) σ m r σ' m' :=
  Ev.lift (fun hX hb _ k => lv_tableOut hX hb hd (by rw [q_i32 hx]; exact h) ht k) k
theorem Ev.tableIn {x : Int} {dflt lo hi : Int} {offs : Array Int} {len tgt : Nat} {off : Int} (hd : decode M.2.1 pc = .ok (.tableswitch dflt lo hi offs, len)) (hx : -2147483648 ≤ x ∧ x ≤ 2147483647) (h1 : ¬ x < lo) (h2 : ¬ hi < x) (ho : offs[(x - lo).toNat]? = some off) (ht : (pc : Int) + off = (tgt : Int)) (k : Ev d M tgt L st σ m r σ' m') : Ev d M pc L (vi x :: st) σ m r σ' m' :=
  Ev.lift (fun hX hb _ k => lv_tableIn hX hb hd (by rw [q_i32 hx]; exact h1) (by rw [q_i32 hx]; exact h2) (by rw [q_i32 hx]; exact ho) ht k) k
end
