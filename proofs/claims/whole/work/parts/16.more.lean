section
variable {d : Nat} {M : Md} {pc : Nat} {L : List (Option AV)} {st : List AV} {σ σ' : Sg} {m m' : Mm} {r : Option AV}
theorem q_mthI : Cond.initialized "java/lang/Math" ∈ lw_tbl := by decide +kernel
theorem q_mthA : Cond.static Lib.Math.abs.name ∈ lw_tbl ∧ Cond.code Lib.Math.abs.name Lib.Math.abs.code 1 (some .int) ∈ lw_tbl := by decide +kernel
theorem q_mthM : Cond.static Lib.Math.min.name ∈ lw_tbl ∧ Cond.code Lib.Math.min.name Lib.Math.min.code 2 (some .int) ∈ lw_tbl := by decide +kernel
theorem Ev.memR {pc2 : Nat} {st2 : List AV} (h : ∀ {l : Launch} {s0 : State} {b pf pt : Nat} {D : va_G}, q_G s0 b pf pt D → ∀ {p : Program} {e : Env} {R : Room} {s : State} {mi : MethodId} {args : Array Value} {below : List Frame} {meth : Method} {c : Code}, q_SC s0 M d p R s mi meth c → ∀ {Q : State → Prop} {cells slots : Nat} {H : Heap} {locs : List Loc} {ls : Array Slot}, cells ≤ R.cells → slots ≤ R.slots → q_LR (q_ad s0.heap.size b pf pt) L ls →
    W p l e R s mi args below meth c H locs cells slots Q (F0 mi pc2 ls (st2.map (q_cv (q_ad s0.heap.size b pf pt)))) → W p l e R s mi args below meth c H locs cells slots Q (F0 mi pc ls (st.map (q_cv (q_ad s0.heap.size b pf pt))))) (k : Ev d M pc2 L st2 σ m r σ' m') : Ev d M pc L st σ m r σ' m' := by
  have hk := k.1
  exact ⟨k.1, fun l s0 b pf pt D hG p e R s mi args below meth c n0 k0 hC h1 h2 h3 h4 H locs ls hH hf hl => h hG hC (by omega) (by omega) hl (k.2 l s0 b pf pt D hG p e R s mi args below meth c n0 k0 hC h1 h2 h3 h4 H locs ls hH hf hl)⟩
theorem Ev.mmin {x y : Int} {idx : Nat} {rest : List AV} (hd : decode M.2.1 pc = .ok (.invokestatic idx, 3)) (hl : Cond.methodLink M.1.cls idx Lib.Math.min.name ∈ lw_tbl) (hx : -2147483648 ≤ x ∧ x ≤ 2147483647) (hy : -2147483648 ≤ y ∧ y ≤ 2147483647) (hL : L.length = M.2.2.1) (hcat : (rest.map q_cat).sum ≤ 8) (hdd : 1 ≤ d) (k : Ev d M (pc + 3) L (vi (if y < x then y else x) :: rest) σ m r σ' m') : Ev d M pc L (vi y :: vi x :: rest) σ m r σ' m' := by
  refine Ev.memR (fun {l s0 b pf pt D} hG {p e R s mi args below meth c} hC {Q cells slots H locs ls} hc1 hc2 hl1 kk => ?_) k
  obtain ⟨a0, hts0⟩ := hG.1
  have hW := hC.2.2.2.2.2.2.2.1
  have hd1 := hC.2.2.2.2.2.2.2.2.1
  have hd2 := hC.2.2.2.2.2.2.2.2.2
  have hcs := q_catsum (q_ad s0.heap.size b pf pt) rest hcat
  refine va_mmin hC.1 hC.2.1 (hC.2.2.2.1.trans (hL.symm.trans hl1.1.symm)) hC.2.2.2.2.1 (q_w hts0 hW hl rfl) (q_w hts0 hW q_mthM.1 rfl) (q_w hts0 hW q_mthI rfl) (q_w hts0 hW q_mthM.2 rfl) (by omega) (by omega) hc1 hc2 hd ?_
  have e : (if Int32.ofInt y < Int32.ofInt x then Int32.ofInt y else Int32.ofInt x) = Int32.ofInt (if y < x then y else x) := by
    by_cases h : y < x
    · rw [if_pos h, if_pos ((q_lt hy hx).mpr h)]
    · rw [if_neg h, if_neg (fun q => h ((q_lt hy hx).mp q))]
  rw [e]
  exact kk
theorem Ev.mabs {x : Int} {idx : Nat} {rest : List AV} (hd : decode M.2.1 pc = .ok (.invokestatic idx, 3)) (hl : Cond.methodLink M.1.cls idx Lib.Math.abs.name ∈ lw_tbl) (hx : -2147483648 ≤ x ∧ x ≤ 2147483647) (hL : L.length = M.2.2.1) (hcat : (rest.map q_cat).sum ≤ 8) (hdd : 1 ≤ d) (k : Ev d M (pc + 3) L (vi (if 0 ≤ x then x else -x) :: rest) σ m r σ' m') : Ev d M pc L (vi x :: rest) σ m r σ' m' := by
  refine Ev.memR (fun {l s0 b pf pt D} hG {p e R s mi args below meth c} hC {Q cells slots H locs ls} hc1 hc2 hl1 kk => ?_) k
  obtain ⟨a0, hts0⟩ := hG.1
  have hW := hC.2.2.2.2.2.2.2.1
  have hd1 := hC.2.2.2.2.2.2.2.2.1
  have hd2 := hC.2.2.2.2.2.2.2.2.2
  have hcs := q_catsum (q_ad s0.heap.size b pf pt) rest hcat
  refine va_mabs hC.1 hC.2.1 (hC.2.2.2.1.trans (hL.symm.trans hl1.1.symm)) hC.2.2.2.2.1 (q_w hts0 hW hl rfl) (q_w hts0 hW q_mthA.1 rfl) (q_w hts0 hW q_mthI rfl) (q_w hts0 hW q_mthA.2 rfl) (by omega) (by omega) hc1 hc2 hd ?_
  have e : (if 0 ≤ Int32.ofInt x then Int32.ofInt x else 0 - Int32.ofInt x) = Int32.ofInt (if 0 ≤ x then x else -x) := by
    rw [q_z]
    by_cases h : 0 ≤ x
    · rw [if_pos h, if_pos ((q_le (x := 0) (by omega) hx).mpr h)]
    · rw [if_neg h, if_neg (fun q => h ((q_le (x := 0) (by omega) hx).mp q)), show -x = 0 - x by omega, Int32.ofInt_sub]
  rw [e]
  exact kk
/-- a local that nobody reads any more -/
theorem Ev.forget (i : Nat) (k : Ev d M pc (L.set i none) st σ m r σ' m') : Ev d M pc L st σ m r σ' m' :=
  ⟨k.1, fun l s0 b pf pt D hG p e R s mi args below meth c n0 k0 hC h1 h2 h3 h4 H locs ls hH hf hl => k.2 l s0 b pf pt D hG p e R s mi args below meth c n0 k0 hC h1 h2 h3 h4 H locs ls hH hf ⟨by rw [List.length_set]; exact hl.1, hl.2.1, fun j v hj => by
    by_cases e : i = j
    · subst e
      by_cases hlt : i < L.length
      · rw [List.getElem?_set_self hlt] at hj; cases hj
      · rw [List.getElem?_eq_none (by rw [List.length_set]; omega)] at hj; cases hj
    · rw [List.getElem?_set_ne e] at hj
      exact hl.2.2 j v hj⟩⟩
theorem mu_s {m : Mm} {a i x : Int} : mu m a i x a i = x := if_pos ⟨rfl, rfl⟩
theorem mu_n {m : Mm} {a i x b j : Int} (h : b ≠ a ∨ j ≠ i) : mu m a i x b j = m b j := if_neg (fun q => h.elim (fun z => z q.1) (fun z => z q.2))
end
