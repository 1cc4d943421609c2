theorem chkM_1 : RL1.all (chkM 1) = true := by decide +kernel
theorem chkM_2 : RL2.all (chkM 2) = true := by decide +kernel
theorem chkM_3 : RL3.all (chkM 3) = true := by decide +kernel
theorem chkM_4 : RL4.all (chkM 4) = true := by decide +kernel
theorem chkM_ok {d : Int} (hd : 1 ≤ d ∧ d ≤ 4) {l : List Int} (hl : l ∈ RL d) : chkM d.toNat l = true :=
  List.all_eq_true.mp (dcase (p := fun d => (RL d).all (chkM d.toNat) = true) hd chkM_1 chkM_2 chkM_3 chkM_4) l hl
