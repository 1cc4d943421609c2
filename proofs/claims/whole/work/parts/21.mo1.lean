section
variable {σ : Sg} {m : Mm}
theorem c_Mo_in {v lo hi : Int} (h1 : -9223372036854775808 ≤ v ∧ v ≤ 9223372036854775807) (h2 : -9223372036854775808 ≤ lo ∧ lo ≤ 9223372036854775807) (h3 : -9223372036854775808 ≤ hi ∧ hi ≤ 9223372036854775807) : Call 1 m_Mo_in [vl v, vl lo, vl hi] σ m (some (vi (b01 (lo ≤ v ∧ v ≤ hi)))) σ m := by
  show Ev 1 m_Mo_in 0 [some (vl v), none, some (vl lo), none, some (vl hi), none] [] σ m _ σ m
  refine Ev.lload_n d_Mo_in_0 rfl ?_
  refine Ev.lload_n d_Mo_in_1 rfl ?_
  refine Ev.lcmp d_Mo_in_2 (by omega) (by omega) ?_
  refine Ev.if_lt (tgt := 17) d_Mo_in_3 rfl lcm_b (fun hb3 => ?_) (fun hb3 => ?_)
  · rw [lcm_lt] at hb3
    refine Ev.iconst d_Mo_in_17 ?_
    exact Ev.to (Ev.zreturn d_Mo_in_18 rfl (by first | omega | exact b01_01)) (by first | exact r1 (by omega) | exact r0 (by omega)) rfl
  · rw [lcm_lt] at hb3
    refine Ev.lload_n d_Mo_in_6 rfl ?_
    refine Ev.lload d_Mo_in_7 rfl ?_
    refine Ev.lcmp d_Mo_in_9 (by omega) (by omega) ?_
    refine Ev.if_gt (tgt := 17) d_Mo_in_10 rfl lcm_b (fun hb10 => ?_) (fun hb10 => ?_)
    · rw [lcm_gt] at hb10
      refine Ev.iconst d_Mo_in_17 ?_
      exact Ev.to (Ev.zreturn d_Mo_in_18 rfl (by first | omega | exact b01_01)) (by first | exact r1 (by omega) | exact r0 (by omega)) rfl
    · rw [lcm_gt] at hb10
      refine Ev.iconst d_Mo_in_13 ?_
      refine Ev.goto (tgt := 18) d_Mo_in_14 rfl ?_
      exact Ev.to (Ev.zreturn d_Mo_in_18 rfl (by first | omega | exact b01_01)) (by first | exact r1 (by omega) | exact r0 (by omega)) rfl
theorem c_Mo_is (hM : MoS σ) {p : Int} (hp : -2147483648 ≤ p ∧ p ≤ 2147483647) (h0 : 0 ≤ m 57 0 ∧ m 57 0 ≤ 8) : Call 2 m_Mo_is [vr 57, vi p] σ m (some (vi (b01 (0 ≤ p ∧ p ≤ m 57 0 - 1)))) σ m := by
  show Ev 2 m_Mo_is 0 [some (vr 57), some (vi p)] [] σ m _ σ m
  refine Ev.iload_n d_Mo_is_0 rfl ?_
  refine Ev.i2l d_Mo_is_1 (by omega) ?_
  refine Ev.lconst (x := 0) d_Mo_is_2 rfl ?_
  refine Ev.aload_n d_Mo_is_3 rfl ?_
  refine Ev.gf 0 d_Mo_is_4 lf_Mo_103 rfl rfl (is_57 hM) (by decide) ?_
  refine Ev.iconst d_Mo_is_7 ?_
  refine Ev.isub d_Mo_is_8 ?_
  refine Ev.i2l d_Mo_is_9 (by omega) ?_
  refine Ev.callS d_Mo_is_10 mt_Mo_in lk_Mo_107 st_Mo_in rfl (Nat.le_of_ble_eq_true rfl) rfl (Nat.le_of_ble_eq_true rfl) (by decide) rfl (c_Mo_in (by omega) (by omega) (by omega)) ?_
  exact Ev.to (Ev.zreturn d_Mo_is_13 rfl (by first | omega | exact b01_01)) rfl rfl
end
