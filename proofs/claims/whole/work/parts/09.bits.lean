section
theorem q_pow (k : Nat) : ((2 ^ k : Nat) : Int) = (2 : Int) ^ k := by simp
theorem q_bmask (w k : Nat) (hk : k < w) (x : Int) : BitVec.ofInt w x &&& BitVec.ofInt w (2 ^ k - 1) = BitVec.ofInt w (x % 2 ^ k) := by
  apply BitVec.eq_of_toNat_eq
  have hkw : 2 ^ k < 2 ^ w := Nat.pow_lt_pow_right (by decide) hk
  have hp : 0 < 2 ^ k := Nat.two_pow_pos k
  have e1 : ((2 : Int) ^ k - 1) % ((2 ^ w : Nat) : Int) = ((2 ^ k - 1 : Nat) : Int) := by
    rw [← q_pow, show (((2 ^ k : Nat) : Int) - 1) = ((2 ^ k - 1 : Nat) : Int) by omega]
    exact Int.emod_eq_of_lt (by omega) (by omega)
  rw [BitVec.toNat_and, BitVec.toNat_ofInt, BitVec.toNat_ofInt, BitVec.toNat_ofInt, e1, Int.toNat_natCast, Nat.and_two_pow_sub_one_eq_mod]
  have e2 : (x % ((2 ^ w : Nat) : Int)) % ((2 ^ k : Nat) : Int) = x % ((2 ^ k : Nat) : Int) := Int.emod_emod_of_dvd x (by exact_mod_cast Nat.pow_dvd_pow 2 (Nat.le_of_lt hk))
  have h0 : 0 ≤ x % ((2 ^ w : Nat) : Int) := Int.emod_nonneg _ (by omega)
  have h1 : 0 ≤ x % ((2 ^ k : Nat) : Int) := Int.emod_nonneg _ (by omega)
  have h2 : x % ((2 ^ k : Nat) : Int) < ((2 ^ k : Nat) : Int) := Int.emod_lt_of_pos _ (by omega)
  rw [← q_pow, Int.emod_eq_of_lt (a := x % ((2 ^ k : Nat) : Int)) h1 (by omega), ← e2]
  rw [Int.toNat_emod h0 (by omega), Int.toNat_natCast]
theorem q_bshl (w k : Nat) (x : Int) : BitVec.ofInt w x <<< k = BitVec.ofInt w (x * 2 ^ k) := by
  apply BitVec.eq_of_toNat_eq
  rw [BitVec.toNat_shiftLeft, BitVec.toNat_ofInt, BitVec.toNat_ofInt, Nat.shiftLeft_eq]
  have h0 : 0 ≤ x % ((2 ^ w : Nat) : Int) := Int.emod_nonneg _ (by have := Nat.two_pow_pos w; omega)
  have h1 : 0 ≤ (x * 2 ^ k) % ((2 ^ w : Nat) : Int) := Int.emod_nonneg _ (by have := Nat.two_pow_pos w; omega)
  apply Int.ofNat.inj
  show (((x % ((2 ^ w : Nat) : Int)).toNat * 2 ^ k % 2 ^ w : Nat) : Int) = (((x * 2 ^ k) % ((2 ^ w : Nat) : Int)).toNat : Int)
  rw [Int.toNat_of_nonneg h1, Int.natCast_emod, Int.natCast_mul, Int.toNat_of_nonneg h0, q_pow k, Int.mul_emod, Int.emod_emod_of_dvd _ (Int.dvd_refl _), ← Int.mul_emod]
theorem q_bor (w k : Nat) (hk : k < w) (u y : Int) (hy : 0 ≤ y ∧ y < 2 ^ k) : BitVec.ofInt w (u * 2 ^ k) ||| BitVec.ofInt w y = BitVec.ofInt w (u * 2 ^ k + y) := by
  apply BitVec.eq_of_toNat_eq
  have hp : 0 < 2 ^ k := Nat.two_pow_pos k
  have hpw : 0 < 2 ^ w := Nat.two_pow_pos w
  have hkw : 2 ^ k < 2 ^ w := Nat.pow_lt_pow_right (by decide) hk
  have hy2 : y < ((2 ^ k : Nat) : Int) := by rw [q_pow]; exact hy.2
  rw [BitVec.toNat_or, BitVec.toNat_ofInt, BitVec.toNat_ofInt, BitVec.toNat_ofInt]
  have ew : ((2 ^ w : Nat) : Int) = ((2 ^ (w - k) : Nat) : Int) * ((2 ^ k : Nat) : Int) := by
    rw [← Int.natCast_mul, ← Nat.pow_add, show w - k + k = w by omega]
  have e1 : (u * 2 ^ k) % ((2 ^ w : Nat) : Int) = (u % ((2 ^ (w - k) : Nat) : Int)) * ((2 ^ k : Nat) : Int) := by
    rw [ew, ← q_pow, Int.mul_comm u, Int.mul_comm ((2 ^ (w - k) : Nat) : Int), Int.mul_emod_mul_of_pos _ _ (by omega), Int.mul_comm]
  have hq0 : 0 ≤ u % ((2 ^ (w - k) : Nat) : Int) := Int.emod_nonneg _ (by have := Nat.two_pow_pos (w - k); omega)
  have hq1 : u % ((2 ^ (w - k) : Nat) : Int) < ((2 ^ (w - k) : Nat) : Int) := Int.emod_lt_of_pos _ (by have := Nat.two_pow_pos (w - k); omega)
  obtain ⟨q, hq⟩ := Int.eq_ofNat_of_zero_le hq0
  obtain ⟨z, hz⟩ := Int.eq_ofNat_of_zero_le hy.1
  have hqn : q < 2 ^ (w - k) := by omega
  have hzn : z < 2 ^ k := by omega
  have hsum : q * 2 ^ k + z < 2 ^ w := by
    have h1 : (q + 1) * 2 ^ k ≤ 2 ^ (w - k) * 2 ^ k := Nat.mul_le_mul_right _ hqn
    rw [← Nat.pow_add, show w - k + k = w by omega, Nat.add_mul] at h1
    omega
  have e3 : (u * 2 ^ k + y) % ((2 ^ w : Nat) : Int) = ((q * 2 ^ k + z : Nat) : Int) := by
    rw [← Int.emod_add_emod, e1, hq, hz]
    show ((q : Int) * ((2 ^ k : Nat) : Int) + (z : Int)) % _ = _
    rw [← Int.natCast_mul, ← Int.natCast_add]
    exact Int.emod_eq_of_lt (by omega) (by omega)
  have e2 : y % ((2 ^ w : Nat) : Int) = (z : Int) := by
    rw [hz]
    exact Int.emod_eq_of_lt (by omega) (by show (z : Int) < _; omega)
  rw [e3, e2, e1, hq]
  show (((q : Int) * ((2 ^ k : Nat) : Int)).toNat ||| (z : Int).toNat) = _
  rw [← Int.natCast_mul, Int.toNat_natCast, Int.toNat_natCast, Int.toNat_natCast, Nat.mul_comm q, ← Nat.two_pow_add_eq_or_of_lt hzn]
theorem q_band (w : Nat) (x y : Int) (hx : 0 ≤ x) (hy : 0 ≤ y) : BitVec.ofInt w x &&& BitVec.ofInt w y = BitVec.ofInt w ((x.toNat &&& y.toNat : Nat) : Int) := by
  obtain ⟨a, ha⟩ := Int.eq_ofNat_of_zero_le hx
  obtain ⟨b, hb⟩ := Int.eq_ofNat_of_zero_le hy
  subst ha; subst hb
  show BitVec.ofInt w (a : Int) &&& BitVec.ofInt w (b : Int) = BitVec.ofInt w ((a &&& b : Nat) : Int)
  rw [BitVec.ofInt_natCast, BitVec.ofInt_natCast, BitVec.ofInt_natCast]
  apply BitVec.eq_of_getLsbD_eq
  intro i hi
  simp [hi]
theorem q_bor2 (w : Nat) (x y : Int) (hx : 0 ≤ x) (hy : 0 ≤ y) : BitVec.ofInt w x ||| BitVec.ofInt w y = BitVec.ofInt w ((x.toNat ||| y.toNat : Nat) : Int) := by
  obtain ⟨a, ha⟩ := Int.eq_ofNat_of_zero_le hx
  obtain ⟨b, hb⟩ := Int.eq_ofNat_of_zero_le hy
  subst ha; subst hb
  show BitVec.ofInt w (a : Int) ||| BitVec.ofInt w (b : Int) = BitVec.ofInt w ((a ||| b : Nat) : Int)
  rw [BitVec.ofInt_natCast, BitVec.ofInt_natCast, BitVec.ofInt_natCast]
  apply BitVec.eq_of_getLsbD_eq
  intro i hi
  simp [hi]
theorem q_s31 : ∀ k : Nat, k < 32 → ((Int32.ofInt (k : Int) &&& 31).toBitVec.smod 32).toNat = k := by decide +kernel
theorem q_s63 : ∀ k : Nat, k < 64 → (((Int32.ofInt (k : Int)).toInt64 &&& 63).toBitVec.smod 64).toNat = k := by decide +kernel
variable {d : Nat} {M : Md} {pc : Nat} {L : List (Option AV)} {st : List AV} {σ σ' : Sg} {m m' : Mm} {r : Option AV}
theorem Ev.ishl {x n : Int} (hd : decode M.2.1 pc = .ok (.ishl, 1)) (hn : 0 ≤ n ∧ n < 32) (k : Ev d M (pc + 1) L (vi (x * 2 ^ n.toNat) :: st) σ m r σ' m') : Ev d M pc L (vi n :: vi x :: st) σ m r σ' m' :=
  Ev.lift (fun hX hb _ k => lv_ishl hX hb hd (by
    have e : Int32.ofInt x <<< (Int32.ofInt n &&& 31) = Int32.ofInt (x * 2 ^ n.toNat) := by
      have h := q_s31 n.toNat (by omega)
      rw [show ((n.toNat : Nat) : Int) = n by omega] at h
      apply Int32.toBitVec_inj.mp
      show (Int32.ofInt x).toBitVec <<< ((Int32.ofInt n &&& 31).toBitVec.smod 32).toNat = _
      rw [h]
      exact q_bshl 32 n.toNat x
    rw [e]; exact k)) k
theorem Ev.ishr {x n : Int} (hd : decode M.2.1 pc = .ok (.ishr, 1)) (hn : 0 ≤ n ∧ n < 32) (hx : -2147483648 ≤ x ∧ x ≤ 2147483647) (k : Ev d M (pc + 1) L (vi (x / 2 ^ n.toNat) :: st) σ m r σ' m') : Ev d M pc L (vi n :: vi x :: st) σ m r σ' m' :=
  Ev.lift (fun hX hb _ k => lv_ishr hX hb hd (by
    have e : Int32.ofInt x >>> (Int32.ofInt n &&& 31) = Int32.ofInt (x / 2 ^ n.toNat) := by
      have h := q_s31 n.toNat (by omega)
      rw [show ((n.toNat : Nat) : Int) = n by omega] at h
      rw [← Int32.ofInt_toInt (Int32.ofInt x >>> (Int32.ofInt n &&& 31)), pk_shr _ _ n.toNat h, q_i32 hx, Int.shiftRight_eq_div_pow, q_pow]
    rw [e]; exact k)) k
theorem Ev.lshl {x n : Int} (hd : decode M.2.1 pc = .ok (.lshl, 1)) (hn : 0 ≤ n ∧ n < 64) (k : Ev d M (pc + 1) L (vl (x * 2 ^ n.toNat) :: st) σ m r σ' m') : Ev d M pc L (vi n :: vl x :: st) σ m r σ' m' :=
  Ev.lift (fun hX hb _ k => lv_lshl hX hb hd (by
      have h := q_s63 n.toNat (by omega)
      rw [show ((n.toNat : Nat) : Int) = n by omega] at h
      apply Int64.toBitVec_inj.mp
      show (Int64.ofInt x).toBitVec <<< (((Int32.ofInt n).toInt64 &&& 63).toBitVec.smod 64).toNat = _
      rw [h]
      exact q_bshl 64 n.toNat x) k) k
theorem Ev.lshr {x n : Int} (hd : decode M.2.1 pc = .ok (.lshr, 1)) (hn : 0 ≤ n ∧ n < 64) (hx : -9223372036854775808 ≤ x ∧ x ≤ 9223372036854775807) (k : Ev d M (pc + 1) L (vl (x / 2 ^ n.toNat) :: st) σ m r σ' m') : Ev d M pc L (vi n :: vl x :: st) σ m r σ' m' :=
  Ev.lift (fun hX hb _ k => lv_lshr hX hb hd (by
      have h := q_s63 n.toNat (by omega)
      rw [show ((n.toNat : Nat) : Int) = n by omega] at h
      have e : (Int64.ofInt x >>> ((Int32.ofInt n).toInt64 &&& 63)).toInt = (Int64.ofInt x).toInt >>> n.toNat := by
        show ((Int64.ofInt x).toBitVec.sshiftRight (((Int32.ofInt n).toInt64 &&& 63).toBitVec.smod 64).toNat).toInt = _
        rw [h, BitVec.toInt_sshiftRight]
        rfl
      rw [← Int64.ofInt_toInt (Int64.ofInt x >>> ((Int32.ofInt n).toInt64 &&& 63)), e, q_i64 hx, Int.shiftRight_eq_div_pow, q_pow]) k) k
theorem Ev.iandm {x y : Int} (j : Nat) (hd : decode M.2.1 pc = .ok (.iand, 1)) (hj : j < 32) (hy : y = 2 ^ j - 1) (k : Ev d M (pc + 1) L (vi (x % 2 ^ j) :: st) σ m r σ' m') : Ev d M pc L (vi y :: vi x :: st) σ m r σ' m' :=
  Ev.lift (fun hX hb _ k => lv_iand hX hb hd (by
    have e : Int32.ofInt x &&& Int32.ofInt y = Int32.ofInt (x % 2 ^ j) := Int32.toBitVec_inj.mp (by rw [hy]; exact q_bmask 32 j hj x)
    rw [e]; exact k)) k
theorem Ev.landm {x y : Int} (j : Nat) (hd : decode M.2.1 pc = .ok (.land, 1)) (hj : j < 64) (hy : y = 2 ^ j - 1) (k : Ev d M (pc + 1) L (vl (x % 2 ^ j) :: st) σ m r σ' m') : Ev d M pc L (vl y :: vl x :: st) σ m r σ' m' :=
  Ev.lift (fun hX hb _ k => lv_land hX hb hd (by
    have e : Int64.ofInt x &&& Int64.ofInt y = Int64.ofInt (x % 2 ^ j) := Int64.toBitVec_inj.mp (by rw [hy]; exact q_bmask 64 j hj x)
    rw [e]; exact k)) k
theorem Ev.iand {x y : Int} (hd : decode M.2.1 pc = .ok (.iand, 1)) (hx : 0 ≤ x) (hy : 0 ≤ y) (k : Ev d M (pc + 1) L (vi ((x.toNat &&& y.toNat : Nat) : Int) :: st) σ m r σ' m') : Ev d M pc L (vi y :: vi x :: st) σ m r σ' m' :=
  Ev.lift (fun hX hb _ k => lv_iand hX hb hd (by
    have e : Int32.ofInt x &&& Int32.ofInt y = Int32.ofInt ((x.toNat &&& y.toNat : Nat) : Int) := Int32.toBitVec_inj.mp (q_band 32 x y hx hy)
    rw [e]; exact k)) k
theorem Ev.ior {x y : Int} (hd : decode M.2.1 pc = .ok (.ior, 1)) (hx : 0 ≤ x) (hy : 0 ≤ y) (k : Ev d M (pc + 1) L (vi ((x.toNat ||| y.toNat : Nat) : Int) :: st) σ m r σ' m') : Ev d M pc L (vi y :: vi x :: st) σ m r σ' m' :=
  Ev.lift (fun hX hb _ k => lv_ior hX hb hd (by
    have e : Int32.ofInt x ||| Int32.ofInt y = Int32.ofInt ((x.toNat ||| y.toNat : Nat) : Int) := Int32.toBitVec_inj.mp (q_bor2 32 x y hx hy)
    rw [e]; exact k)) k
theorem Ev.lors {u y : Int} (j : Nat) (hd : decode M.2.1 pc = .ok (.lor, 1)) (hj : j < 64) (hy : 0 ≤ y ∧ y < 2 ^ j) (k : Ev d M (pc + 1) L (vl (u * 2 ^ j + y) :: st) σ m r σ' m') : Ev d M pc L (vl y :: vl (u * 2 ^ j) :: st) σ m r σ' m' :=
  Ev.lift (fun hX hb _ k => lv_lor hX hb hd (by
    have e : Int64.ofInt (u * 2 ^ j) ||| Int64.ofInt y = Int64.ofInt (u * 2 ^ j + y) := Int64.toBitVec_inj.mp (q_bor 64 j hj u y hy)
    rw [e]; exact k)) k
def lcm (x y : Int) : Int := if y < x then 1 else if x = y then 0 else -1
theorem Ev.lcmp {x y : Int} (hd : decode M.2.1 pc = .ok (.lcmp, 1)) (hx : -9223372036854775808 ≤ x ∧ x ≤ 9223372036854775807) (hy : -9223372036854775808 ≤ y ∧ y ≤ 9223372036854775807) (k : Ev d M (pc + 1) L (vi (lcm x y) :: st) σ m r σ' m') : Ev d M pc L (vl y :: vl x :: st) σ m r σ' m' :=
  Ev.lift (fun hX hb _ k => W.lcmp hX hb hd (by
    have e : lg_cmp (Int64.ofInt x) (Int64.ofInt y) = Int32.ofInt (lcm x y) := by
      unfold lg_cmp lcm
      simp only [gt_iff_lt, Int64.lt_iff_toInt_lt, ← Int64.toInt_inj, q_i64 hx, q_i64 hy]
      split
      · rfl
      split
      · rfl
      · rfl
    rw [e]; exact k)) k
end
