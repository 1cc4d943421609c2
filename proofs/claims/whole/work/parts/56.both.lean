/-! both ways of counting, over all right pictures -/
theorem dLoop_add (T1 T2 : Nat → Nat) (b : Nat) : ∀ (n h mix s1 s2 : Nat), dLoop (fun x => T1 x + T2 x) b n h mix (s1 + s2) = dLoop T1 b n h mix s1 + dLoop T2 b n h mix s2
  | 0, _, _, _, _ => rfl
  | n + 1, h, mix, s1, s2 => by
    simp only [dLoop]
    rw [← dLoop_add T1 T2 b n]
    congr 1
    rw [Nat.mul_add]; omega
theorem dLoop_mul (T : Nat → Nat) (c b : Nat) : ∀ (n h mix s : Nat), dLoop (fun x => c * T x) b n h mix (c * s) = c * dLoop T b n h mix s
  | 0, _, _, _ => rfl
  | n + 1, h, mix, s => by
    simp only [dLoop]
    rw [← dLoop_mul T c b n]
    congr 1
    generalize (if 0 < h then mix * (b + h) / h else mix) = mx
    rw [Nat.mul_add, Nat.mul_left_comm c]
theorem dGap_add (f1 f2 : Nat → Nat) : ∀ (q gap left g : Nat), dGap (fun x => f1 x + f2 x) q gap left g = dGap f1 q gap left g + dGap f2 q gap left g
  | 0, gap, left, g => by
    simp only [dGap]
    rw [← dLoop_add _ _ _ _ _ _ 0 0]
    congr 1
    funext h
    split <;> rfl
  | q + 1, gap, left, g => by
    simp only [dGap]
    rw [← dLoop_add _ _ _ _ _ _ 0 0]
    congr 1
    funext h
    split
    · rfl
    · exact dGap_add f1 f2 q _ _ _
theorem dGap_mul (f : Nat → Nat) (c : Nat) : ∀ (q gap left g : Nat), dGap (fun x => c * f x) q gap left g = c * dGap f q gap left g
  | 0, gap, left, g => by
    simp only [dGap]
    rw [← dLoop_mul _ _ _ _ _ _ 0]
    congr 1
    funext h
    split <;> rfl
  | q + 1, gap, left, g => by
    simp only [dGap]
    rw [← dLoop_mul _ _ _ _ _ _ 0]
    congr 1
    funext h
    split
    · rfl
    · exact dGap_mul f c q _ _ _
theorem dN_add (f1 f2 : Nat → Nat) : ∀ (K : KN) (g : Nat), dN (fun x => f1 x + f2 x) K g = dN f1 K g + dN f2 K g
  | [], _ => rfl
  | k :: R, g => by
    simp only [dN]
    rw [← dGap_add]
    congr 1
    funext x
    exact dN_add f1 f2 R x
theorem dN_mul (f : Nat → Nat) (c : Nat) : ∀ (K : KN) (g : Nat), dN (fun x => c * f x) K g = c * dN f K g
  | [], _ => rfl
  | k :: R, g => by
    simp only [dN]
    rw [← dGap_mul]
    congr 1
    funext x
    exact dN_mul f c R x
def ind (f n g : Nat) : Nat := if gtT g f = n then 1 else 0
theorem ind_le (f n : Nat) (K : KN) (g : Nat) : dN (ind f n) K g ≤ dN (fun _ => 1) K g := by
  have h : (fun _ => 1 : Nat → Nat) = (fun x => ind f n x + (1 - ind f n x)) := by
    funext x
    unfold ind
    split <;> rfl
  rw [h, dN_add]
  omega
def pol (B f g : Nat) : Nat → Nat
  | 0 => 0
  | N + 1 => pol B f g N + B ^ N * ind f N g
def polD (B f : Nat) (K : KN) : Nat → Nat
  | 0 => 0
  | N + 1 => polD B f K N + B ^ N * dN (ind f N) K 0
theorem dN_zero (K : KN) (g : Nat) : dN (fun _ => 0) K g = 0 := by
  have := dN_mul (fun _ => 0) 0 K g
  simpa using this
theorem dN_pol (B f : Nat) (K : KN) : ∀ N : Nat, dN (fun g => pol B f g N) K 0 = polD B f K N
  | 0 => by simp only [pol, polD]; exact dN_zero K 0
  | N + 1 => by
    simp only [pol, polD]
    rw [dN_add, dN_pol B f K N, dN_mul]
theorem pol_all (B f g : Nat) : ∀ N : Nat, pol B f g N = if gtT g f < N then B ^ gtT g f else 0
  | 0 => by simp [pol]
  | N + 1 => by
    simp only [pol]
    rw [pol_all B f g N]
    unfold ind
    by_cases h : gtT g f < N
    · rw [if_pos h, if_neg (show ¬ gtT g f = N by omega), if_pos (show gtT g f < N + 1 by omega)]; omega
    · by_cases h2 : gtT g f = N
      · rw [if_neg h, if_pos h2, if_pos (show gtT g f < N + 1 by omega), h2]; omega
      · rw [if_neg h, if_neg h2, if_neg (show ¬ gtT g f < N + 1 by omega)]; omega
theorem polD_dig {B f : Nat} {K : KN} (hB : 0 < B) (h : ∀ n, dN (ind f n) K 0 < B) : ∀ N : Nat, polD B f K N < B ^ N ∧ ∀ n, n < N → polD B f K N / B ^ n % B = dN (ind f n) K 0
  | 0 => ⟨by simp [polD], fun n hn => by omega⟩
  | N + 1 => by
    obtain ⟨h1, h2⟩ := polD_dig hB h N
    have hN := h N
    have hp : 0 < B ^ N := Nat.pow_pos hB
    refine ⟨?_, fun n hn => ?_⟩
    · simp only [polD]
      have : B ^ N * dN (ind f N) K 0 ≤ B ^ N * (B - 1) := Nat.mul_le_mul_left _ (by omega)
      rw [Nat.pow_succ]
      have e : B ^ N * (B - 1) + B ^ N = B ^ N * B := by
        rw [← Nat.mul_succ, show (B - 1).succ = B by omega]
      omega
    · simp only [polD]
      by_cases e : n = N
      · rw [e, Nat.add_mul_div_left _ _ hp, Nat.div_eq_of_lt h1, Nat.zero_add, Nat.mod_eq_of_lt hN]
      · obtain ⟨k, rfl⟩ : ∃ k, N = n + 1 + k := ⟨N - n - 1, by omega⟩
        have e2 : B ^ (n + 1 + k) * dN (ind f (n + 1 + k)) K 0 = B ^ n * (B * (B ^ k * dN (ind f (n + 1 + k)) K 0)) := by
          rw [Nat.pow_add, Nat.pow_add, Nat.pow_one, Nat.mul_assoc, Nat.mul_assoc]
        rw [e2, Nat.add_mul_div_left _ _ (Nat.pow_pos hB), Nat.add_mul_mod_self_left]
        exact h2 n (by omega)
def bigB : Nat := 65536
def vF (f : Nat) (K : KN) : Nat := dN (fun g => bigB ^ gtT g f) K 0
theorem vF_pol (f : Nat) (K : KN) : vF f K = polD bigB f K 256 := by
  unfold vF
  rw [← dN_pol]
  congr 1
  funext g
  rw [pol_all, if_pos gtT_lt]
def chkM (d : Nat) (l : List Int) : Bool :=
  let K := KLn d l
  let a := dN (fun _ => 1) K 0
  decide (K.length ≤ 10) && kok K && decide (tot K ≤ 13) && decide (a < 65536) &&
  (match tmk d 100 l with
   | some T => gtT T (ixT d 100 l 0) == a
   | none => false) &&
  (List.range d).all (fun f => match tmk d f l with
   | some T => let v := vF f K; decide (v < bigB ^ 11) && (List.range 11).all (fun n => gtT T (ixT d f l n) == v / bigB ^ n % bigB)
   | none => false)
