section
variable {σ : Sg} {m : Mm}
/-! all right pictures, in the order of the lists -/
def RL1 : List (List Int) := [[]]
def RL2 : List (List Int) := [[], [0]]
def RL3 : List (List Int) := [[], [12], [4], [4, 12], [0], [0, 13], [0, 12], [0, 12, 12]]
def RL4 : List (List Int) := [[], [20], [16], [16, 20], [12], [12, 21], [12, 20], [12, 20, 20], [8], [8, 20], [8, 16], [8, 16, 20], [8, 12], [8, 12, 21], [8, 12, 20], [8, 12, 20, 20], [4], [4, 21], [4, 20], [4, 20, 20], [4, 16], [4, 16, 21], [4, 16, 20], [4, 16, 20, 20], [4, 12], [4, 12, 22], [4, 12, 21], [4, 12, 20], [4, 12, 20, 21], [4, 12, 20, 20], [4, 12, 20, 20, 20], [0], [0, 20], [0, 17], [0, 17, 20], [0, 16], [0, 16, 20], [0, 16, 16], [0, 16, 16, 20], [0, 13], [0, 13, 22], [0, 13, 21], [0, 13, 20], [0, 13, 20, 21], [0, 13, 20, 20], [0, 13, 20, 20, 20], [0, 12], [0, 12, 21], [0, 12, 20], [0, 12, 20, 20], [0, 12, 16], [0, 12, 16, 21], [0, 12, 16, 20], [0, 12, 16, 20, 20], [0, 12, 12], [0, 12, 12, 22], [0, 12, 12, 21], [0, 12, 12, 20], [0, 12, 12, 20, 21], [0, 12, 12, 20, 20], [0, 12, 12, 20, 20, 20]]
def RL (d : Int) : List (List Int) := if d = 1 then RL1 else if d = 2 then RL2 else if d = 3 then RL3 else RL4
def chk (d : Int) : List (List Int) → Bool
  | [] => false
  | [l] => nxk d 24 l == none
  | l :: l2 :: t => nxk d 24 l == some l2 && chk d (l2 :: t)
theorem dcase {d : Int} {p : Int → Prop} (hd : 1 ≤ d ∧ d ≤ 4) (h1 : p 1) (h2 : p 2) (h3 : p 3) (h4 : p 4) : p d := by
  rcases (show d = 1 ∨ d = 2 ∨ d = 3 ∨ d = 4 by omega) with rfl | rfl | rfl | rfl <;> assumption
theorem RL_chk {d : Int} (hd : 1 ≤ d ∧ d ≤ 4) : chk d (RL d) = true :=
  dcase (p := fun d => chk d (RL d) = true) hd (by decide +kernel) (by decide +kernel) (by decide +kernel) (by decide +kernel)
theorem RL_hd {d : Int} (hd : 1 ≤ d ∧ d ≤ 4) : ∃ t, RL d = [] :: t :=
  dcase (p := fun d => ∃ t, RL d = [] :: t) hd ⟨_, rfl⟩ ⟨_, rfl⟩ ⟨_, rfl⟩ ⟨_, rfl⟩
theorem RL_ok {d : Int} (hd : 1 ≤ d ∧ d ≤ 4) : ∀ l ∈ RL d, PK d l ∧ right d l = true ∧ KIN d l :=
  dcase (p := fun d => ∀ l ∈ RL d, PK d l ∧ right d l = true ∧ KIN d l) hd (by unfold PK KIN KOK; decide +kernel) (by unfold PK KIN KOK; decide +kernel) (by unfold PK KIN KOK; decide +kernel) (by unfold PK KIN KOK; decide +kernel)
def sps : List Int := [0, 1, 2, 3, 4, 5, 6, 7, 8, 9, 10, 11, 12, 13, 14, 15, 16, 17, 18, 19, 20, 21, 22, 23]
theorem sps_mem {x : Int} (h : 0 ≤ x ∧ x < 24) : x ∈ sps := by
  have : ∀ n : Nat, n < 24 → (n : Int) ∈ sps := by decide +kernel
  obtain ⟨n, rfl⟩ := Int.eq_ofNat_of_zero_le h.1
  exact this n (by omega)
def en (d : Int) : Nat → List Int → Int → List (List Int)
  | 0, pre, _ => [pre]
  | q + 1, pre, s => pre :: sps.flatMap (fun x => if s ≤ x ∧ tS x < d ∧ outL (fS x) (pre ++ [x]) ≤ 1 then en d q (pre ++ [x]) x else [])
theorem outL_app (f : Int) : ∀ a b : List Int, outL f (a ++ b) = outL f a + outL f b
  | [], b => by simp [outL]
  | s :: t, b => by simp only [List.cons_append, outL, outL_app f t b]; omega
theorem oc_later {x y : Int} (hx : 0 ≤ x ∧ x < 24) (hy : 0 ≤ y ∧ y < 24) (h : x ≤ y) : 0 ≤ oc (fS x) y := by
  have : ∀ a : Nat, a < 24 → ∀ b : Nat, b < 24 → a ≤ b → 0 ≤ oc (fS a) b := by decide +kernel
  obtain ⟨n, rfl⟩ := Int.eq_ofNat_of_zero_le hx.1
  obtain ⟨k, rfl⟩ := Int.eq_ofNat_of_zero_le hy.1
  exact this n (by omega) k (by omega) (by omega)
theorem outL_later {x : Int} (hx : 0 ≤ x ∧ x < 24) : ∀ t : List Int, (∀ y ∈ t, (0 ≤ y ∧ y < 24) ∧ x ≤ y) → 0 ≤ outL (fS x) t
  | [], _ => by simp [outL]
  | y :: t, h => by
    have a := h y List.mem_cons_self
    have b := oc_later hx a.1 a.2
    have c := outL_later hx t (fun z hz => h z (List.mem_cons_of_mem _ hz))
    simp only [outL]; omega
theorem rgt_at {l : List Int} : ∀ (q : Nat) (f g : Int), rgt l q f = true → f ≤ g → g < f + q → outL g l ≤ 1
  | 0, f, g, _, h1, h2 => by omega
  | q + 1, f, g, h, h1, h2 => by
    simp only [rgt, Bool.and_eq_true, decide_eq_true_eq] at h
    by_cases e : f = g
    · subst e; exact h.1
    · exact rgt_at q (f + 1) g h.2 (by omega) (by omega)
theorem ft_lt {x : Int} (hx : 0 ≤ x ∧ x < 24) : fS x < tS x := by
  have : ∀ a : Nat, a < 24 → fS a < tS a := by decide +kernel
  obtain ⟨n, rfl⟩ := Int.eq_ofNat_of_zero_le hx.1
  exact this n (by omega)
theorem en_all {d : Int} (hd : 1 ≤ d ∧ d ≤ 4) : ∀ (q : Nat) (suf pre : List Int) (s : Int), suf.length ≤ q → (pre ++ suf).Pairwise (· ≤ ·) → (∀ x ∈ suf, s ≤ x ∧ 0 ≤ x ∧ x < 24 ∧ tS x < d) → right d (pre ++ suf) = true → pre ++ suf ∈ en d q pre s
  | 0, [], pre, s, _, _, _, _ => by simp [en]
  | 0, x :: t, pre, s, h, _, _, _ => by simp at h
  | q + 1, [], pre, s, _, _, _, _ => by simp [en]
  | q + 1, x :: t, pre, s, h, hs, hx, hr => by
    have a := hx x List.mem_cons_self
    have hf := fS_b x
    have hft := ft_lt (x := x) (by omega)
    have hsx := (List.pairwise_append.mp hs).2.1
    have o1 := rgt_at _ 0 (fS x) hr (by omega) (by omega)
    have o2 := outL_later (x := x) (by omega) t (fun y hy => ⟨by have := hx y (List.mem_cons_of_mem _ hy); omega, List.rel_of_pairwise_cons hsx hy⟩)
    have e1 : pre ++ x :: t = (pre ++ [x]) ++ t := by simp
    rw [e1, outL_app] at o1
    rw [e1] at hs hr ⊢
    refine List.mem_cons_of_mem _ (List.mem_flatMap.mpr ⟨x, sps_mem (by omega), ?_⟩)
    rw [if_pos ⟨a.1, a.2.2.2, by omega⟩]
    exact en_all hd q t (pre ++ [x]) x (by simpa using h) hs (fun y hy => ⟨List.rel_of_pairwise_cons hsx hy, (hx y (List.mem_cons_of_mem _ hy)).2⟩) hr
theorem en_RL {d : Int} (hd : 1 ≤ d ∧ d ≤ 4) : ∀ l ∈ en d 6 [] 0, l ∈ RL d :=
  dcase (p := fun d => ∀ l ∈ en d 6 [] 0, l ∈ RL d) hd (by decide +kernel) (by decide +kernel) (by decide +kernel) (by decide +kernel)
theorem RL_all {d : Int} {l : List Int} (hK : PK d l) (hr : right d l = true) : l ∈ RL d :=
  en_RL hK.1 l (en_all hK.1 6 l [] 0 hK.2.1 hK.2.2.1 (fun x hx => ⟨(hK.2.2.2 x hx).1, hK.2.2.2 x hx⟩) hr)
theorem RKI_ok : RKI := fun _ l hK hr => (RL_ok hK.1 l (RL_all hK hr)).2.2
end
