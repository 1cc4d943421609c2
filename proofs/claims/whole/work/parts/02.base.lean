/-! the judgement Ev over a flat picture of the heap: cells numbered as they come, ints as Int -/
abbrev AV : Type := Int ⊕ Int ⊕ Int
abbrev vi (x : Int) : AV := .inl x
abbrev vl (x : Int) : AV := .inr (.inl x)
abbrev vr (x : Int) : AV := .inr (.inr x)
abbrev Mm : Type := Int → Int → Int
abbrev Sg : Type := Int × Int × (Int → Nat) × (Int → Int) × (Int → Int → Int)
abbrev Md : Type := MethodName × ByteArray × Nat × Option FieldType
def q_f0 : List (String × String × String × Bool) := [("FloorCurves$Catalogue", "ofDegree", "I", true), ("FloorCurves$Catalogue", "draft", "LFloorCurves$Picture;", true), ("FloorCurves$Catalogue", "marker", "LFloorCurves$Marker;", true), ("FloorCurves$Catalogue", "powers", "LFloorCurves$Powers;", true), ("FloorCurves$Catalogue", "rows", "[J", true), ("FloorCurves$Catalogue", "knotsOfRow", "[I", true), ("FloorCurves$Catalogue", "amount", "[I", true), ("FloorCurves$Catalogue", "byMult", "[J", true), ("FloorCurves$Catalogue", "bySign", "[J", true), ("FloorCurves$Catalogue", "byPower", "[J", true), ("FloorCurves$Catalogue", "size", "I", false)]
def q_T0 : u_T := fun k => q_f0.getD k ("", "", "", false)
def q_f1 : List (String × String × String × Bool) := [("FloorCurves$Marker", "firstGap", "[I", true), ("FloorCurves$Marker", "lastGap", "[I", true), ("FloorCurves$Marker", "amount", "[I", true), ("FloorCurves$Marker", "inGap", "[I", true), ("FloorCurves$Marker", "kinds", "I", false), ("FloorCurves$Marker", "watched", "I", false), ("FloorCurves$Marker", "wanted", "I", false)]
def q_T1 : u_T := fun k => q_f1.getD k ("", "", "", false)
def q_f2 : List (String × String × String × Bool) := [("FloorCurves$Picture", "floors", "I", false), ("FloorCurves$Picture", "stairs", "I", false), ("FloorCurves$Picture", "amounts", "[I", true), ("FloorCurves$Picture", "outs", "[I", true)]
def q_T2 : u_T := fun k => q_f2.getD k ("", "", "", false)
def q_f3 : List (String × String × String × Bool) := [("FloorCurves$Powers", "row", "[J", true), ("FloorCurves$Powers", "product", "[J", true), ("FloorCurves$Powers", "reach", "I", false)]
def q_T3 : u_T := fun k => q_f3.getD k ("", "", "", false)
def q_f4 : List (String × String × String × Bool) := [("FloorCurves$Sheet", "cells", "[I", true), ("FloorCurves$Sheet", "lane", "I", false), ("FloorCurves$Sheet", "length", "I", false)]
def q_T4 : u_T := fun k => q_f4.getD k ("", "", "", false)
def q_f5 : List (String × String × String × Bool) := [("FloorCurves$Tangents", "rows", "[I", true), ("FloorCurves$Tangents", "values", "[J", true), ("FloorCurves$Tangents", "firstRow", "[I", true), ("FloorCurves$Tangents", "size", "I", false), ("FloorCurves$Tangents", "known", "I", false)]
def q_T5 : u_T := fun k => q_f5.getD k ("", "", "", false)
def q_f6 : List (String × String × String × Bool) := [("FloorCurves$Tape", "bytes", "[B", true), ("FloorCurves$Tape", "length", "I", false), ("FloorCurves$Tape", "toldRows", "I", false), ("FloorCurves$Tape", "latestFault", "I", false)]
def q_T6 : u_T := fun k => q_f6.getD k ("", "", "", false)
def q_f7 : List (String × String × String × Bool) := [("FloorCurves", "pictures", "[LFloorCurves$Picture;", true), ("FloorCurves", "draft", "LFloorCurves$Picture;", true), ("FloorCurves", "marker", "LFloorCurves$Marker;", true), ("FloorCurves", "powers", "LFloorCurves$Powers;", true), ("FloorCurves", "catalogues", "[LFloorCurves$Catalogue;", true), ("FloorCurves", "tape", "LFloorCurves$Tape;", true), ("FloorCurves", "tangents", "LFloorCurves$Tangents;", true), ("FloorCurves", "rationals", "[J", true), ("FloorCurves", "sheets", "[LFloorCurves$Sheet;", true), ("FloorCurves", "pictureCount", "I", false)]
def q_T7 : u_T := fun k => q_f7.getD k ("", "", "", false)
def q_f8 : List (String × String × String × Bool) := [("FloorCurvesModel", "pictures", "I", false), ("FloorCurvesModel", "degrees", "[I", true), ("FloorCurvesModel", "stairMany", "[I", true), ("FloorCurvesModel", "froms", "[I", true), ("FloorCurvesModel", "tos", "[I", true), ("FloorCurvesModel", "weights", "[I", true), ("FloorCurvesModel", "powers", "[J", true), ("FloorCurvesModel", "product", "[J", true), ("FloorCurvesModel", "kinds", "I", false), ("FloorCurvesModel", "kindFrom", "[I", true), ("FloorCurvesModel", "kindTo", "[I", true), ("FloorCurvesModel", "kindMany", "[I", true), ("FloorCurvesModel", "kindStep", "[I", true), ("FloorCurvesModel", "codes", "I", false), ("FloorCurvesModel", "ways", "[J", true), ("FloorCurvesModel", "row", "[I", true), ("FloorCurvesModel", "isFound", "[Z", true), ("FloorCurvesModel", "counts", "[J", true), ("FloorCurvesModel", "signeds", "[J", true), ("FloorCurvesModel", "lists", "[I", true), ("FloorCurvesModel", "spreads", "[J", true), ("FloorCurvesModel", "tape", "[I", true), ("FloorCurvesModel", "taped", "I", false), ("FloorCurvesModel", "fault", "I", false), ("FloorCurvesModel", "isTold", "Z", false), ("FloorCurvesModel", "toldRow", "[I", true), ("FloorCurvesModel", "newRow", "[I", true), ("FloorCurvesModel", "rows", "I", false), ("FloorCurvesModel", "rowSum", "[I", true), ("FloorCurvesModel", "rowB", "[I", true), ("FloorCurvesModel", "rowCells", "[I", true), ("FloorCurvesModel", "worths", "[J", true), ("FloorCurvesModel", "isLaid", "Z", false), ("FloorCurvesModel", "at", "I", false), ("FloorCurvesModel", "tryRow", "[I", true), ("FloorCurvesModel", "found", "[J", true), ("FloorCurvesModel", "lanes", "[I", true), ("FloorCurvesModel", "lengths", "[I", true), ("FloorCurvesModel", "cells", "[I", true)]
def q_T8 : u_T := fun k => q_f8.getD k ("", "", "", false)
def q_cls : List vw_C := [("FloorCurves$Catalogue", q_T0, 11), ("FloorCurves$Marker", q_T1, 7), ("FloorCurves$Picture", q_T2, 4), ("FloorCurves$Powers", q_T3, 3), ("FloorCurves$Sheet", q_T4, 3), ("FloorCurves$Tangents", q_T5, 5), ("FloorCurves$Tape", q_T6, 4), ("FloorCurves", q_T7, 10), ("FloorCurvesModel", q_T8, 39)]
def q_y0 : Nat → FieldType := fun k => ([.int, .object "FloorCurves$Picture", .object "FloorCurves$Marker", .object "FloorCurves$Powers", .array (.long), .array (.int), .array (.int), .array (.long), .array (.long), .array (.long), .int] : List FieldType).getD k .int
def q_y1 : Nat → FieldType := fun k => ([.array (.int), .array (.int), .array (.int), .array (.int), .int, .int, .int] : List FieldType).getD k .int
def q_y2 : Nat → FieldType := fun k => ([.int, .int, .array (.int), .array (.int)] : List FieldType).getD k .int
def q_y3 : Nat → FieldType := fun k => ([.array (.long), .array (.long), .int] : List FieldType).getD k .int
def q_y4 : Nat → FieldType := fun k => ([.array (.int), .int, .int] : List FieldType).getD k .int
def q_y5 : Nat → FieldType := fun k => ([.array (.int), .array (.long), .array (.int), .int, .int] : List FieldType).getD k .int
def q_y6 : Nat → FieldType := fun k => ([.array (.byte), .int, .int, .int] : List FieldType).getD k .int
def q_y7 : Nat → FieldType := fun k => ([.array (.object "FloorCurves$Picture"), .object "FloorCurves$Picture", .object "FloorCurves$Marker", .object "FloorCurves$Powers", .array (.object "FloorCurves$Catalogue"), .object "FloorCurves$Tape", .object "FloorCurves$Tangents", .array (.long), .array (.object "FloorCurves$Sheet"), .int] : List FieldType).getD k .int
def q_y8 : Nat → FieldType := fun k => ([.int, .array (.int), .array (.int), .array (.int), .array (.int), .array (.int), .array (.long), .array (.long), .int, .array (.int), .array (.int), .array (.int), .array (.int), .int, .array (.long), .array (.int), .array (.boolean), .array (.long), .array (.long), .array (.int), .array (.long), .array (.int), .int, .int, .boolean, .array (.int), .array (.int), .int, .array (.int), .array (.int), .array (.int), .array (.long), .boolean, .int, .array (.int), .array (.long), .array (.int), .array (.int), .array (.int)] : List FieldType).getD k .int
def q_ty (t : Nat) : Nat → FieldType := match t with
  | 0 => q_y0
  | 1 => q_y1
  | 2 => q_y2
  | 3 => q_y3
  | 4 => q_y4
  | 5 => q_y5
  | 6 => q_y6
  | 7 => q_y7
  | _ => q_y8
theorem q_nm0 : ∀ a, a < 11 → ∀ b, b < 11 → a ≠ b → (q_T0 a).2.1 ≠ (q_T0 b).2.1 := by decide +kernel
theorem q_yk0 : ∀ k, k < 11 → parseFieldDescriptor (q_T0 k).2.2.1 = some (q_y0 k) := by decide +kernel
theorem q_in0 : (u_ws "FloorCurves$Catalogue" q_T0 11).all (fun w => decide (w ∈ lw_tbl) && goodWord w) = true := by decide +kernel
theorem q_nm1 : ∀ a, a < 7 → ∀ b, b < 7 → a ≠ b → (q_T1 a).2.1 ≠ (q_T1 b).2.1 := by decide +kernel
theorem q_yk1 : ∀ k, k < 7 → parseFieldDescriptor (q_T1 k).2.2.1 = some (q_y1 k) := by decide +kernel
theorem q_in1 : (u_ws "FloorCurves$Marker" q_T1 7).all (fun w => decide (w ∈ lw_tbl) && goodWord w) = true := by decide +kernel
theorem q_nm2 : ∀ a, a < 4 → ∀ b, b < 4 → a ≠ b → (q_T2 a).2.1 ≠ (q_T2 b).2.1 := by decide +kernel
theorem q_yk2 : ∀ k, k < 4 → parseFieldDescriptor (q_T2 k).2.2.1 = some (q_y2 k) := by decide +kernel
theorem q_in2 : (u_ws "FloorCurves$Picture" q_T2 4).all (fun w => decide (w ∈ lw_tbl) && goodWord w) = true := by decide +kernel
theorem q_nm3 : ∀ a, a < 3 → ∀ b, b < 3 → a ≠ b → (q_T3 a).2.1 ≠ (q_T3 b).2.1 := by decide +kernel
theorem q_yk3 : ∀ k, k < 3 → parseFieldDescriptor (q_T3 k).2.2.1 = some (q_y3 k) := by decide +kernel
theorem q_in3 : (u_ws "FloorCurves$Powers" q_T3 3).all (fun w => decide (w ∈ lw_tbl) && goodWord w) = true := by decide +kernel
theorem q_nm4 : ∀ a, a < 3 → ∀ b, b < 3 → a ≠ b → (q_T4 a).2.1 ≠ (q_T4 b).2.1 := by decide +kernel
theorem q_yk4 : ∀ k, k < 3 → parseFieldDescriptor (q_T4 k).2.2.1 = some (q_y4 k) := by decide +kernel
theorem q_in4 : (u_ws "FloorCurves$Sheet" q_T4 3).all (fun w => decide (w ∈ lw_tbl) && goodWord w) = true := by decide +kernel
theorem q_nm5 : ∀ a, a < 5 → ∀ b, b < 5 → a ≠ b → (q_T5 a).2.1 ≠ (q_T5 b).2.1 := by decide +kernel
theorem q_yk5 : ∀ k, k < 5 → parseFieldDescriptor (q_T5 k).2.2.1 = some (q_y5 k) := by decide +kernel
theorem q_in5 : (u_ws "FloorCurves$Tangents" q_T5 5).all (fun w => decide (w ∈ lw_tbl) && goodWord w) = true := by decide +kernel
theorem q_nm6 : ∀ a, a < 4 → ∀ b, b < 4 → a ≠ b → (q_T6 a).2.1 ≠ (q_T6 b).2.1 := by decide +kernel
theorem q_yk6 : ∀ k, k < 4 → parseFieldDescriptor (q_T6 k).2.2.1 = some (q_y6 k) := by decide +kernel
theorem q_in6 : (u_ws "FloorCurves$Tape" q_T6 4).all (fun w => decide (w ∈ lw_tbl) && goodWord w) = true := by decide +kernel
theorem q_nm7 : ∀ a, a < 10 → ∀ b, b < 10 → a ≠ b → (q_T7 a).2.1 ≠ (q_T7 b).2.1 := by decide +kernel
theorem q_yk7 : ∀ k, k < 10 → parseFieldDescriptor (q_T7 k).2.2.1 = some (q_y7 k) := by decide +kernel
theorem q_in7 : (u_ws "FloorCurves" q_T7 10).all (fun w => decide (w ∈ lw_tbl) && goodWord w) = true := by decide +kernel
theorem q_nm8 : ∀ a, a < 39 → ∀ b, b < 39 → a ≠ b → (q_T8 a).2.1 ≠ (q_T8 b).2.1 := by decide +kernel
theorem q_yk8 : ∀ k, k < 39 → parseFieldDescriptor (q_T8 k).2.2.1 = some (q_y8 k) := by decide +kernel
theorem q_in8 : (u_ws "FloorCurvesModel" q_T8 39).all (fun w => decide (w ∈ lw_tbl) && goodWord w) = true := by decide +kernel
theorem q_clsOk : ∀ (t : Nat) (q : vw_C), q_cls[t]? = some q → (∀ a, a < q.2.2 → ∀ b, b < q.2.2 → a ≠ b → (q.2.1 a).2.1 ≠ (q.2.1 b).2.1) ∧ (∀ k, k < q.2.2 → parseFieldDescriptor (q.2.1 k).2.2.1 = some (q_ty t k)) ∧ (u_ws q.1 q.2.1 q.2.2).all (fun w => decide (w ∈ lw_tbl) && goodWord w) = true := by
  intro t q h
  match t, h with
  | 0, h => cases h; exact ⟨q_nm0, q_yk0, q_in0⟩
  | 1, h => cases h; exact ⟨q_nm1, q_yk1, q_in1⟩
  | 2, h => cases h; exact ⟨q_nm2, q_yk2, q_in2⟩
  | 3, h => cases h; exact ⟨q_nm3, q_yk3, q_in3⟩
  | 4, h => cases h; exact ⟨q_nm4, q_yk4, q_in4⟩
  | 5, h => cases h; exact ⟨q_nm5, q_yk5, q_in5⟩
  | 6, h => cases h; exact ⟨q_nm6, q_yk6, q_in6⟩
  | 7, h => cases h; exact ⟨q_nm7, q_yk7, q_in7⟩
  | 8, h => cases h; exact ⟨q_nm8, q_yk8, q_in8⟩
  | t + 9, h => simp [q_cls] at h
/-- where a numbered cell lies: the script, the class's two static rows, then the cells as they are made -/
def q_ad (z b pf pt : Nat) (k : Int) : Nat := if k = 0 then b else if k = 1 then pf else if k = 2 then pt else z + (k.toNat - 3)
def q_cv (A : Int → Nat) (v : AV) : Value := match v with
  | .inl x => .int (Int32.ofInt x)
  | .inr (.inl x) => .long (Int64.ofInt x)
  | .inr (.inr x) => if x < 0 then .null else .ref (A x)
def q_cat (v : AV) : Nat := match v with
  | .inl _ => 1
  | .inr (.inl _) => 2
  | .inr (.inr _) => 1
def q_fref (t k : Nat) : Bool := match q_cls[t]? with
  | some q => (q.2.1 k).2.2.1 != "I" && (q.2.1 k).2.2.1 != "Z"
  | none => false
def q_fv (A : Int → Nat) (t : Nat) (f g : Int → Int) (k : Nat) : Value := if q_fref t k = true then q_cv A (vr (g k)) else .int (Int32.ofInt (f k))
def q_aty (t : Nat) : FieldType := if t = 100 then .int else if t = 101 then .long else if t = 102 then .byte else if t = 103 then .boolean else .object ((q_cls[t - 200]?.map (fun q => q.1)).getD "")
def q_av (A : Int → Nat) (t : Nat) (f g : Int → Int) (j : Nat) : Value := if t = 101 then .long (Int64.ofInt (f j)) else if t < 200 then .int (Int32.ofInt (f j)) else q_cv A (vr (g j))
def q_cell (s0 : State) (D : va_G) (A : Int → Nat) (t : Nat) (n : Int) (f g : Int → Int) (a : Nat) (H : Heap) : Prop :=
  (t < 100 → ∃ q, q_cls[t]? = some q ∧ t_OB a (D.1 t) q.2.2 (D.2 t) H (q_fv A t f g)) ∧
  (¬ t < 100 → ∃ cA, ArrOfT s0 cA (q_aty t) ∧ va_RA s0 cA (q_aty t) ∧ (0 ≤ n ∧ n ≤ 2147483647) ∧ H[a]? = some (arrV cA n.toNat (q_av A t f g)))
def q_old (s0 : State) (a : Nat) (n : Int) (f : Int → Int) : Prop := ∃ cell : Cell, s0.heap[a]? = some cell ∧ s0.isArrayOf cell .int ∧ cell.vm ≠ .unknown ∧ n ≤ (cell.slots.size : Int) ∧ n ≤ 2147483647 ∧ Int32.ofNat cell.slots.size = Int32.ofInt n ∧ ∀ j : Nat, (j : Int) < n → cell.slots[j]? = some (.int (Int32.ofInt (f j)))
/-- the heap as it is, by the numbered cells -/
def q_HR (s0 : State) (D : va_G) (A : Int → Nat) (σ : Sg) (m : Mm) (H : Heap) : Prop :=
  3 ≤ σ.1 ∧ H.size = s0.heap.size + (σ.1.toNat - 3) ∧ (∀ q : Nat, q < s0.heap.size → H[q]? = s0.heap[q]?) ∧ (∀ k : Int, 3 ≤ k → k < σ.1 → q_cell s0 D A (σ.2.2.1 k) (σ.2.2.2.1 k) (m k) (σ.2.2.2.2 k) (A k) H) ∧ (∀ k : Int, 0 ≤ k → k < 3 → σ.2.2.1 k = 100 ∧ q_old s0 (A k) (σ.2.2.2.1 k) (m k))
/-- what the start gives -/
def q_G (s0 : State) (b pf pt : Nat) (D : va_G) : Prop :=
  (∃ a0 : Array Value, ∀ w ∈ lw_tbl, w.before a0 s0 = true) ∧ (∀ (c : Nat) (q : vw_C), q_cls[c]? = some q → u_Kn s0 q.1 q.2.1 q.2.2 (D.1 c) (D.2 c)) ∧
  va_Z "FloorCurves" "PAIR_FROM" "[I" (.ref pf) (fun q => s0.heap.size ≤ q) s0 s0.heap ∧ va_Z "FloorCurves" "PAIR_TO" "[I" (.ref pt) (fun q => s0.heap.size ≤ q) s0 s0.heap ∧ b < s0.heap.size ∧ pf < s0.heap.size ∧ pt < s0.heap.size
/-- a method's standing facts -/
def q_SC (s0 : State) (M : Md) (d : Nat) (p : Program) (R : Room) (s : State) (mi : MethodId) (meth : Method) (c : Code) : Prop :=
  p.tables.exec = Jvm.exec ∧ c.code = M.2.1 ∧ meth.sig.returnType = M.2.2.2 ∧ c.maxLocals = M.2.2.1 ∧ s.vm.findClass M.1.cls = some mi.cls ∧ meth.locks = false ∧ (M.1.name = "<init>" → meth.name = "<init>") ∧ s0.WarmedH s.vm ∧ d ≤ R.frames ∧ 40 * d ≤ R.locals
def q_LR (A : Int → Nat) (L : List (Option AV)) (ls : Array Slot) : Prop := ls.size = L.length ∧ lv_wf ls ∧ ∀ (i : Nat) (v : AV), L[i]? = some (some v) → ls[i]? = some (.val (q_cv A v))
def q_Q (s0 : State) (D : va_G) (A : Int → Nat) (r : Option AV) (σ : Sg) (m : Mm) : Array Value → State → Outcome → State → Prop := fun _ _ o t => o = .returned (r.map (q_cv A)) ∧ q_HR s0 D A σ m t.heap
def q_fr (s0 : State) : Addr → Prop := fun q => s0.heap.size ≤ q
/-- method M, at pc with locals L and stack st over the picture σ, m, comes to its end with the answer r and the picture σ', m' -/
def Ev (d : Nat) (M : Md) (pc : Nat) (L : List (Option AV)) (st : List AV) (σ : Sg) (m : Mm) (r : Option AV) (σ' : Sg) (m' : Mm) : Prop :=
  (σ.1 ≤ σ'.1 ∧ σ.2.1 ≤ σ'.2.1) ∧ ∀ (l : Launch) (s0 : State) (b pf pt : Nat) (D : va_G), q_G s0 b pf pt D →
    ∀ (p : Program) (e : Env) (R : Room) (s : State) (mi : MethodId) (args : Array Value) (below : List Frame) (meth : Method) (c : Code) (n0 k0 : Int), q_SC s0 M d p R s mi meth c →
    n0 ≤ σ.1 → k0 ≤ σ.2.1 → (σ'.1 - n0).toNat ≤ R.cells → (σ'.2.1 - k0).toNat ≤ R.slots →
    ∀ (H : Heap) (locs : List Loc) (ls : Array Slot), q_HR s0 D (q_ad s0.heap.size b pf pt) σ m H → (∀ q ∈ locs, s0.heap.size ≤ q.base) → q_LR (q_ad s0.heap.size b pf pt) L ls →
    W p l e R s mi args below meth c H locs (σ.1 - n0).toNat (σ.2.1 - k0).toNat (MQ below (q_Q s0 D (q_ad s0.heap.size b pf pt) r σ' m') args s (σ'.1 - n0).toNat (σ'.2.1 - k0).toNat (q_fr s0)) (F0 mi pc ls (st.map (q_cv (q_ad s0.heap.size b pf pt))))
/-- a method's first locals -/
def q_sl : List AV → List (Option AV)
  | [] => []
  | .inl x :: t => some (.inl x) :: q_sl t
  | .inr (.inl x) :: t => some (.inr (.inl x)) :: none :: q_sl t
  | .inr (.inr x) :: t => some (.inr (.inr x)) :: q_sl t
def q_en (M : Md) (av : List AV) : List (Option AV) := q_sl av ++ List.replicate (M.2.2.1 - (q_sl av).length) none
abbrev Call (d : Nat) (M : Md) (av : List AV) (σ : Sg) (m : Mm) (r : Option AV) (σ' : Sg) (m' : Mm) : Prop := Ev d M 0 (q_en M av) [] σ m r σ' m'
/-! numbers -/
theorem q_i32 {x : Int} (h : -2147483648 ≤ x ∧ x ≤ 2147483647) : (Int32.ofInt x).toInt = x := Int32.toInt_ofInt_of_le (by omega) (by omega)
theorem q_i64 {x : Int} (h : -9223372036854775808 ≤ x ∧ x ≤ 9223372036854775807) : (Int64.ofInt x).toInt = x := Int64.toInt_ofInt_of_le (by omega) (by omega)
theorem q_lt {x y : Int} (hx : -2147483648 ≤ x ∧ x ≤ 2147483647) (hy : -2147483648 ≤ y ∧ y ≤ 2147483647) : Int32.ofInt x < Int32.ofInt y ↔ x < y := by
  rw [Int32.lt_iff_toInt_lt, q_i32 hx, q_i32 hy]
theorem q_le {x y : Int} (hx : -2147483648 ≤ x ∧ x ≤ 2147483647) (hy : -2147483648 ≤ y ∧ y ≤ 2147483647) : Int32.ofInt x ≤ Int32.ofInt y ↔ x ≤ y := by
  rw [Int32.le_iff_toInt_le, q_i32 hx, q_i32 hy]
theorem q_eq {x y : Int} (hx : -2147483648 ≤ x ∧ x ≤ 2147483647) (hy : -2147483648 ≤ y ∧ y ≤ 2147483647) : Int32.ofInt x = Int32.ofInt y ↔ x = y := by
  rw [← Int32.toInt_inj, q_i32 hx, q_i32 hy]
theorem q_z : (0 : Int32) = Int32.ofInt 0 := rfl
theorem q_clamp {x : Int} (h0 : 0 ≤ x) (h : x ≤ 2147483647) : (Int32.ofInt x).toNatClampNeg = x.toNat := by
  show (Int32.ofInt x).toInt.toNat = x.toNat
  rw [q_i32 ⟨by omega, h⟩]
theorem q_pin {x : Int} {n : Nat} (h0 : 0 ≤ x) (h : x < n) (hn : x ≤ 2147483647) : ¬ (Int32.ofInt x < 0 ∨ n ≤ (Int32.ofInt x).toNatClampNeg) := by
  rw [q_clamp h0 (by omega), q_z, q_lt (by omega) (by omega)]
  omega
/-! words -/
theorem q_w {s0 s : State} {a0 args : Array Value} (h : ∀ w ∈ lw_tbl, w.before a0 s0 = true) (hW : s0.WarmedH s.vm) {w : Cond} (hw : w ∈ lw_tbl) (hg : goodWord w = true) : w.before args s = true := word_at hW (good_of_word hg) (h w hw)
theorem q_uw {s0 s : State} {a0 args : Array Value} (h : ∀ w ∈ lw_tbl, w.before a0 s0 = true) (hW : s0.WarmedH s.vm) {ws : List Cond} (ha : ws.all (fun w => decide (w ∈ lw_tbl) && goodWord w) = true) : ∀ w ∈ ws, w.before args s = true := by
  intro w hw
  have h1 := List.all_eq_true.mp ha w hw
  simp only [Bool.and_eq_true, decide_eq_true_eq] at h1
  exact q_w h hW h1.1 h1.2

