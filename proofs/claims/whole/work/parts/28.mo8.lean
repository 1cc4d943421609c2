section
variable {σ : Sg} {m : Mm}
/-! unlike -/
def dw (f : Int) : List Int → List Int
  | [] => []
  | s :: t => if fS s < f then dw f t else s :: t
def un (f : Int) : List Int → List Int → Bool
  | [], [] => false
  | a :: _, [] => decide (fS a = f)
  | [], b :: _ => decide (fS b = f)
  | a :: ta, b :: tb => if fS a = f ∧ fS b = f ∧ a = b then un f ta tb else decide (fS a = f ∨ fS b = f)
theorem dw_mem {f y : Int} : ∀ {l : List Int}, y ∈ dw f l → y ∈ l
  | [], h => h
  | s :: t, h => by
    simp only [dw] at h
    split at h
    · exact List.mem_cons_of_mem _ (dw_mem h)
    · exact h
theorem dw_len (f : Int) : ∀ l : List Int, (dw f l).length ≤ l.length
  | [] => by simp [dw]
  | s :: t => by
    have := dw_len f t
    simp only [dw]
    split <;> simp only [List.length_cons] <;> omega
theorem lpA_Mo_un (hM : MoS σ) {p q f ea eb : Int} {x8 : Option AV} (hf : 0 ≤ f ∧ f ≤ 4) (hea : ea ≤ 54) (heb : eb ≤ 54) {b : Int} {r : Option AV} {m' : Mm} (ho : 0 ≤ b ∧ b ≤ 54) : ∀ (l : List Int) (a : Int), At m a l → 0 ≤ a → a + l.length = ea → (∀ k : Int, At m k (dw f l) → 0 ≤ k → k + (dw f l).length = ea → Ev 1 m_Mo_unlikeAt 58 [some (vr 57), some (vi p), some (vi q), some (vi f), some (vi k), some (vi b), some (vi ea), some (vi eb), x8] [] σ m r σ m') → Ev 1 m_Mo_unlikeAt 34 [some (vr 57), some (vi p), some (vi q), some (vi f), some (vi a), some (vi b), some (vi ea), some (vi eb), x8] [] σ m r σ m'
  | [], a, hA, h0, he, cont => by
    have he0 := he
    simp only [List.length_nil] at he
    refine Ev.iload d_Mo_unlikeAt_34 rfl ?_
    refine Ev.iload d_Mo_unlikeAt_36 rfl ?_
    refine Ev.icmp_ge (tgt := 58) d_Mo_unlikeAt_38 rfl (by first | omega | (simp [mu]; done) | (simp [mu]; omega)) (by first | omega | (simp [mu]; done) | (simp [mu]; omega)) (fun hb38 => ?_) (fun hb38 => by exfalso; first | omega | simp at hb38 | contradiction)
    exact cont a trivial h0 he0
  | s :: t, a, hA, h0, he, cont => by
    have hA0 := hA
    have he0 := he
    obtain ⟨⟨e1, e2, e3⟩, hA2⟩ := hA
    have d1 := fS_b s
    simp only [List.length_cons] at he
    refine Ev.iload d_Mo_unlikeAt_34 rfl ?_
    refine Ev.iload d_Mo_unlikeAt_36 rfl ?_
    refine Ev.icmp_ge (tgt := 58) d_Mo_unlikeAt_38 rfl (by first | omega | (simp [mu]; done) | (simp [mu]; omega)) (by first | omega | (simp [mu]; done) | (simp [mu]; omega)) (fun hb38 => by exfalso; first | omega | simp at hb38 | contradiction) (fun hb38 => ?_)
    refine Ev.aload_n d_Mo_unlikeAt_41 rfl ?_
    refine Ev.gr 3 d_Mo_unlikeAt_42 lf_Mo_16 rfl rfl (is_57 hM) (by decide) (rf_57_3 hM) ?_
    refine Ev.iload d_Mo_unlikeAt_45 rfl ?_
    refine Ev.iaload d_Mo_unlikeAt_47 (is_60 hM) (by first | omega | (simp [mu]; done) | (simp [mu]; omega)) ?_
    refine Ev.iload_n d_Mo_unlikeAt_48 rfl ?_
    refine Ev.icmp_ge (tgt := 58) d_Mo_unlikeAt_49 rfl (by first | omega | (simp [mu]; done) | (simp [mu]; omega)) (by first | omega | (simp [mu]; done) | (simp [mu]; omega)) (fun hb49 => ?_) (fun hb49 => ?_)
    · rw [dw, if_neg (by omega)] at cont
      exact cont a hA0 h0 he0
    · refine Ev.iinc_4 d_Mo_unlikeAt_52 rfl ?_
      refine Ev.goto (tgt := 34) d_Mo_unlikeAt_55 rfl ?_
      rw [dw, if_pos (by omega)] at cont
      exact lpA_Mo_un hM hf hea heb ho t (a + 1) hA2 (by omega) (by omega) cont
theorem lpB_Mo_un (hM : MoS σ) {p q f ea eb : Int} {x8 : Option AV} (hf : 0 ≤ f ∧ f ≤ 4) (hea : ea ≤ 54) (heb : eb ≤ 54) {a : Int} {r : Option AV} {m' : Mm} (ho : 0 ≤ a ∧ a ≤ 54) : ∀ (l : List Int) (b : Int), At m b l → 0 ≤ b → b + l.length = eb → (∀ k : Int, At m k (dw f l) → 0 ≤ k → k + (dw f l).length = eb → Ev 1 m_Mo_unlikeAt 82 [some (vr 57), some (vi p), some (vi q), some (vi f), some (vi a), some (vi k), some (vi ea), some (vi eb), x8] [] σ m r σ m') → Ev 1 m_Mo_unlikeAt 58 [some (vr 57), some (vi p), some (vi q), some (vi f), some (vi a), some (vi b), some (vi ea), some (vi eb), x8] [] σ m r σ m'
  | [], b, hA, h0, he, cont => by
    have he0 := he
    simp only [List.length_nil] at he
    refine Ev.iload d_Mo_unlikeAt_58 rfl ?_
    refine Ev.iload d_Mo_unlikeAt_60 rfl ?_
    refine Ev.icmp_ge (tgt := 82) d_Mo_unlikeAt_62 rfl (by first | omega | (simp [mu]; done) | (simp [mu]; omega)) (by first | omega | (simp [mu]; done) | (simp [mu]; omega)) (fun hb62 => ?_) (fun hb62 => by exfalso; first | omega | simp at hb62 | contradiction)
    exact cont b trivial h0 he0
  | s :: t, b, hA, h0, he, cont => by
    have hA0 := hA
    have he0 := he
    obtain ⟨⟨e1, e2, e3⟩, hA2⟩ := hA
    have d1 := fS_b s
    simp only [List.length_cons] at he
    refine Ev.iload d_Mo_unlikeAt_58 rfl ?_
    refine Ev.iload d_Mo_unlikeAt_60 rfl ?_
    refine Ev.icmp_ge (tgt := 82) d_Mo_unlikeAt_62 rfl (by first | omega | (simp [mu]; done) | (simp [mu]; omega)) (by first | omega | (simp [mu]; done) | (simp [mu]; omega)) (fun hb62 => by exfalso; first | omega | simp at hb62 | contradiction) (fun hb62 => ?_)
    refine Ev.aload_n d_Mo_unlikeAt_65 rfl ?_
    refine Ev.gr 3 d_Mo_unlikeAt_66 lf_Mo_16 rfl rfl (is_57 hM) (by decide) (rf_57_3 hM) ?_
    refine Ev.iload d_Mo_unlikeAt_69 rfl ?_
    refine Ev.iaload d_Mo_unlikeAt_71 (is_60 hM) (by first | omega | (simp [mu]; done) | (simp [mu]; omega)) ?_
    refine Ev.iload_n d_Mo_unlikeAt_72 rfl ?_
    refine Ev.icmp_ge (tgt := 82) d_Mo_unlikeAt_73 rfl (by first | omega | (simp [mu]; done) | (simp [mu]; omega)) (by first | omega | (simp [mu]; done) | (simp [mu]; omega)) (fun hb73 => ?_) (fun hb73 => ?_)
    · rw [dw, if_neg (by omega)] at cont
      exact cont b hA0 h0 he0
    · refine Ev.iinc_5 d_Mo_unlikeAt_76 rfl ?_
      refine Ev.goto (tgt := 58) d_Mo_unlikeAt_79 rfl ?_
      rw [dw, if_pos (by omega)] at cont
      exact lpB_Mo_un hM hf hea heb ho t (b + 1) hA2 (by omega) (by omega) cont
theorem lpC_Mo_un (hM : MoS σ) {p q f ea eb : Int} {x8 : Option AV} (hf : 0 ≤ f ∧ f ≤ 4) (hea : ea ≤ 54) (heb : eb ≤ 54) : ∀ (la lb : List Int) (a b : Int), At m a la → At m b lb → 0 ≤ a → 0 ≤ b → a + la.length = ea → b + lb.length = eb → (∀ y ∈ la, 0 ≤ y ∧ y < 24) → (∀ y ∈ lb, 0 ≤ y ∧ y < 24) → Ev 1 m_Mo_unlikeAt 82 [some (vr 57), some (vi p), some (vi q), some (vi f), some (vi a), some (vi b), some (vi ea), some (vi eb), x8] [] σ m (some (vi (b01 (un f la lb = true)))) σ m
  | [], [], a, b, hA, hB, h0, h1, ha, hb, hya, hyb => by
    simp only [List.length_nil, List.length_cons] at ha hb
    refine Ev.iload d_Mo_unlikeAt_82 rfl ?_
    refine Ev.iload d_Mo_unlikeAt_84 rfl ?_
    refine Ev.icmp_ge (tgt := 161) d_Mo_unlikeAt_86 rfl (by first | omega | (simp [mu]; done) | (simp [mu]; omega)) (by first | omega | (simp [mu]; done) | (simp [mu]; omega)) (fun hb86 => ?_) (fun hb86 => by exfalso; first | omega | simp at hb86 | contradiction)
    refine Ev.iload d_Mo_unlikeAt_161 rfl ?_
    refine Ev.iload d_Mo_unlikeAt_163 rfl ?_
    refine Ev.icmp_ge (tgt := 179) d_Mo_unlikeAt_165 rfl (by first | omega | (simp [mu]; done) | (simp [mu]; omega)) (by first | omega | (simp [mu]; done) | (simp [mu]; omega)) (fun hb165 => ?_) (fun hb165 => by exfalso; first | omega | simp at hb165 | contradiction)
    refine Ev.iload d_Mo_unlikeAt_179 rfl ?_
    refine Ev.iload d_Mo_unlikeAt_181 rfl ?_
    refine Ev.icmp_ge (tgt := 201) d_Mo_unlikeAt_183 rfl (by first | omega | (simp [mu]; done) | (simp [mu]; omega)) (by first | omega | (simp [mu]; done) | (simp [mu]; omega)) (fun hb183 => ?_) (fun hb183 => by exfalso; first | omega | simp at hb183 | contradiction)
    refine Ev.iconst d_Mo_unlikeAt_201 ?_
    refine Ev.istore_8 d_Mo_unlikeAt_202 rfl ?_
    refine Ev.iload d_Mo_unlikeAt_204 rfl ?_
    refine Ev.if_eq (tgt := 213) d_Mo_unlikeAt_206 rfl (by first | omega | (simp [mu]; done) | (simp [mu]; omega)) (fun hb206 => ?_) (fun hb206 => by exfalso; first | omega | simp at hb206 | contradiction)
    refine Ev.iconst d_Mo_unlikeAt_213 ?_
    exact Ev.to (Ev.ireturn d_Mo_unlikeAt_214 rfl) (r0 (by simp only [un]; decide)) rfl
  | [], y :: tb, a, b, hA, hB, h0, h1, ha, hb, hya, hyb => by
    obtain ⟨⟨f1, f2, f3⟩, hB2⟩ := hB
    have g1 := fS_b y
    have g2 := tS_b y
    have g3 := wS_b y
    have hy := hyb y List.mem_cons_self
    simp only [List.length_nil, List.length_cons] at ha hb
    refine Ev.iload d_Mo_unlikeAt_82 rfl ?_
    refine Ev.iload d_Mo_unlikeAt_84 rfl ?_
    refine Ev.icmp_ge (tgt := 161) d_Mo_unlikeAt_86 rfl (by first | omega | (simp [mu]; done) | (simp [mu]; omega)) (by first | omega | (simp [mu]; done) | (simp [mu]; omega)) (fun hb86 => ?_) (fun hb86 => by exfalso; first | omega | simp at hb86 | contradiction)
    refine Ev.iload d_Mo_unlikeAt_161 rfl ?_
    refine Ev.iload d_Mo_unlikeAt_163 rfl ?_
    refine Ev.icmp_ge (tgt := 179) d_Mo_unlikeAt_165 rfl (by first | omega | (simp [mu]; done) | (simp [mu]; omega)) (by first | omega | (simp [mu]; done) | (simp [mu]; omega)) (fun hb165 => ?_) (fun hb165 => by exfalso; first | omega | simp at hb165 | contradiction)
    refine Ev.iload d_Mo_unlikeAt_179 rfl ?_
    refine Ev.iload d_Mo_unlikeAt_181 rfl ?_
    refine Ev.icmp_ge (tgt := 201) d_Mo_unlikeAt_183 rfl (by first | omega | (simp [mu]; done) | (simp [mu]; omega)) (by first | omega | (simp [mu]; done) | (simp [mu]; omega)) (fun hb183 => by exfalso; first | omega | simp at hb183 | contradiction) (fun hb183 => ?_)
    refine Ev.aload_n d_Mo_unlikeAt_186 rfl ?_
    refine Ev.gr 3 d_Mo_unlikeAt_187 lf_Mo_16 rfl rfl (is_57 hM) (by decide) (rf_57_3 hM) ?_
    refine Ev.iload d_Mo_unlikeAt_190 rfl ?_
    refine Ev.iaload d_Mo_unlikeAt_192 (is_60 hM) (by first | omega | (simp [mu]; done) | (simp [mu]; omega)) ?_
    refine Ev.iload_n d_Mo_unlikeAt_193 rfl ?_
    refine Ev.icmp_ne (tgt := 201) d_Mo_unlikeAt_194 rfl (by first | omega | (simp [mu]; done) | (simp [mu]; omega)) (by first | omega | (simp [mu]; done) | (simp [mu]; omega)) (fun hb194 => ?_) (fun hb194 => ?_)
    · refine Ev.iconst d_Mo_unlikeAt_201 ?_
      refine Ev.istore_8 d_Mo_unlikeAt_202 rfl ?_
      refine Ev.iload d_Mo_unlikeAt_204 rfl ?_
      refine Ev.if_eq (tgt := 213) d_Mo_unlikeAt_206 rfl (by first | omega | (simp [mu]; done) | (simp [mu]; omega)) (fun hb206 => ?_) (fun hb206 => by exfalso; first | omega | simp at hb206 | contradiction)
      refine Ev.iconst d_Mo_unlikeAt_213 ?_
      exact Ev.to (Ev.ireturn d_Mo_unlikeAt_214 rfl) (r0 (by simp only [un]; simp only [decide_eq_true_eq]; omega)) rfl
    · refine Ev.iconst d_Mo_unlikeAt_197 ?_
      refine Ev.goto (tgt := 202) d_Mo_unlikeAt_198 rfl ?_
      refine Ev.istore_8 d_Mo_unlikeAt_202 rfl ?_
      refine Ev.iload d_Mo_unlikeAt_204 rfl ?_
      refine Ev.if_eq (tgt := 213) d_Mo_unlikeAt_206 rfl (by first | omega | (simp [mu]; done) | (simp [mu]; omega)) (fun hb206 => by exfalso; first | omega | simp at hb206 | contradiction) (fun hb206 => ?_)
      refine Ev.iconst d_Mo_unlikeAt_209 ?_
      refine Ev.goto (tgt := 214) d_Mo_unlikeAt_210 rfl ?_
      exact Ev.to (Ev.ireturn d_Mo_unlikeAt_214 rfl) (r1 (by simp only [un]; simp only [decide_eq_true_eq]; omega)) rfl
  | x :: ta, [], a, b, hA, hB, h0, h1, ha, hb, hya, hyb => by
    obtain ⟨⟨e1, e2, e3⟩, hA2⟩ := hA
    have d1 := fS_b x
    have d2 := tS_b x
    have d3 := wS_b x
    have hx := hya x List.mem_cons_self
    simp only [List.length_nil, List.length_cons] at ha hb
    refine Ev.iload d_Mo_unlikeAt_82 rfl ?_
    refine Ev.iload d_Mo_unlikeAt_84 rfl ?_
    refine Ev.icmp_ge (tgt := 161) d_Mo_unlikeAt_86 rfl (by first | omega | (simp [mu]; done) | (simp [mu]; omega)) (by first | omega | (simp [mu]; done) | (simp [mu]; omega)) (fun hb86 => by exfalso; first | omega | simp at hb86 | contradiction) (fun hb86 => ?_)
    refine Ev.aload_n d_Mo_unlikeAt_89 rfl ?_
    refine Ev.gr 3 d_Mo_unlikeAt_90 lf_Mo_16 rfl rfl (is_57 hM) (by decide) (rf_57_3 hM) ?_
    refine Ev.iload d_Mo_unlikeAt_93 rfl ?_
    refine Ev.iaload d_Mo_unlikeAt_95 (is_60 hM) (by first | omega | (simp [mu]; done) | (simp [mu]; omega)) ?_
    refine Ev.iload_n d_Mo_unlikeAt_96 rfl ?_
    refine Ev.icmp_ne (tgt := 161) d_Mo_unlikeAt_97 rfl (by first | omega | (simp [mu]; done) | (simp [mu]; omega)) (by first | omega | (simp [mu]; done) | (simp [mu]; omega)) (fun hb97 => ?_) (fun hb97 => ?_)
    · refine Ev.iload d_Mo_unlikeAt_161 rfl ?_
      refine Ev.iload d_Mo_unlikeAt_163 rfl ?_
      refine Ev.icmp_ge (tgt := 179) d_Mo_unlikeAt_165 rfl (by first | omega | (simp [mu]; done) | (simp [mu]; omega)) (by first | omega | (simp [mu]; done) | (simp [mu]; omega)) (fun hb165 => by exfalso; first | omega | simp at hb165 | contradiction) (fun hb165 => ?_)
      refine Ev.aload_n d_Mo_unlikeAt_168 rfl ?_
      refine Ev.gr 3 d_Mo_unlikeAt_169 lf_Mo_16 rfl rfl (is_57 hM) (by decide) (rf_57_3 hM) ?_
      refine Ev.iload d_Mo_unlikeAt_172 rfl ?_
      refine Ev.iaload d_Mo_unlikeAt_174 (is_60 hM) (by first | omega | (simp [mu]; done) | (simp [mu]; omega)) ?_
      refine Ev.iload_n d_Mo_unlikeAt_175 rfl ?_
      refine Ev.icmp_eq (tgt := 197) d_Mo_unlikeAt_176 rfl (by first | omega | (simp [mu]; done) | (simp [mu]; omega)) (by first | omega | (simp [mu]; done) | (simp [mu]; omega)) (fun hb176 => by exfalso; first | omega | simp at hb176 | contradiction) (fun hb176 => ?_)
      refine Ev.iload d_Mo_unlikeAt_179 rfl ?_
      refine Ev.iload d_Mo_unlikeAt_181 rfl ?_
      refine Ev.icmp_ge (tgt := 201) d_Mo_unlikeAt_183 rfl (by first | omega | (simp [mu]; done) | (simp [mu]; omega)) (by first | omega | (simp [mu]; done) | (simp [mu]; omega)) (fun hb183 => ?_) (fun hb183 => by exfalso; first | omega | simp at hb183 | contradiction)
      refine Ev.iconst d_Mo_unlikeAt_201 ?_
      refine Ev.istore_8 d_Mo_unlikeAt_202 rfl ?_
      refine Ev.iload d_Mo_unlikeAt_204 rfl ?_
      refine Ev.if_eq (tgt := 213) d_Mo_unlikeAt_206 rfl (by first | omega | (simp [mu]; done) | (simp [mu]; omega)) (fun hb206 => ?_) (fun hb206 => by exfalso; first | omega | simp at hb206 | contradiction)
      refine Ev.iconst d_Mo_unlikeAt_213 ?_
      exact Ev.to (Ev.ireturn d_Mo_unlikeAt_214 rfl) (r0 (by simp only [un]; simp only [decide_eq_true_eq]; omega)) rfl
    · refine Ev.iload d_Mo_unlikeAt_100 rfl ?_
      refine Ev.iload d_Mo_unlikeAt_102 rfl ?_
      refine Ev.icmp_ge (tgt := 161) d_Mo_unlikeAt_104 rfl (by first | omega | (simp [mu]; done) | (simp [mu]; omega)) (by first | omega | (simp [mu]; done) | (simp [mu]; omega)) (fun hb104 => ?_) (fun hb104 => by exfalso; first | omega | simp at hb104 | contradiction)
      refine Ev.iload d_Mo_unlikeAt_161 rfl ?_
      refine Ev.iload d_Mo_unlikeAt_163 rfl ?_
      refine Ev.icmp_ge (tgt := 179) d_Mo_unlikeAt_165 rfl (by first | omega | (simp [mu]; done) | (simp [mu]; omega)) (by first | omega | (simp [mu]; done) | (simp [mu]; omega)) (fun hb165 => by exfalso; first | omega | simp at hb165 | contradiction) (fun hb165 => ?_)
      refine Ev.aload_n d_Mo_unlikeAt_168 rfl ?_
      refine Ev.gr 3 d_Mo_unlikeAt_169 lf_Mo_16 rfl rfl (is_57 hM) (by decide) (rf_57_3 hM) ?_
      refine Ev.iload d_Mo_unlikeAt_172 rfl ?_
      refine Ev.iaload d_Mo_unlikeAt_174 (is_60 hM) (by first | omega | (simp [mu]; done) | (simp [mu]; omega)) ?_
      refine Ev.iload_n d_Mo_unlikeAt_175 rfl ?_
      refine Ev.icmp_eq (tgt := 197) d_Mo_unlikeAt_176 rfl (by first | omega | (simp [mu]; done) | (simp [mu]; omega)) (by first | omega | (simp [mu]; done) | (simp [mu]; omega)) (fun hb176 => ?_) (fun hb176 => by exfalso; first | omega | simp at hb176 | contradiction)
      refine Ev.iconst d_Mo_unlikeAt_197 ?_
      refine Ev.goto (tgt := 202) d_Mo_unlikeAt_198 rfl ?_
      refine Ev.istore_8 d_Mo_unlikeAt_202 rfl ?_
      refine Ev.iload d_Mo_unlikeAt_204 rfl ?_
      refine Ev.if_eq (tgt := 213) d_Mo_unlikeAt_206 rfl (by first | omega | (simp [mu]; done) | (simp [mu]; omega)) (fun hb206 => by exfalso; first | omega | simp at hb206 | contradiction) (fun hb206 => ?_)
      refine Ev.iconst d_Mo_unlikeAt_209 ?_
      refine Ev.goto (tgt := 214) d_Mo_unlikeAt_210 rfl ?_
      exact Ev.to (Ev.ireturn d_Mo_unlikeAt_214 rfl) (r1 (by simp only [un]; simp only [decide_eq_true_eq]; omega)) rfl
  | x :: ta, y :: tb, a, b, hA, hB, h0, h1, ha, hb, hya, hyb => by
    obtain ⟨⟨e1, e2, e3⟩, hA2⟩ := hA
    have d1 := fS_b x
    have d2 := tS_b x
    have d3 := wS_b x
    have hx := hya x List.mem_cons_self
    obtain ⟨⟨f1, f2, f3⟩, hB2⟩ := hB
    have g1 := fS_b y
    have g2 := tS_b y
    have g3 := wS_b y
    have hy := hyb y List.mem_cons_self
    simp only [List.length_nil, List.length_cons] at ha hb
    have hne : fS x = fS y → tS x = tS y → wS x = wS y → x = y := spot_inj hx hy
    have hne2 : x = y → tS x = tS y ∧ wS x = wS y := fun h => by rw [h]; exact ⟨rfl, rfl⟩
    refine Ev.iload d_Mo_unlikeAt_82 rfl ?_
    refine Ev.iload d_Mo_unlikeAt_84 rfl ?_
    refine Ev.icmp_ge (tgt := 161) d_Mo_unlikeAt_86 rfl (by first | omega | (simp [mu]; done) | (simp [mu]; omega)) (by first | omega | (simp [mu]; done) | (simp [mu]; omega)) (fun hb86 => by exfalso; first | omega | simp at hb86 | contradiction) (fun hb86 => ?_)
    refine Ev.aload_n d_Mo_unlikeAt_89 rfl ?_
    refine Ev.gr 3 d_Mo_unlikeAt_90 lf_Mo_16 rfl rfl (is_57 hM) (by decide) (rf_57_3 hM) ?_
    refine Ev.iload d_Mo_unlikeAt_93 rfl ?_
    refine Ev.iaload d_Mo_unlikeAt_95 (is_60 hM) (by first | omega | (simp [mu]; done) | (simp [mu]; omega)) ?_
    refine Ev.iload_n d_Mo_unlikeAt_96 rfl ?_
    refine Ev.icmp_ne (tgt := 161) d_Mo_unlikeAt_97 rfl (by first | omega | (simp [mu]; done) | (simp [mu]; omega)) (by first | omega | (simp [mu]; done) | (simp [mu]; omega)) (fun hb97 => ?_) (fun hb97 => ?_)
    · refine Ev.iload d_Mo_unlikeAt_161 rfl ?_
      refine Ev.iload d_Mo_unlikeAt_163 rfl ?_
      refine Ev.icmp_ge (tgt := 179) d_Mo_unlikeAt_165 rfl (by first | omega | (simp [mu]; done) | (simp [mu]; omega)) (by first | omega | (simp [mu]; done) | (simp [mu]; omega)) (fun hb165 => by exfalso; first | omega | simp at hb165 | contradiction) (fun hb165 => ?_)
      refine Ev.aload_n d_Mo_unlikeAt_168 rfl ?_
      refine Ev.gr 3 d_Mo_unlikeAt_169 lf_Mo_16 rfl rfl (is_57 hM) (by decide) (rf_57_3 hM) ?_
      refine Ev.iload d_Mo_unlikeAt_172 rfl ?_
      refine Ev.iaload d_Mo_unlikeAt_174 (is_60 hM) (by first | omega | (simp [mu]; done) | (simp [mu]; omega)) ?_
      refine Ev.iload_n d_Mo_unlikeAt_175 rfl ?_
      refine Ev.icmp_eq (tgt := 197) d_Mo_unlikeAt_176 rfl (by first | omega | (simp [mu]; done) | (simp [mu]; omega)) (by first | omega | (simp [mu]; done) | (simp [mu]; omega)) (fun hb176 => by exfalso; first | omega | simp at hb176 | contradiction) (fun hb176 => ?_)
      refine Ev.iload d_Mo_unlikeAt_179 rfl ?_
      refine Ev.iload d_Mo_unlikeAt_181 rfl ?_
      refine Ev.icmp_ge (tgt := 201) d_Mo_unlikeAt_183 rfl (by first | omega | (simp [mu]; done) | (simp [mu]; omega)) (by first | omega | (simp [mu]; done) | (simp [mu]; omega)) (fun hb183 => by exfalso; first | omega | simp at hb183 | contradiction) (fun hb183 => ?_)
      refine Ev.aload_n d_Mo_unlikeAt_186 rfl ?_
      refine Ev.gr 3 d_Mo_unlikeAt_187 lf_Mo_16 rfl rfl (is_57 hM) (by decide) (rf_57_3 hM) ?_
      refine Ev.iload d_Mo_unlikeAt_190 rfl ?_
      refine Ev.iaload d_Mo_unlikeAt_192 (is_60 hM) (by first | omega | (simp [mu]; done) | (simp [mu]; omega)) ?_
      refine Ev.iload_n d_Mo_unlikeAt_193 rfl ?_
      refine Ev.icmp_ne (tgt := 201) d_Mo_unlikeAt_194 rfl (by first | omega | (simp [mu]; done) | (simp [mu]; omega)) (by first | omega | (simp [mu]; done) | (simp [mu]; omega)) (fun hb194 => ?_) (fun hb194 => ?_)
      · refine Ev.iconst d_Mo_unlikeAt_201 ?_
        refine Ev.istore_8 d_Mo_unlikeAt_202 rfl ?_
        refine Ev.iload d_Mo_unlikeAt_204 rfl ?_
        refine Ev.if_eq (tgt := 213) d_Mo_unlikeAt_206 rfl (by first | omega | (simp [mu]; done) | (simp [mu]; omega)) (fun hb206 => ?_) (fun hb206 => by exfalso; first | omega | simp at hb206 | contradiction)
        refine Ev.iconst d_Mo_unlikeAt_213 ?_
        exact Ev.to (Ev.ireturn d_Mo_unlikeAt_214 rfl) (r0 (by simp only [un]; rw [if_neg (fun z => by obtain ⟨z1, z2, z3⟩ := z; have := hne2 z3; omega)]; simp only [decide_eq_true_eq]; omega)) rfl
      · refine Ev.iconst d_Mo_unlikeAt_197 ?_
        refine Ev.goto (tgt := 202) d_Mo_unlikeAt_198 rfl ?_
        refine Ev.istore_8 d_Mo_unlikeAt_202 rfl ?_
        refine Ev.iload d_Mo_unlikeAt_204 rfl ?_
        refine Ev.if_eq (tgt := 213) d_Mo_unlikeAt_206 rfl (by first | omega | (simp [mu]; done) | (simp [mu]; omega)) (fun hb206 => by exfalso; first | omega | simp at hb206 | contradiction) (fun hb206 => ?_)
        refine Ev.iconst d_Mo_unlikeAt_209 ?_
        refine Ev.goto (tgt := 214) d_Mo_unlikeAt_210 rfl ?_
        exact Ev.to (Ev.ireturn d_Mo_unlikeAt_214 rfl) (r1 (by simp only [un]; rw [if_neg (fun z => by obtain ⟨z1, z2, z3⟩ := z; have := hne2 z3; omega)]; simp only [decide_eq_true_eq]; omega)) rfl
    · refine Ev.iload d_Mo_unlikeAt_100 rfl ?_
      refine Ev.iload d_Mo_unlikeAt_102 rfl ?_
      refine Ev.icmp_ge (tgt := 161) d_Mo_unlikeAt_104 rfl (by first | omega | (simp [mu]; done) | (simp [mu]; omega)) (by first | omega | (simp [mu]; done) | (simp [mu]; omega)) (fun hb104 => by exfalso; first | omega | simp at hb104 | contradiction) (fun hb104 => ?_)
      refine Ev.aload_n d_Mo_unlikeAt_107 rfl ?_
      refine Ev.gr 3 d_Mo_unlikeAt_108 lf_Mo_16 rfl rfl (is_57 hM) (by decide) (rf_57_3 hM) ?_
      refine Ev.iload d_Mo_unlikeAt_111 rfl ?_
      refine Ev.iaload d_Mo_unlikeAt_113 (is_60 hM) (by first | omega | (simp [mu]; done) | (simp [mu]; omega)) ?_
      refine Ev.iload_n d_Mo_unlikeAt_114 rfl ?_
      refine Ev.icmp_ne (tgt := 161) d_Mo_unlikeAt_115 rfl (by first | omega | (simp [mu]; done) | (simp [mu]; omega)) (by first | omega | (simp [mu]; done) | (simp [mu]; omega)) (fun hb115 => ?_) (fun hb115 => ?_)
      · refine Ev.iload d_Mo_unlikeAt_161 rfl ?_
        refine Ev.iload d_Mo_unlikeAt_163 rfl ?_
        refine Ev.icmp_ge (tgt := 179) d_Mo_unlikeAt_165 rfl (by first | omega | (simp [mu]; done) | (simp [mu]; omega)) (by first | omega | (simp [mu]; done) | (simp [mu]; omega)) (fun hb165 => by exfalso; first | omega | simp at hb165 | contradiction) (fun hb165 => ?_)
        refine Ev.aload_n d_Mo_unlikeAt_168 rfl ?_
        refine Ev.gr 3 d_Mo_unlikeAt_169 lf_Mo_16 rfl rfl (is_57 hM) (by decide) (rf_57_3 hM) ?_
        refine Ev.iload d_Mo_unlikeAt_172 rfl ?_
        refine Ev.iaload d_Mo_unlikeAt_174 (is_60 hM) (by first | omega | (simp [mu]; done) | (simp [mu]; omega)) ?_
        refine Ev.iload_n d_Mo_unlikeAt_175 rfl ?_
        refine Ev.icmp_eq (tgt := 197) d_Mo_unlikeAt_176 rfl (by first | omega | (simp [mu]; done) | (simp [mu]; omega)) (by first | omega | (simp [mu]; done) | (simp [mu]; omega)) (fun hb176 => ?_) (fun hb176 => by exfalso; first | omega | simp at hb176 | contradiction)
        refine Ev.iconst d_Mo_unlikeAt_197 ?_
        refine Ev.goto (tgt := 202) d_Mo_unlikeAt_198 rfl ?_
        refine Ev.istore_8 d_Mo_unlikeAt_202 rfl ?_
        refine Ev.iload d_Mo_unlikeAt_204 rfl ?_
        refine Ev.if_eq (tgt := 213) d_Mo_unlikeAt_206 rfl (by first | omega | (simp [mu]; done) | (simp [mu]; omega)) (fun hb206 => by exfalso; first | omega | simp at hb206 | contradiction) (fun hb206 => ?_)
        refine Ev.iconst d_Mo_unlikeAt_209 ?_
        refine Ev.goto (tgt := 214) d_Mo_unlikeAt_210 rfl ?_
        exact Ev.to (Ev.ireturn d_Mo_unlikeAt_214 rfl) (r1 (by simp only [un]; rw [if_neg (fun z => by obtain ⟨z1, z2, z3⟩ := z; have := hne2 z3; omega)]; simp only [decide_eq_true_eq]; omega)) rfl
      · refine Ev.aload_n d_Mo_unlikeAt_118 rfl ?_
        refine Ev.gr 4 d_Mo_unlikeAt_119 lf_Mo_19 rfl rfl (is_57 hM) (by decide) (rf_57_4 hM) ?_
        refine Ev.iload d_Mo_unlikeAt_122 rfl ?_
        refine Ev.iaload d_Mo_unlikeAt_124 (is_61 hM) (by first | omega | (simp [mu]; done) | (simp [mu]; omega)) ?_
        refine Ev.aload_n d_Mo_unlikeAt_125 rfl ?_
        refine Ev.gr 4 d_Mo_unlikeAt_126 lf_Mo_19 rfl rfl (is_57 hM) (by decide) (rf_57_4 hM) ?_
        refine Ev.iload d_Mo_unlikeAt_129 rfl ?_
        refine Ev.iaload d_Mo_unlikeAt_131 (is_61 hM) (by first | omega | (simp [mu]; done) | (simp [mu]; omega)) ?_
        refine Ev.icmp_ne (tgt := 161) d_Mo_unlikeAt_132 rfl (by first | omega | (simp [mu]; done) | (simp [mu]; omega)) (by first | omega | (simp [mu]; done) | (simp [mu]; omega)) (fun hb132 => ?_) (fun hb132 => ?_)
        · refine Ev.iload d_Mo_unlikeAt_161 rfl ?_
          refine Ev.iload d_Mo_unlikeAt_163 rfl ?_
          refine Ev.icmp_ge (tgt := 179) d_Mo_unlikeAt_165 rfl (by first | omega | (simp [mu]; done) | (simp [mu]; omega)) (by first | omega | (simp [mu]; done) | (simp [mu]; omega)) (fun hb165 => by exfalso; first | omega | simp at hb165 | contradiction) (fun hb165 => ?_)
          refine Ev.aload_n d_Mo_unlikeAt_168 rfl ?_
          refine Ev.gr 3 d_Mo_unlikeAt_169 lf_Mo_16 rfl rfl (is_57 hM) (by decide) (rf_57_3 hM) ?_
          refine Ev.iload d_Mo_unlikeAt_172 rfl ?_
          refine Ev.iaload d_Mo_unlikeAt_174 (is_60 hM) (by first | omega | (simp [mu]; done) | (simp [mu]; omega)) ?_
          refine Ev.iload_n d_Mo_unlikeAt_175 rfl ?_
          refine Ev.icmp_eq (tgt := 197) d_Mo_unlikeAt_176 rfl (by first | omega | (simp [mu]; done) | (simp [mu]; omega)) (by first | omega | (simp [mu]; done) | (simp [mu]; omega)) (fun hb176 => ?_) (fun hb176 => by exfalso; first | omega | simp at hb176 | contradiction)
          refine Ev.iconst d_Mo_unlikeAt_197 ?_
          refine Ev.goto (tgt := 202) d_Mo_unlikeAt_198 rfl ?_
          refine Ev.istore_8 d_Mo_unlikeAt_202 rfl ?_
          refine Ev.iload d_Mo_unlikeAt_204 rfl ?_
          refine Ev.if_eq (tgt := 213) d_Mo_unlikeAt_206 rfl (by first | omega | (simp [mu]; done) | (simp [mu]; omega)) (fun hb206 => by exfalso; first | omega | simp at hb206 | contradiction) (fun hb206 => ?_)
          refine Ev.iconst d_Mo_unlikeAt_209 ?_
          refine Ev.goto (tgt := 214) d_Mo_unlikeAt_210 rfl ?_
          exact Ev.to (Ev.ireturn d_Mo_unlikeAt_214 rfl) (r1 (by simp only [un]; rw [if_neg (fun z => by obtain ⟨z1, z2, z3⟩ := z; have := hne2 z3; omega)]; simp only [decide_eq_true_eq]; omega)) rfl
        · refine Ev.aload_n d_Mo_unlikeAt_135 rfl ?_
          refine Ev.gr 5 d_Mo_unlikeAt_136 lf_Mo_22 rfl rfl (is_57 hM) (by decide) (rf_57_5 hM) ?_
          refine Ev.iload d_Mo_unlikeAt_139 rfl ?_
          refine Ev.iaload d_Mo_unlikeAt_141 (is_62 hM) (by first | omega | (simp [mu]; done) | (simp [mu]; omega)) ?_
          refine Ev.aload_n d_Mo_unlikeAt_142 rfl ?_
          refine Ev.gr 5 d_Mo_unlikeAt_143 lf_Mo_22 rfl rfl (is_57 hM) (by decide) (rf_57_5 hM) ?_
          refine Ev.iload d_Mo_unlikeAt_146 rfl ?_
          refine Ev.iaload d_Mo_unlikeAt_148 (is_62 hM) (by first | omega | (simp [mu]; done) | (simp [mu]; omega)) ?_
          refine Ev.icmp_ne (tgt := 161) d_Mo_unlikeAt_149 rfl (by first | omega | (simp [mu]; done) | (simp [mu]; omega)) (by first | omega | (simp [mu]; done) | (simp [mu]; omega)) (fun hb149 => ?_) (fun hb149 => ?_)
          · refine Ev.iload d_Mo_unlikeAt_161 rfl ?_
            refine Ev.iload d_Mo_unlikeAt_163 rfl ?_
            refine Ev.icmp_ge (tgt := 179) d_Mo_unlikeAt_165 rfl (by first | omega | (simp [mu]; done) | (simp [mu]; omega)) (by first | omega | (simp [mu]; done) | (simp [mu]; omega)) (fun hb165 => by exfalso; first | omega | simp at hb165 | contradiction) (fun hb165 => ?_)
            refine Ev.aload_n d_Mo_unlikeAt_168 rfl ?_
            refine Ev.gr 3 d_Mo_unlikeAt_169 lf_Mo_16 rfl rfl (is_57 hM) (by decide) (rf_57_3 hM) ?_
            refine Ev.iload d_Mo_unlikeAt_172 rfl ?_
            refine Ev.iaload d_Mo_unlikeAt_174 (is_60 hM) (by first | omega | (simp [mu]; done) | (simp [mu]; omega)) ?_
            refine Ev.iload_n d_Mo_unlikeAt_175 rfl ?_
            refine Ev.icmp_eq (tgt := 197) d_Mo_unlikeAt_176 rfl (by first | omega | (simp [mu]; done) | (simp [mu]; omega)) (by first | omega | (simp [mu]; done) | (simp [mu]; omega)) (fun hb176 => ?_) (fun hb176 => by exfalso; first | omega | simp at hb176 | contradiction)
            refine Ev.iconst d_Mo_unlikeAt_197 ?_
            refine Ev.goto (tgt := 202) d_Mo_unlikeAt_198 rfl ?_
            refine Ev.istore_8 d_Mo_unlikeAt_202 rfl ?_
            refine Ev.iload d_Mo_unlikeAt_204 rfl ?_
            refine Ev.if_eq (tgt := 213) d_Mo_unlikeAt_206 rfl (by first | omega | (simp [mu]; done) | (simp [mu]; omega)) (fun hb206 => by exfalso; first | omega | simp at hb206 | contradiction) (fun hb206 => ?_)
            refine Ev.iconst d_Mo_unlikeAt_209 ?_
            refine Ev.goto (tgt := 214) d_Mo_unlikeAt_210 rfl ?_
            exact Ev.to (Ev.ireturn d_Mo_unlikeAt_214 rfl) (r1 (by simp only [un]; rw [if_neg (fun z => by obtain ⟨z1, z2, z3⟩ := z; have := hne2 z3; omega)]; simp only [decide_eq_true_eq]; omega)) rfl
          · refine Ev.iinc_4 d_Mo_unlikeAt_152 rfl ?_
            refine Ev.iinc_5 d_Mo_unlikeAt_155 rfl ?_
            refine Ev.goto (tgt := 82) d_Mo_unlikeAt_158 rfl ?_
            have hxy : x = y := hne (by omega) (by omega) (by omega)
            exact Ev.to (lpC_Mo_un hM hf hea heb ta tb (a + 1) (b + 1) hA2 hB2 (by omega) (by omega) (by omega) (by omega) (fun z hz => hya z (List.mem_cons_of_mem _ hz)) (fun z hz => hyb z (List.mem_cons_of_mem _ hz))) (rb (by simp only [un]; rw [if_pos ⟨by omega, by omega, hxy⟩])) rfl
theorem c_Mo_unlikeAt (hM : MoS σ) {p q f d d2 : Int} {l l2 : List Int} (hp : 0 ≤ p ∧ p ≤ 8) (hq : 0 ≤ q ∧ q ≤ 8) (hf : 0 ≤ f ∧ f ≤ 4) (hP : PM m p d l) (hK : PK d l) (hP2 : PM m q d2 l2) (hK2 : PK d2 l2) : Call 1 m_Mo_unlikeAt [vr 57, vi p, vi q, vi f] σ m (some (vi (b01 (un f (dw f l) (dw f l2) = true)))) σ m := by
  show Ev 1 m_Mo_unlikeAt 0 [some (vr 57), some (vi p), some (vi q), some (vi f), none, none, none, none, none] [] σ m _ σ m
  have h6 := hK.2.1
  have h62 := hK2.2.1
  obtain ⟨p1, p2, p3⟩ := hP
  obtain ⟨q1, q2, q3⟩ := hP2
  refine Ev.bipush d_Mo_unlikeAt_0 rfl ?_
  refine Ev.iload_n d_Mo_unlikeAt_2 rfl ?_
  refine Ev.imul d_Mo_unlikeAt_3 ?_
  refine Ev.istore_4 d_Mo_unlikeAt_4 rfl ?_
  refine Ev.bipush d_Mo_unlikeAt_6 rfl ?_
  refine Ev.iload_n d_Mo_unlikeAt_8 rfl ?_
  refine Ev.imul d_Mo_unlikeAt_9 ?_
  refine Ev.istore_5 d_Mo_unlikeAt_10 rfl ?_
  refine Ev.iload d_Mo_unlikeAt_12 rfl ?_
  refine Ev.aload_n d_Mo_unlikeAt_14 rfl ?_
  refine Ev.gr 2 d_Mo_unlikeAt_15 lf_Mo_13 rfl rfl (is_57 hM) (by decide) (rf_57_2 hM) ?_
  refine Ev.iload_n d_Mo_unlikeAt_18 rfl ?_
  refine Ev.iaload d_Mo_unlikeAt_19 (is_59 hM) (by first | omega | (simp [mu]; done) | (simp [mu]; omega)) ?_
  refine Ev.iadd d_Mo_unlikeAt_20 ?_
  refine Ev.istore_6 d_Mo_unlikeAt_21 rfl ?_
  refine Ev.iload d_Mo_unlikeAt_23 rfl ?_
  refine Ev.aload_n d_Mo_unlikeAt_25 rfl ?_
  refine Ev.gr 2 d_Mo_unlikeAt_26 lf_Mo_13 rfl rfl (is_57 hM) (by decide) (rf_57_2 hM) ?_
  refine Ev.iload_n d_Mo_unlikeAt_29 rfl ?_
  refine Ev.iaload d_Mo_unlikeAt_30 (is_59 hM) (by first | omega | (simp [mu]; done) | (simp [mu]; omega)) ?_
  refine Ev.iadd d_Mo_unlikeAt_31 ?_
  refine Ev.istore_7 d_Mo_unlikeAt_32 rfl ?_
  rw [p2, q2]
  refine lpA_Mo_un hM hf (by omega) (by omega) (by omega) l _ p3 (by omega) rfl (fun a hA h0 ha => ?_)
  refine lpB_Mo_un hM hf (by omega) (by omega) (by have := dw_len f l; omega) l2 _ q3 (by omega) rfl (fun b hB h1 hb => ?_)
  exact lpC_Mo_un hM hf (by omega) (by omega) _ _ a b hA hB h0 h1 ha hb (fun y hy => by have := hK.2.2.2 y (dw_mem hy); omega) (fun y hy => by have := hK2.2.2.2 y (dw_mem hy); omega)
def unf (l l2 : List Int) : Nat → Int → Int
  | 0, _ => -4
  | n + 1, f => if un f (dw f l) (dw f l2) = true then f else unf l l2 n (f + 1)
def sp_unlike (S : PS) (p q : Int) : Int := if (0 ≤ p ∧ p < S.1) ∧ 0 ≤ q ∧ q < S.1 then (if S.2.1 p = S.2.1 q then unf (S.2.2 p) (S.2.2 q) (S.2.1 p).toNat 0 else if S.2.1 p < S.2.1 q then S.2.1 p else S.2.1 q) else -1
theorem lp_Mo_unlike (hM : MoS σ) {p q d : Int} {l l2 : List Int} (hp : 0 ≤ p ∧ p ≤ 8) (hq : 0 ≤ q ∧ q ≤ 8) (hP : PM m p d l) (hK : PK d l) (hP2 : PM m q d l2) (hK2 : PK d l2) : ∀ (n : Nat) (f : Int), f + n = d → 0 ≤ f → Ev 3 m_Mo_unlike 66 [some (vr 57), some (vi p), some (vi q), some (vi f)] [] σ m (some (vi (unf l l2 n f))) σ m
  | 0, f, hf, h0 => by
    have hd := hP.1
    have hd4 := hK.1
    refine Ev.iload_n d_Mo_unlike_66 rfl ?_
    refine Ev.aload_n d_Mo_unlike_67 rfl ?_
    refine Ev.gr 1 d_Mo_unlike_68 lf_Mo_7 rfl rfl (is_57 hM) (by decide) (rf_57_1 hM) ?_
    refine Ev.iload_n d_Mo_unlike_71 rfl ?_
    refine Ev.iaload d_Mo_unlike_72 (is_58 hM) (by first | omega | (simp [mu]; done) | (simp [mu]; omega)) ?_
    refine Ev.icmp_ge (tgt := 95) d_Mo_unlike_73 rfl (by first | omega | (simp [mu]; done) | (simp [mu]; omega)) (by first | omega | (simp [mu]; done) | (simp [mu]; omega)) (fun hb73 => ?_) (fun hb73 => by exfalso; first | omega | simp at hb73 | contradiction)
    refine Ev.bipush d_Mo_unlike_95 rfl ?_
    exact Ev.to (Ev.ireturn d_Mo_unlike_97 rfl) rfl rfl
  | n + 1, f, hf, h0 => by
    have hd := hP.1
    have hd4 := hK.1
    refine Ev.iload_n d_Mo_unlike_66 rfl ?_
    refine Ev.aload_n d_Mo_unlike_67 rfl ?_
    refine Ev.gr 1 d_Mo_unlike_68 lf_Mo_7 rfl rfl (is_57 hM) (by decide) (rf_57_1 hM) ?_
    refine Ev.iload_n d_Mo_unlike_71 rfl ?_
    refine Ev.iaload d_Mo_unlike_72 (is_58 hM) (by first | omega | (simp [mu]; done) | (simp [mu]; omega)) ?_
    refine Ev.icmp_ge (tgt := 95) d_Mo_unlike_73 rfl (by first | omega | (simp [mu]; done) | (simp [mu]; omega)) (by first | omega | (simp [mu]; done) | (simp [mu]; omega)) (fun hb73 => by exfalso; first | omega | simp at hb73 | contradiction) (fun hb73 => ?_)
    refine Ev.aload_n d_Mo_unlike_76 rfl ?_
    refine Ev.iload_n d_Mo_unlike_77 rfl ?_
    refine Ev.iload_n d_Mo_unlike_78 rfl ?_
    refine Ev.iload_n d_Mo_unlike_79 rfl ?_
    refine Ev.callV d_Mo_unlike_80 mt_Mo_unlikeAt lk_Mo_190 in_Mo_unlikeAt se_Mo_unlikeAt rfl (Nat.le_of_ble_eq_true rfl) rfl (Nat.le_of_ble_eq_true rfl) (by decide) (is_57 hM) (by decide) rfl rfl (c_Mo_unlikeAt hM hp hq (by omega) hP hK hP2 hK2) ?_
    refine Ev.iconst d_Mo_unlike_83 ?_
    refine Ev.icmp_ne (tgt := 89) d_Mo_unlike_84 rfl b01_b (by first | omega | (simp [mu]; done) | (simp [mu]; omega)) (fun hb84 => ?_) (fun hb84 => ?_)
    · refine Ev.iinc_3 d_Mo_unlike_89 rfl ?_
      refine Ev.goto (tgt := 66) d_Mo_unlike_92 rfl ?_
      exact Ev.to (lp_Mo_unlike hM hp hq hP hK hP2 hK2 n (f + 1) (by omega) (by omega)) (ri (by rw [unf, if_neg (fun z => hb84 (b01_t z))])) rfl
    · refine Ev.iload_n d_Mo_unlike_87 rfl ?_
      exact Ev.to (Ev.ireturn d_Mo_unlike_88 rfl) (ri (by rw [unf, if_pos (b01_ne.mp (by omega))])) rfl
theorem c_Mo_unlike (hM : MoS σ) {S : PS} (hS : MS m S) {p q : Int} (h1 : -2147483648 ≤ p ∧ p ≤ 2147483647) (h2 : -2147483648 ≤ q ∧ q ≤ 2147483647) : Call 3 m_Mo_unlike [vr 57, vi p, vi q] σ m (some (vi (sp_unlike S p q))) σ m := by
  show Ev 3 m_Mo_unlike 0 [some (vr 57), some (vi p), some (vi q), none] [] σ m _ σ m
  have hS1 := hS.1
  have hS2 := hS.2.1
  refine Ev.aload_n d_Mo_unlike_0 rfl ?_
  refine Ev.iload_n d_Mo_unlike_1 rfl ?_
  refine Ev.callV d_Mo_unlike_2 mt_Mo_is lk_Mo_117 in_Mo_is se_Mo_is rfl (Nat.le_of_ble_eq_true rfl) rfl (Nat.le_of_ble_eq_true rfl) (by decide) (is_57 hM) (by decide) rfl rfl (c_Mo_is hM (by omega) (by omega)) ?_
  refine Ev.if_eq (tgt := 16) d_Mo_unlike_5 rfl b01_b (fun hb5 => ?_) (fun hb5 => ?_)
  · rw [b01_eq] at hb5
    refine Ev.iconst d_Mo_unlike_16 ?_
    exact Ev.to (Ev.ireturn d_Mo_unlike_17 rfl) (ri (by rw [sp_unlike, if_neg (by omega)])) rfl
  · rw [b01_ne] at hb5
    obtain ⟨hPM, g4⟩ := hS.2.2 p (by omega) (by omega)
    have g1 := hPM.1
    have k1 := g4.1
    refine Ev.aload_n d_Mo_unlike_8 rfl ?_
    refine Ev.iload_n d_Mo_unlike_9 rfl ?_
    refine Ev.callV d_Mo_unlike_10 mt_Mo_is lk_Mo_117 in_Mo_is se_Mo_is rfl (Nat.le_of_ble_eq_true rfl) rfl (Nat.le_of_ble_eq_true rfl) (by decide) (is_57 hM) (by decide) rfl rfl (c_Mo_is hM (by omega) (by omega)) ?_
    refine Ev.if_ne (tgt := 18) d_Mo_unlike_13 rfl b01_b (fun hb13 => ?_) (fun hb13 => ?_)
    · rw [b01_ne] at hb13
      obtain ⟨hPM2, g42⟩ := hS.2.2 q (by omega) (by omega)
      have g12 := hPM2.1
      have k12 := g42.1
      refine Ev.aload_n d_Mo_unlike_18 rfl ?_
      refine Ev.gr 1 d_Mo_unlike_19 lf_Mo_7 rfl rfl (is_57 hM) (by decide) (rf_57_1 hM) ?_
      refine Ev.iload_n d_Mo_unlike_22 rfl ?_
      refine Ev.iaload d_Mo_unlike_23 (is_58 hM) (by first | omega | (simp [mu]; done) | (simp [mu]; omega)) ?_
      refine Ev.aload_n d_Mo_unlike_24 rfl ?_
      refine Ev.gr 1 d_Mo_unlike_25 lf_Mo_7 rfl rfl (is_57 hM) (by decide) (rf_57_1 hM) ?_
      refine Ev.iload_n d_Mo_unlike_28 rfl ?_
      refine Ev.iaload d_Mo_unlike_29 (is_58 hM) (by first | omega | (simp [mu]; done) | (simp [mu]; omega)) ?_
      refine Ev.icmp_eq (tgt := 64) d_Mo_unlike_30 rfl (by first | omega | (simp [mu]; done) | (simp [mu]; omega)) (by first | omega | (simp [mu]; done) | (simp [mu]; omega)) (fun hb30 => ?_) (fun hb30 => ?_)
      · refine Ev.iconst d_Mo_unlike_64 ?_
        refine Ev.istore_3 d_Mo_unlike_65 rfl ?_
        have hdd : S.2.1 p = S.2.1 q := by omega
        rw [← hdd] at hPM2 g42
        exact Ev.to (lp_Mo_unlike hM (by omega) (by omega) hPM g4 hPM2 g42 (S.2.1 p).toNat 0 (by omega) (by omega)) (ri (by rw [sp_unlike, if_pos (by omega), if_pos hdd])) rfl
      · refine Ev.aload_n d_Mo_unlike_33 rfl ?_
        refine Ev.gr 1 d_Mo_unlike_34 lf_Mo_7 rfl rfl (is_57 hM) (by decide) (rf_57_1 hM) ?_
        refine Ev.iload_n d_Mo_unlike_37 rfl ?_
        refine Ev.iaload d_Mo_unlike_38 (is_58 hM) (by first | omega | (simp [mu]; done) | (simp [mu]; omega)) ?_
        refine Ev.aload_n d_Mo_unlike_39 rfl ?_
        refine Ev.gr 1 d_Mo_unlike_40 lf_Mo_7 rfl rfl (is_57 hM) (by decide) (rf_57_1 hM) ?_
        refine Ev.iload_n d_Mo_unlike_43 rfl ?_
        refine Ev.iaload d_Mo_unlike_44 (is_58 hM) (by first | omega | (simp [mu]; done) | (simp [mu]; omega)) ?_
        refine Ev.icmp_ge (tgt := 57) d_Mo_unlike_45 rfl (by first | omega | (simp [mu]; done) | (simp [mu]; omega)) (by first | omega | (simp [mu]; done) | (simp [mu]; omega)) (fun hb45 => ?_) (fun hb45 => ?_)
        · refine Ev.aload_n d_Mo_unlike_57 rfl ?_
          refine Ev.gr 1 d_Mo_unlike_58 lf_Mo_7 rfl rfl (is_57 hM) (by decide) (rf_57_1 hM) ?_
          refine Ev.iload_n d_Mo_unlike_61 rfl ?_
          refine Ev.iaload d_Mo_unlike_62 (is_58 hM) (by first | omega | (simp [mu]; done) | (simp [mu]; omega)) ?_
          exact Ev.to (Ev.ireturn d_Mo_unlike_63 rfl) (ri (by rw [sp_unlike, if_pos (by omega), if_neg (by omega)]; first | rw [if_pos (by omega)]; exact g1 | rw [if_neg (by omega)]; exact g12)) rfl
        · refine Ev.aload_n d_Mo_unlike_48 rfl ?_
          refine Ev.gr 1 d_Mo_unlike_49 lf_Mo_7 rfl rfl (is_57 hM) (by decide) (rf_57_1 hM) ?_
          refine Ev.iload_n d_Mo_unlike_52 rfl ?_
          refine Ev.iaload d_Mo_unlike_53 (is_58 hM) (by first | omega | (simp [mu]; done) | (simp [mu]; omega)) ?_
          refine Ev.goto (tgt := 63) d_Mo_unlike_54 rfl ?_
          exact Ev.to (Ev.ireturn d_Mo_unlike_63 rfl) (ri (by rw [sp_unlike, if_pos (by omega), if_neg (by omega)]; first | rw [if_pos (by omega)]; exact g1 | rw [if_neg (by omega)]; exact g12)) rfl
    · rw [b01_eq] at hb13
      refine Ev.iconst d_Mo_unlike_16 ?_
      exact Ev.to (Ev.ireturn d_Mo_unlike_17 rfl) (ri (by rw [sp_unlike, if_neg (by omega)])) rfl
end
