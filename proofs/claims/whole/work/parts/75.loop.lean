/-! THE LAW: every answer of both is one -/
abbrev m_law : Md := (⟨"FloorCurvesLaw", "law", "([I)Z"⟩, code, 4, some .boolean)
section
variable {σ : Sg} {m : Mm} {L : Int} {xs : Int → Int}
theorem lp_law (hL : 0 ≤ L ∧ L ≤ 3072) (hxs : ∀ j, -2147483648 ≤ xs j ∧ xs j ≤ 2147483647) : ∀ (q : Nat) (i : Int) (σ : Sg) (m : Mm), 0 ≤ i → i ≤ 4000 → L - 6 < i + 6 * q → Inv L xs σ m → ∃ σ' m', Ev 2048 m_law 18 [some (vr 0), some (vr 3), some (vr 57), some (vi i)] [] σ m (some (vi 1)) σ' m' ∧ σ'.1 ≤ 600000 ∧ σ'.2.1 ≤ 7302250
  | 0, i, σ, m, h0, hi, hq, I => by
    have hW := I.1
    have hc : 0 ≤ cnt σ ∧ cnt σ ≤ 4 := by
      have a1 := c1_b σ 1
      have a2 := c1_b σ 2
      have a3 := c1_b σ 3
      have a4 := c1_b σ 4
      unfold cnt; omega
    have hb1 := hW.2.2.2.2.1
    have hb2 := hW.2.2.2.2.2
    refine ⟨σ, m, ?_, by omega, by omega⟩
    refine Ev.iload_n d_Law_law_18 rfl ?_
    refine Ev.aload_n d_Law_law_19 rfl ?_
    refine Ev.arraylength d_Law_law_20 (by first | exact hW.2.2.1 | exact hW1.2.2.1) (by decide) ?_
    refine Ev.bipush d_Law_law_21 rfl ?_
    refine Ev.isub d_Law_law_23 ?_
    refine Ev.icmp_gt (tgt := 1145) d_Law_law_24 rfl (by first | omega | (simp [mu]; done) | (simp [mu]; omega)) (by first | omega | (simp [mu]; done) | (simp [mu]; omega)) (fun hb24 => ?_) (fun hb24 => by exfalso; first | omega | simp at hb24 | contradiction)
    refine Ev.iconst d_Law_law_1145 ?_
    exact Ev.to (Ev.zreturn d_Law_law_1146 rfl (by first | omega | exact b01_01)) rfl rfl
  | q + 1, i, σ, m, h0, hi, hq, I => by
    have hW := I.1
    have hB := I.2.1
    by_cases hend : L - 6 < i
    · have hc : 0 ≤ cnt σ ∧ cnt σ ≤ 4 := by
        have a1 := c1_b σ 1
        have a2 := c1_b σ 2
        have a3 := c1_b σ 3
        have a4 := c1_b σ 4
        unfold cnt; omega
      have hb1 := hW.2.2.2.2.1
      have hb2 := hW.2.2.2.2.2
      refine ⟨σ, m, ?_, by omega, by omega⟩
      refine Ev.iload_n d_Law_law_18 rfl ?_
      refine Ev.aload_n d_Law_law_19 rfl ?_
      refine Ev.arraylength d_Law_law_20 (by first | exact hW.2.2.1 | exact hW1.2.2.1) (by decide) ?_
      refine Ev.bipush d_Law_law_21 rfl ?_
      refine Ev.isub d_Law_law_23 ?_
      refine Ev.icmp_gt (tgt := 1145) d_Law_law_24 rfl (by first | omega | (simp [mu]; done) | (simp [mu]; omega)) (by first | omega | (simp [mu]; done) | (simp [mu]; omega)) (fun hb24 => ?_) (fun hb24 => by exfalso; first | omega | simp at hb24 | contradiction)
      refine Ev.iconst d_Law_law_1145 ?_
      exact Ev.to (Ev.zreturn d_Law_law_1146 rfl (by first | omega | exact b01_01)) rfl rfl
    have x0 := hB.1 i (by omega) (by omega)
    have x1 := hB.1 (i + 1) (by omega) (by omega)
    have x2 := hB.1 (i + 2) (by omega) (by omega)
    have x3 := hB.1 (i + 3) (by omega) (by omega)
    have x4 := hB.1 (i + 4) (by omega) (by omega)
    have x5 := hB.1 (i + 5) (by omega) (by omega)
    have hxb : 0 ≤ xs i % 2 ^ 5 ∧ xs i % 2 ^ 5 < 32 := by omega
    generalize hx : xs i % 2 ^ 5 = x at hxb
    have z1 := hxs (i + 1)
    have z2 := hxs (i + 2)
    rcases (show (x < 0 ∨ 28 < x) ∨ x = 0 ∨ x = 1 ∨ x = 2 ∨ x = 3 ∨ x = 4 ∨ x = 5 ∨ x = 6 ∨ x = 7 ∨ x = 8 ∨ x = 9 ∨ x = 10 ∨ x = 11 ∨ x = 12 ∨ x = 13 ∨ x = 14 ∨ x = 15 ∨ x = 16 ∨ x = 17 ∨ x = 18 ∨ x = 19 ∨ x = 20 ∨ x = 21 ∨ x = 22 ∨ x = 23 ∨ x = 24 ∨ x = 25 ∨ x = 26 ∨ x = 27 ∨ x = 28 by omega) with hsw | rfl | rfl | rfl | rfl | rfl | rfl | rfl | rfl | rfl | rfl | rfl | rfl | rfl | rfl | rfl | rfl | rfl | rfl | rfl | rfl | rfl | rfl | rfl | rfl | rfl | rfl | rfl | rfl | rfl
    · obtain ⟨σF, mF, g1, g2⟩ := lp_law hL hxs q (i + 6) σ m (by omega) (by omega) (by omega) I
      refine ⟨σF, mF, ?_, g2⟩
      refine Ev.iload_n d_Law_law_18 rfl ?_
      refine Ev.aload_n d_Law_law_19 rfl ?_
      refine Ev.arraylength d_Law_law_20 (by first | exact hW.2.2.1 | exact hW1.2.2.1) (by decide) ?_
      refine Ev.bipush d_Law_law_21 rfl ?_
      refine Ev.isub d_Law_law_23 ?_
      refine Ev.icmp_gt (tgt := 1145) d_Law_law_24 rfl (by first | omega | (simp [mu]; done) | (simp [mu]; omega)) (by first | omega | (simp [mu]; done) | (simp [mu]; omega)) (fun hb24 => by exfalso; first | omega | simp at hb24 | contradiction) (fun hb24 => ?_)
      refine Ev.aload_n d_Law_law_27 rfl ?_
      refine Ev.iload_n d_Law_law_28 rfl ?_
      refine Ev.iaload d_Law_law_29 (by first | exact hW.2.2.1 | exact hW1.2.2.1) (by first | omega | (simp [mu]; done) | (simp [mu]; omega)) ?_
      rw [x0]
      refine Ev.bipush d_Law_law_30 rfl ?_
      refine Ev.iandm 5 d_Law_law_32 (by decide) rfl ?_
      rw [hx]
      refine Ev.tableOut (tgt := 1139) d_Law_law_33 (by omega) hsw rfl ?_
      refine Ev.iinc_3 d_Law_law_1139 rfl ?_
      refine Ev.goto (tgt := 18) d_Law_law_1142 rfl ?_
      exact g1
    · obtain ⟨vv, σ1, m1, m2, q1, k1, hW1, hB1, I2⟩ := op_picture I (hxs (i + 1))
      have y1 := hB1.1 (i + 1) (by omega) (by omega)
      obtain ⟨σF, mF, g1, g2⟩ := lp_law hL hxs q (i + 6) σ1 m2 (by omega) (by omega) (by omega) I2
      refine ⟨σF, mF, ?_, g2⟩
      refine Ev.iload_n d_Law_law_18 rfl ?_
      refine Ev.aload_n d_Law_law_19 rfl ?_
      refine Ev.arraylength d_Law_law_20 (by first | exact hW.2.2.1 | exact hW1.2.2.1) (by decide) ?_
      refine Ev.bipush d_Law_law_21 rfl ?_
      refine Ev.isub d_Law_law_23 ?_
      refine Ev.icmp_gt (tgt := 1145) d_Law_law_24 rfl (by first | omega | (simp [mu]; done) | (simp [mu]; omega)) (by first | omega | (simp [mu]; done) | (simp [mu]; omega)) (fun hb24 => by exfalso; first | omega | simp at hb24 | contradiction) (fun hb24 => ?_)
      refine Ev.aload_n d_Law_law_27 rfl ?_
      refine Ev.iload_n d_Law_law_28 rfl ?_
      refine Ev.iaload d_Law_law_29 (by first | exact hW.2.2.1 | exact hW1.2.2.1) (by first | omega | (simp [mu]; done) | (simp [mu]; omega)) ?_
      rw [x0]
      refine Ev.bipush d_Law_law_30 rfl ?_
      refine Ev.iandm 5 d_Law_law_32 (by decide) rfl ?_
      rw [hx]
      refine Ev.tableIn (off := 131) (tgt := 164) d_Law_law_33 (by omega) (by omega) (by omega) rfl rfl ?_
      refine Ev.aload_n d_Law_law_164 rfl ?_
      refine Ev.aload_n d_Law_law_165 rfl ?_
      refine Ev.iload_n d_Law_law_166 rfl ?_
      refine Ev.iconst d_Law_law_167 ?_
      refine Ev.iadd d_Law_law_168 ?_
      refine Ev.iaload d_Law_law_169 (by first | exact hW.2.2.1 | exact hW1.2.2.1) (by first | omega | (simp [mu]; done) | (simp [mu]; omega)) ?_
      rw [x1]
      refine Ev.callV d_Law_law_170 mt_FC_picture lk_Law_13 in_FC_picture se_FC_picture rfl (Nat.le_of_ble_eq_true rfl) rfl (Nat.le_of_ble_eq_true rfl) (by omega) (by first | exact fi_3 hW.1 | exact fi_3 hW1.1) (by decide) rfl rfl q1 ?_
      refine Ev.aload_n d_Law_law_173 rfl ?_
      refine Ev.aload_n d_Law_law_174 rfl ?_
      refine Ev.iload_n d_Law_law_175 rfl ?_
      refine Ev.iconst d_Law_law_176 ?_
      refine Ev.iadd d_Law_law_177 ?_
      refine Ev.iaload d_Law_law_178 (by first | exact hW.2.2.1 | exact hW1.2.2.1) (by first | omega | (simp [mu]; done) | (simp [mu]; omega)) ?_
      rw [y1]
      refine Ev.callV d_Law_law_179 mt_Mo_picture lk_Law_17 in_Mo_picture se_Mo_picture rfl (Nat.le_of_ble_eq_true rfl) rfl (Nat.le_of_ble_eq_true rfl) (by omega) (by first | exact is_57 hW1.2.1 | exact is_57 hW.2.1) (by decide) rfl rfl k1 ?_
      refine Ev.icmp_eqs (tgt := 1139) d_Law_law_182 rfl ?_
      refine Ev.iinc_3 d_Law_law_1139 rfl ?_
      refine Ev.goto (tgt := 18) d_Law_law_1142 rfl ?_
      exact g1
    · obtain ⟨vv, σ1, m1, m2, q1, k1, hW1, hB1, I2⟩ := op_stair I (hxs (i + 1)) (hxs (i + 2)) (hxs (i + 3)) (hxs (i + 4))
      have y1 := hB1.1 (i + 1) (by omega) (by omega)
      have y2 := hB1.1 (i + 2) (by omega) (by omega)
      have y3 := hB1.1 (i + 3) (by omega) (by omega)
      have y4 := hB1.1 (i + 4) (by omega) (by omega)
      obtain ⟨σF, mF, g1, g2⟩ := lp_law hL hxs q (i + 6) σ1 m2 (by omega) (by omega) (by omega) I2
      refine ⟨σF, mF, ?_, g2⟩
      refine Ev.iload_n d_Law_law_18 rfl ?_
      refine Ev.aload_n d_Law_law_19 rfl ?_
      refine Ev.arraylength d_Law_law_20 (by first | exact hW.2.2.1 | exact hW1.2.2.1) (by decide) ?_
      refine Ev.bipush d_Law_law_21 rfl ?_
      refine Ev.isub d_Law_law_23 ?_
      refine Ev.icmp_gt (tgt := 1145) d_Law_law_24 rfl (by first | omega | (simp [mu]; done) | (simp [mu]; omega)) (by first | omega | (simp [mu]; done) | (simp [mu]; omega)) (fun hb24 => by exfalso; first | omega | simp at hb24 | contradiction) (fun hb24 => ?_)
      refine Ev.aload_n d_Law_law_27 rfl ?_
      refine Ev.iload_n d_Law_law_28 rfl ?_
      refine Ev.iaload d_Law_law_29 (by first | exact hW.2.2.1 | exact hW1.2.2.1) (by first | omega | (simp [mu]; done) | (simp [mu]; omega)) ?_
      rw [x0]
      refine Ev.bipush d_Law_law_30 rfl ?_
      refine Ev.iandm 5 d_Law_law_32 (by decide) rfl ?_
      rw [hx]
      refine Ev.tableIn (off := 154) (tgt := 187) d_Law_law_33 (by omega) (by omega) (by omega) rfl rfl ?_
      refine Ev.aload_n d_Law_law_187 rfl ?_
      refine Ev.aload_n d_Law_law_188 rfl ?_
      refine Ev.iload_n d_Law_law_189 rfl ?_
      refine Ev.iconst d_Law_law_190 ?_
      refine Ev.iadd d_Law_law_191 ?_
      refine Ev.iaload d_Law_law_192 (by first | exact hW.2.2.1 | exact hW1.2.2.1) (by first | omega | (simp [mu]; done) | (simp [mu]; omega)) ?_
      rw [x1]
      refine Ev.aload_n d_Law_law_193 rfl ?_
      refine Ev.iload_n d_Law_law_194 rfl ?_
      refine Ev.iconst d_Law_law_195 ?_
      refine Ev.iadd d_Law_law_196 ?_
      refine Ev.iaload d_Law_law_197 (by first | exact hW.2.2.1 | exact hW1.2.2.1) (by first | omega | (simp [mu]; done) | (simp [mu]; omega)) ?_
      rw [x2]
      refine Ev.aload_n d_Law_law_198 rfl ?_
      refine Ev.iload_n d_Law_law_199 rfl ?_
      refine Ev.iconst d_Law_law_200 ?_
      refine Ev.iadd d_Law_law_201 ?_
      refine Ev.iaload d_Law_law_202 (by first | exact hW.2.2.1 | exact hW1.2.2.1) (by first | omega | (simp [mu]; done) | (simp [mu]; omega)) ?_
      rw [x3]
      refine Ev.aload_n d_Law_law_203 rfl ?_
      refine Ev.iload_n d_Law_law_204 rfl ?_
      refine Ev.iconst d_Law_law_205 ?_
      refine Ev.iadd d_Law_law_206 ?_
      refine Ev.iaload d_Law_law_207 (by first | exact hW.2.2.1 | exact hW1.2.2.1) (by first | omega | (simp [mu]; done) | (simp [mu]; omega)) ?_
      rw [x4]
      refine Ev.callV d_Law_law_208 mt_FC_stair lk_Law_18 in_FC_stair se_FC_stair rfl (Nat.le_of_ble_eq_true rfl) rfl (Nat.le_of_ble_eq_true rfl) (by omega) (by first | exact fi_3 hW.1 | exact fi_3 hW1.1) (by decide) rfl rfl q1 ?_
      refine Ev.aload_n d_Law_law_211 rfl ?_
      refine Ev.aload_n d_Law_law_212 rfl ?_
      refine Ev.iload_n d_Law_law_213 rfl ?_
      refine Ev.iconst d_Law_law_214 ?_
      refine Ev.iadd d_Law_law_215 ?_
      refine Ev.iaload d_Law_law_216 (by first | exact hW.2.2.1 | exact hW1.2.2.1) (by first | omega | (simp [mu]; done) | (simp [mu]; omega)) ?_
      rw [y1]
      refine Ev.aload_n d_Law_law_217 rfl ?_
      refine Ev.iload_n d_Law_law_218 rfl ?_
      refine Ev.iconst d_Law_law_219 ?_
      refine Ev.iadd d_Law_law_220 ?_
      refine Ev.iaload d_Law_law_221 (by first | exact hW.2.2.1 | exact hW1.2.2.1) (by first | omega | (simp [mu]; done) | (simp [mu]; omega)) ?_
      rw [y2]
      refine Ev.aload_n d_Law_law_222 rfl ?_
      refine Ev.iload_n d_Law_law_223 rfl ?_
      refine Ev.iconst d_Law_law_224 ?_
      refine Ev.iadd d_Law_law_225 ?_
      refine Ev.iaload d_Law_law_226 (by first | exact hW.2.2.1 | exact hW1.2.2.1) (by first | omega | (simp [mu]; done) | (simp [mu]; omega)) ?_
      rw [y3]
      refine Ev.aload_n d_Law_law_227 rfl ?_
      refine Ev.iload_n d_Law_law_228 rfl ?_
      refine Ev.iconst d_Law_law_229 ?_
      refine Ev.iadd d_Law_law_230 ?_
      refine Ev.iaload d_Law_law_231 (by first | exact hW.2.2.1 | exact hW1.2.2.1) (by first | omega | (simp [mu]; done) | (simp [mu]; omega)) ?_
      rw [y4]
      refine Ev.callV d_Law_law_232 mt_Mo_stair lk_Law_22 in_Mo_stair se_Mo_stair rfl (Nat.le_of_ble_eq_true rfl) rfl (Nat.le_of_ble_eq_true rfl) (by omega) (by first | exact is_57 hW1.2.1 | exact is_57 hW.2.1) (by decide) rfl rfl k1 ?_
      refine Ev.icmp_eqs (tgt := 1139) d_Law_law_235 rfl ?_
      refine Ev.iinc_3 d_Law_law_1139 rfl ?_
      refine Ev.goto (tgt := 18) d_Law_law_1142 rfl ?_
      exact g1
    · obtain ⟨vv, σ1, m1, m2, q1, k1, hW1, hB1, I2⟩ := op_cut I (hxs (i + 1)) (hxs (i + 2)) (hxs (i + 3)) (hxs (i + 4))
      have y1 := hB1.1 (i + 1) (by omega) (by omega)
      have y2 := hB1.1 (i + 2) (by omega) (by omega)
      have y3 := hB1.1 (i + 3) (by omega) (by omega)
      have y4 := hB1.1 (i + 4) (by omega) (by omega)
      obtain ⟨σF, mF, g1, g2⟩ := lp_law hL hxs q (i + 6) σ1 m2 (by omega) (by omega) (by omega) I2
      refine ⟨σF, mF, ?_, g2⟩
      refine Ev.iload_n d_Law_law_18 rfl ?_
      refine Ev.aload_n d_Law_law_19 rfl ?_
      refine Ev.arraylength d_Law_law_20 (by first | exact hW.2.2.1 | exact hW1.2.2.1) (by decide) ?_
      refine Ev.bipush d_Law_law_21 rfl ?_
      refine Ev.isub d_Law_law_23 ?_
      refine Ev.icmp_gt (tgt := 1145) d_Law_law_24 rfl (by first | omega | (simp [mu]; done) | (simp [mu]; omega)) (by first | omega | (simp [mu]; done) | (simp [mu]; omega)) (fun hb24 => by exfalso; first | omega | simp at hb24 | contradiction) (fun hb24 => ?_)
      refine Ev.aload_n d_Law_law_27 rfl ?_
      refine Ev.iload_n d_Law_law_28 rfl ?_
      refine Ev.iaload d_Law_law_29 (by first | exact hW.2.2.1 | exact hW1.2.2.1) (by first | omega | (simp [mu]; done) | (simp [mu]; omega)) ?_
      rw [x0]
      refine Ev.bipush d_Law_law_30 rfl ?_
      refine Ev.iandm 5 d_Law_law_32 (by decide) rfl ?_
      rw [hx]
      refine Ev.tableIn (off := 207) (tgt := 240) d_Law_law_33 (by omega) (by omega) (by omega) rfl rfl ?_
      refine Ev.aload_n d_Law_law_240 rfl ?_
      refine Ev.aload_n d_Law_law_241 rfl ?_
      refine Ev.iload_n d_Law_law_242 rfl ?_
      refine Ev.iconst d_Law_law_243 ?_
      refine Ev.iadd d_Law_law_244 ?_
      refine Ev.iaload d_Law_law_245 (by first | exact hW.2.2.1 | exact hW1.2.2.1) (by first | omega | (simp [mu]; done) | (simp [mu]; omega)) ?_
      rw [x1]
      refine Ev.aload_n d_Law_law_246 rfl ?_
      refine Ev.iload_n d_Law_law_247 rfl ?_
      refine Ev.iconst d_Law_law_248 ?_
      refine Ev.iadd d_Law_law_249 ?_
      refine Ev.iaload d_Law_law_250 (by first | exact hW.2.2.1 | exact hW1.2.2.1) (by first | omega | (simp [mu]; done) | (simp [mu]; omega)) ?_
      rw [x2]
      refine Ev.aload_n d_Law_law_251 rfl ?_
      refine Ev.iload_n d_Law_law_252 rfl ?_
      refine Ev.iconst d_Law_law_253 ?_
      refine Ev.iadd d_Law_law_254 ?_
      refine Ev.iaload d_Law_law_255 (by first | exact hW.2.2.1 | exact hW1.2.2.1) (by first | omega | (simp [mu]; done) | (simp [mu]; omega)) ?_
      rw [x3]
      refine Ev.aload_n d_Law_law_256 rfl ?_
      refine Ev.iload_n d_Law_law_257 rfl ?_
      refine Ev.iconst d_Law_law_258 ?_
      refine Ev.iadd d_Law_law_259 ?_
      refine Ev.iaload d_Law_law_260 (by first | exact hW.2.2.1 | exact hW1.2.2.1) (by first | omega | (simp [mu]; done) | (simp [mu]; omega)) ?_
      rw [x4]
      refine Ev.callV d_Law_law_261 mt_FC_cut lk_Law_23 in_FC_cut se_FC_cut rfl (Nat.le_of_ble_eq_true rfl) rfl (Nat.le_of_ble_eq_true rfl) (by omega) (by first | exact fi_3 hW.1 | exact fi_3 hW1.1) (by decide) rfl rfl q1 ?_
      refine Ev.aload_n d_Law_law_264 rfl ?_
      refine Ev.aload_n d_Law_law_265 rfl ?_
      refine Ev.iload_n d_Law_law_266 rfl ?_
      refine Ev.iconst d_Law_law_267 ?_
      refine Ev.iadd d_Law_law_268 ?_
      refine Ev.iaload d_Law_law_269 (by first | exact hW.2.2.1 | exact hW1.2.2.1) (by first | omega | (simp [mu]; done) | (simp [mu]; omega)) ?_
      rw [y1]
      refine Ev.aload_n d_Law_law_270 rfl ?_
      refine Ev.iload_n d_Law_law_271 rfl ?_
      refine Ev.iconst d_Law_law_272 ?_
      refine Ev.iadd d_Law_law_273 ?_
      refine Ev.iaload d_Law_law_274 (by first | exact hW.2.2.1 | exact hW1.2.2.1) (by first | omega | (simp [mu]; done) | (simp [mu]; omega)) ?_
      rw [y2]
      refine Ev.aload_n d_Law_law_275 rfl ?_
      refine Ev.iload_n d_Law_law_276 rfl ?_
      refine Ev.iconst d_Law_law_277 ?_
      refine Ev.iadd d_Law_law_278 ?_
      refine Ev.iaload d_Law_law_279 (by first | exact hW.2.2.1 | exact hW1.2.2.1) (by first | omega | (simp [mu]; done) | (simp [mu]; omega)) ?_
      rw [y3]
      refine Ev.aload_n d_Law_law_280 rfl ?_
      refine Ev.iload_n d_Law_law_281 rfl ?_
      refine Ev.iconst d_Law_law_282 ?_
      refine Ev.iadd d_Law_law_283 ?_
      refine Ev.iaload d_Law_law_284 (by first | exact hW.2.2.1 | exact hW1.2.2.1) (by first | omega | (simp [mu]; done) | (simp [mu]; omega)) ?_
      rw [y4]
      refine Ev.callV d_Law_law_285 mt_Mo_cut lk_Law_26 in_Mo_cut se_Mo_cut rfl (Nat.le_of_ble_eq_true rfl) rfl (Nat.le_of_ble_eq_true rfl) (by omega) (by first | exact is_57 hW1.2.1 | exact is_57 hW.2.1) (by decide) rfl rfl k1 ?_
      refine Ev.icmp_eqs (tgt := 1139) d_Law_law_288 rfl ?_
      refine Ev.iinc_3 d_Law_law_1139 rfl ?_
      refine Ev.goto (tgt := 18) d_Law_law_1142 rfl ?_
      exact g1
    · obtain ⟨vv, σ1, m1, m2, q1, k1, hW1, hB1, I2⟩ := op_drop I 
      obtain ⟨σF, mF, g1, g2⟩ := lp_law hL hxs q (i + 6) σ1 m2 (by omega) (by omega) (by omega) I2
      refine ⟨σF, mF, ?_, g2⟩
      refine Ev.iload_n d_Law_law_18 rfl ?_
      refine Ev.aload_n d_Law_law_19 rfl ?_
      refine Ev.arraylength d_Law_law_20 (by first | exact hW.2.2.1 | exact hW1.2.2.1) (by decide) ?_
      refine Ev.bipush d_Law_law_21 rfl ?_
      refine Ev.isub d_Law_law_23 ?_
      refine Ev.icmp_gt (tgt := 1145) d_Law_law_24 rfl (by first | omega | (simp [mu]; done) | (simp [mu]; omega)) (by first | omega | (simp [mu]; done) | (simp [mu]; omega)) (fun hb24 => by exfalso; first | omega | simp at hb24 | contradiction) (fun hb24 => ?_)
      refine Ev.aload_n d_Law_law_27 rfl ?_
      refine Ev.iload_n d_Law_law_28 rfl ?_
      refine Ev.iaload d_Law_law_29 (by first | exact hW.2.2.1 | exact hW1.2.2.1) (by first | omega | (simp [mu]; done) | (simp [mu]; omega)) ?_
      rw [x0]
      refine Ev.bipush d_Law_law_30 rfl ?_
      refine Ev.iandm 5 d_Law_law_32 (by decide) rfl ?_
      rw [hx]
      refine Ev.tableIn (off := 260) (tgt := 293) d_Law_law_33 (by omega) (by omega) (by omega) rfl rfl ?_
      refine Ev.aload_n d_Law_law_293 rfl ?_
      refine Ev.callV d_Law_law_294 mt_FC_drop lk_Law_27 in_FC_drop se_FC_drop rfl (Nat.le_of_ble_eq_true rfl) rfl (Nat.le_of_ble_eq_true rfl) (by omega) (by first | exact fi_3 hW.1 | exact fi_3 hW1.1) (by decide) rfl rfl q1 ?_
      refine Ev.aload_n d_Law_law_297 rfl ?_
      refine Ev.callV d_Law_law_298 mt_Mo_drop lk_Law_31 in_Mo_drop se_Mo_drop rfl (Nat.le_of_ble_eq_true rfl) rfl (Nat.le_of_ble_eq_true rfl) (by omega) (by first | exact is_57 hW1.2.1 | exact is_57 hW.2.1) (by decide) rfl rfl k1 ?_
      refine Ev.icmp_eqs (tgt := 1139) d_Law_law_301 rfl ?_
      refine Ev.iinc_3 d_Law_law_1139 rfl ?_
      refine Ev.goto (tgt := 18) d_Law_law_1142 rfl ?_
      exact g1
    · obtain ⟨vv, σ1, m1, m2, q1, k1, hW1, hB1, I2⟩ := op_about I (hxs (i + 1)) (hxs (i + 2))
      have y1 := hB1.1 (i + 1) (by omega) (by omega)
      have y2 := hB1.1 (i + 2) (by omega) (by omega)
      obtain ⟨σF, mF, g1, g2⟩ := lp_law hL hxs q (i + 6) σ1 m2 (by omega) (by omega) (by omega) I2
      refine ⟨σF, mF, ?_, g2⟩
      refine Ev.iload_n d_Law_law_18 rfl ?_
      refine Ev.aload_n d_Law_law_19 rfl ?_
      refine Ev.arraylength d_Law_law_20 (by first | exact hW.2.2.1 | exact hW1.2.2.1) (by decide) ?_
      refine Ev.bipush d_Law_law_21 rfl ?_
      refine Ev.isub d_Law_law_23 ?_
      refine Ev.icmp_gt (tgt := 1145) d_Law_law_24 rfl (by first | omega | (simp [mu]; done) | (simp [mu]; omega)) (by first | omega | (simp [mu]; done) | (simp [mu]; omega)) (fun hb24 => by exfalso; first | omega | simp at hb24 | contradiction) (fun hb24 => ?_)
      refine Ev.aload_n d_Law_law_27 rfl ?_
      refine Ev.iload_n d_Law_law_28 rfl ?_
      refine Ev.iaload d_Law_law_29 (by first | exact hW.2.2.1 | exact hW1.2.2.1) (by first | omega | (simp [mu]; done) | (simp [mu]; omega)) ?_
      rw [x0]
      refine Ev.bipush d_Law_law_30 rfl ?_
      refine Ev.iandm 5 d_Law_law_32 (by decide) rfl ?_
      rw [hx]
      refine Ev.tableIn (off := 273) (tgt := 306) d_Law_law_33 (by omega) (by omega) (by omega) rfl rfl ?_
      refine Ev.aload_n d_Law_law_306 rfl ?_
      refine Ev.aload_n d_Law_law_307 rfl ?_
      refine Ev.iload_n d_Law_law_308 rfl ?_
      refine Ev.iconst d_Law_law_309 ?_
      refine Ev.iadd d_Law_law_310 ?_
      refine Ev.iaload d_Law_law_311 (by first | exact hW.2.2.1 | exact hW1.2.2.1) (by first | omega | (simp [mu]; done) | (simp [mu]; omega)) ?_
      rw [x1]
      refine Ev.aload_n d_Law_law_312 rfl ?_
      refine Ev.iload_n d_Law_law_313 rfl ?_
      refine Ev.iconst d_Law_law_314 ?_
      refine Ev.iadd d_Law_law_315 ?_
      refine Ev.iaload d_Law_law_316 (by first | exact hW.2.2.1 | exact hW1.2.2.1) (by first | omega | (simp [mu]; done) | (simp [mu]; omega)) ?_
      rw [x2]
      refine Ev.callV d_Law_law_317 mt_FC_about lk_Law_32 in_FC_about se_FC_about rfl (Nat.le_of_ble_eq_true rfl) rfl (Nat.le_of_ble_eq_true rfl) (by omega) (by first | exact fi_3 hW.1 | exact fi_3 hW1.1) (by decide) rfl rfl q1 ?_
      refine Ev.aload_n d_Law_law_320 rfl ?_
      refine Ev.aload_n d_Law_law_321 rfl ?_
      refine Ev.iload_n d_Law_law_322 rfl ?_
      refine Ev.iconst d_Law_law_323 ?_
      refine Ev.iadd d_Law_law_324 ?_
      refine Ev.iaload d_Law_law_325 (by first | exact hW.2.2.1 | exact hW1.2.2.1) (by first | omega | (simp [mu]; done) | (simp [mu]; omega)) ?_
      rw [y1]
      refine Ev.aload_n d_Law_law_326 rfl ?_
      refine Ev.iload_n d_Law_law_327 rfl ?_
      refine Ev.iconst d_Law_law_328 ?_
      refine Ev.iadd d_Law_law_329 ?_
      refine Ev.iaload d_Law_law_330 (by first | exact hW.2.2.1 | exact hW1.2.2.1) (by first | omega | (simp [mu]; done) | (simp [mu]; omega)) ?_
      rw [y2]
      refine Ev.callV d_Law_law_331 mt_Mo_about lk_Law_36 in_Mo_about se_Mo_about rfl (Nat.le_of_ble_eq_true rfl) rfl (Nat.le_of_ble_eq_true rfl) (by omega) (by first | exact is_57 hW1.2.1 | exact is_57 hW.2.1) (by decide) rfl rfl k1 ?_
      refine Ev.icmp_eqs (tgt := 1139) d_Law_law_334 rfl ?_
      refine Ev.iinc_3 d_Law_law_1139 rfl ?_
      refine Ev.goto (tgt := 18) d_Law_law_1142 rfl ?_
      exact g1
    · obtain ⟨vv, σ1, m1, m2, q1, k1, hW1, hB1, I2⟩ := op_told I (hxs (i + 1)) (hxs (i + 2)) (hxs (i + 3))
      have y1 := hB1.1 (i + 1) (by omega) (by omega)
      have y2 := hB1.1 (i + 2) (by omega) (by omega)
      have y3 := hB1.1 (i + 3) (by omega) (by omega)
      obtain ⟨σF, mF, g1, g2⟩ := lp_law hL hxs q (i + 6) σ1 m2 (by omega) (by omega) (by omega) I2
      refine ⟨σF, mF, ?_, g2⟩
      refine Ev.iload_n d_Law_law_18 rfl ?_
      refine Ev.aload_n d_Law_law_19 rfl ?_
      refine Ev.arraylength d_Law_law_20 (by first | exact hW.2.2.1 | exact hW1.2.2.1) (by decide) ?_
      refine Ev.bipush d_Law_law_21 rfl ?_
      refine Ev.isub d_Law_law_23 ?_
      refine Ev.icmp_gt (tgt := 1145) d_Law_law_24 rfl (by first | omega | (simp [mu]; done) | (simp [mu]; omega)) (by first | omega | (simp [mu]; done) | (simp [mu]; omega)) (fun hb24 => by exfalso; first | omega | simp at hb24 | contradiction) (fun hb24 => ?_)
      refine Ev.aload_n d_Law_law_27 rfl ?_
      refine Ev.iload_n d_Law_law_28 rfl ?_
      refine Ev.iaload d_Law_law_29 (by first | exact hW.2.2.1 | exact hW1.2.2.1) (by first | omega | (simp [mu]; done) | (simp [mu]; omega)) ?_
      rw [x0]
      refine Ev.bipush d_Law_law_30 rfl ?_
      refine Ev.iandm 5 d_Law_law_32 (by decide) rfl ?_
      rw [hx]
      refine Ev.tableIn (off := 306) (tgt := 339) d_Law_law_33 (by omega) (by omega) (by omega) rfl rfl ?_
      refine Ev.aload_n d_Law_law_339 rfl ?_
      refine Ev.aload_n d_Law_law_340 rfl ?_
      refine Ev.iload_n d_Law_law_341 rfl ?_
      refine Ev.iconst d_Law_law_342 ?_
      refine Ev.iadd d_Law_law_343 ?_
      refine Ev.iaload d_Law_law_344 (by first | exact hW.2.2.1 | exact hW1.2.2.1) (by first | omega | (simp [mu]; done) | (simp [mu]; omega)) ?_
      rw [x1]
      refine Ev.aload_n d_Law_law_345 rfl ?_
      refine Ev.iload_n d_Law_law_346 rfl ?_
      refine Ev.iconst d_Law_law_347 ?_
      refine Ev.iadd d_Law_law_348 ?_
      refine Ev.iaload d_Law_law_349 (by first | exact hW.2.2.1 | exact hW1.2.2.1) (by first | omega | (simp [mu]; done) | (simp [mu]; omega)) ?_
      rw [x2]
      refine Ev.aload_n d_Law_law_350 rfl ?_
      refine Ev.iload_n d_Law_law_351 rfl ?_
      refine Ev.iconst d_Law_law_352 ?_
      refine Ev.iadd d_Law_law_353 ?_
      refine Ev.iaload d_Law_law_354 (by first | exact hW.2.2.1 | exact hW1.2.2.1) (by first | omega | (simp [mu]; done) | (simp [mu]; omega)) ?_
      rw [x3]
      refine Ev.callV d_Law_law_355 mt_FC_told lk_Law_37 in_FC_told se_FC_told rfl (Nat.le_of_ble_eq_true rfl) rfl (Nat.le_of_ble_eq_true rfl) (by omega) (by first | exact fi_3 hW.1 | exact fi_3 hW1.1) (by decide) rfl rfl q1 ?_
      refine Ev.aload_n d_Law_law_358 rfl ?_
      refine Ev.aload_n d_Law_law_359 rfl ?_
      refine Ev.iload_n d_Law_law_360 rfl ?_
      refine Ev.iconst d_Law_law_361 ?_
      refine Ev.iadd d_Law_law_362 ?_
      refine Ev.iaload d_Law_law_363 (by first | exact hW.2.2.1 | exact hW1.2.2.1) (by first | omega | (simp [mu]; done) | (simp [mu]; omega)) ?_
      rw [y1]
      refine Ev.aload_n d_Law_law_364 rfl ?_
      refine Ev.iload_n d_Law_law_365 rfl ?_
      refine Ev.iconst d_Law_law_366 ?_
      refine Ev.iadd d_Law_law_367 ?_
      refine Ev.iaload d_Law_law_368 (by first | exact hW.2.2.1 | exact hW1.2.2.1) (by first | omega | (simp [mu]; done) | (simp [mu]; omega)) ?_
      rw [y2]
      refine Ev.aload_n d_Law_law_369 rfl ?_
      refine Ev.iload_n d_Law_law_370 rfl ?_
      refine Ev.iconst d_Law_law_371 ?_
      refine Ev.iadd d_Law_law_372 ?_
      refine Ev.iaload d_Law_law_373 (by first | exact hW.2.2.1 | exact hW1.2.2.1) (by first | omega | (simp [mu]; done) | (simp [mu]; omega)) ?_
      rw [y3]
      refine Ev.callV d_Law_law_374 mt_Mo_told lk_Law_41 in_Mo_told se_Mo_told rfl (Nat.le_of_ble_eq_true rfl) rfl (Nat.le_of_ble_eq_true rfl) (by omega) (by first | exact is_57 hW1.2.1 | exact is_57 hW.2.1) (by decide) rfl rfl k1 ?_
      refine Ev.icmp_eqs (tgt := 1139) d_Law_law_377 rfl ?_
      refine Ev.iinc_3 d_Law_law_1139 rfl ?_
      refine Ev.goto (tgt := 18) d_Law_law_1142 rfl ?_
      exact g1
    · obtain ⟨vv, σ1, m1, m2, q1, k1, hW1, hB1, I2⟩ := op_out I (hxs (i + 1)) (hxs (i + 2))
      have y1 := hB1.1 (i + 1) (by omega) (by omega)
      have y2 := hB1.1 (i + 2) (by omega) (by omega)
      obtain ⟨σF, mF, g1, g2⟩ := lp_law hL hxs q (i + 6) σ1 m2 (by omega) (by omega) (by omega) I2
      refine ⟨σF, mF, ?_, g2⟩
      refine Ev.iload_n d_Law_law_18 rfl ?_
      refine Ev.aload_n d_Law_law_19 rfl ?_
      refine Ev.arraylength d_Law_law_20 (by first | exact hW.2.2.1 | exact hW1.2.2.1) (by decide) ?_
      refine Ev.bipush d_Law_law_21 rfl ?_
      refine Ev.isub d_Law_law_23 ?_
      refine Ev.icmp_gt (tgt := 1145) d_Law_law_24 rfl (by first | omega | (simp [mu]; done) | (simp [mu]; omega)) (by first | omega | (simp [mu]; done) | (simp [mu]; omega)) (fun hb24 => by exfalso; first | omega | simp at hb24 | contradiction) (fun hb24 => ?_)
      refine Ev.aload_n d_Law_law_27 rfl ?_
      refine Ev.iload_n d_Law_law_28 rfl ?_
      refine Ev.iaload d_Law_law_29 (by first | exact hW.2.2.1 | exact hW1.2.2.1) (by first | omega | (simp [mu]; done) | (simp [mu]; omega)) ?_
      rw [x0]
      refine Ev.bipush d_Law_law_30 rfl ?_
      refine Ev.iandm 5 d_Law_law_32 (by decide) rfl ?_
      rw [hx]
      refine Ev.tableIn (off := 349) (tgt := 382) d_Law_law_33 (by omega) (by omega) (by omega) rfl rfl ?_
      refine Ev.aload_n d_Law_law_382 rfl ?_
      refine Ev.aload_n d_Law_law_383 rfl ?_
      refine Ev.iload_n d_Law_law_384 rfl ?_
      refine Ev.iconst d_Law_law_385 ?_
      refine Ev.iadd d_Law_law_386 ?_
      refine Ev.iaload d_Law_law_387 (by first | exact hW.2.2.1 | exact hW1.2.2.1) (by first | omega | (simp [mu]; done) | (simp [mu]; omega)) ?_
      rw [x1]
      refine Ev.aload_n d_Law_law_388 rfl ?_
      refine Ev.iload_n d_Law_law_389 rfl ?_
      refine Ev.iconst d_Law_law_390 ?_
      refine Ev.iadd d_Law_law_391 ?_
      refine Ev.iaload d_Law_law_392 (by first | exact hW.2.2.1 | exact hW1.2.2.1) (by first | omega | (simp [mu]; done) | (simp [mu]; omega)) ?_
      rw [x2]
      refine Ev.callV d_Law_law_393 mt_FC_out lk_Law_42 in_FC_out se_FC_out rfl (Nat.le_of_ble_eq_true rfl) rfl (Nat.le_of_ble_eq_true rfl) (by omega) (by first | exact fi_3 hW.1 | exact fi_3 hW1.1) (by decide) rfl rfl q1 ?_
      refine Ev.aload_n d_Law_law_396 rfl ?_
      refine Ev.aload_n d_Law_law_397 rfl ?_
      refine Ev.iload_n d_Law_law_398 rfl ?_
      refine Ev.iconst d_Law_law_399 ?_
      refine Ev.iadd d_Law_law_400 ?_
      refine Ev.iaload d_Law_law_401 (by first | exact hW.2.2.1 | exact hW1.2.2.1) (by first | omega | (simp [mu]; done) | (simp [mu]; omega)) ?_
      rw [y1]
      refine Ev.aload_n d_Law_law_402 rfl ?_
      refine Ev.iload_n d_Law_law_403 rfl ?_
      refine Ev.iconst d_Law_law_404 ?_
      refine Ev.iadd d_Law_law_405 ?_
      refine Ev.iaload d_Law_law_406 (by first | exact hW.2.2.1 | exact hW1.2.2.1) (by first | omega | (simp [mu]; done) | (simp [mu]; omega)) ?_
      rw [y2]
      refine Ev.callV d_Law_law_407 mt_Mo_out lk_Law_45 in_Mo_out se_Mo_out rfl (Nat.le_of_ble_eq_true rfl) rfl (Nat.le_of_ble_eq_true rfl) (by omega) (by first | exact is_57 hW1.2.1 | exact is_57 hW.2.1) (by decide) rfl rfl k1 ?_
      refine Ev.icmp_eqs (tgt := 1139) d_Law_law_410 rfl ?_
      refine Ev.iinc_3 d_Law_law_1139 rfl ?_
      refine Ev.goto (tgt := 18) d_Law_law_1142 rfl ?_
      exact g1
    · obtain ⟨vv, σ1, m1, m2, q1, k1, hW1, hB1, I2⟩ := op_spread I (hxs (i + 1)) (hxs (i + 2))
      have y1 := hB1.1 (i + 1) (by omega) (by omega)
      have y2 := hB1.1 (i + 2) (by omega) (by omega)
      obtain ⟨σF, mF, g1, g2⟩ := lp_law hL hxs q (i + 6) σ1 m2 (by omega) (by omega) (by omega) I2
      refine ⟨σF, mF, ?_, g2⟩
      refine Ev.iload_n d_Law_law_18 rfl ?_
      refine Ev.aload_n d_Law_law_19 rfl ?_
      refine Ev.arraylength d_Law_law_20 (by first | exact hW.2.2.1 | exact hW1.2.2.1) (by decide) ?_
      refine Ev.bipush d_Law_law_21 rfl ?_
      refine Ev.isub d_Law_law_23 ?_
      refine Ev.icmp_gt (tgt := 1145) d_Law_law_24 rfl (by first | omega | (simp [mu]; done) | (simp [mu]; omega)) (by first | omega | (simp [mu]; done) | (simp [mu]; omega)) (fun hb24 => by exfalso; first | omega | simp at hb24 | contradiction) (fun hb24 => ?_)
      refine Ev.aload_n d_Law_law_27 rfl ?_
      refine Ev.iload_n d_Law_law_28 rfl ?_
      refine Ev.iaload d_Law_law_29 (by first | exact hW.2.2.1 | exact hW1.2.2.1) (by first | omega | (simp [mu]; done) | (simp [mu]; omega)) ?_
      rw [x0]
      refine Ev.bipush d_Law_law_30 rfl ?_
      refine Ev.iandm 5 d_Law_law_32 (by decide) rfl ?_
      rw [hx]
      refine Ev.tableIn (off := 382) (tgt := 415) d_Law_law_33 (by omega) (by omega) (by omega) rfl rfl ?_
      refine Ev.aload_n d_Law_law_415 rfl ?_
      refine Ev.aload_n d_Law_law_416 rfl ?_
      refine Ev.iload_n d_Law_law_417 rfl ?_
      refine Ev.iconst d_Law_law_418 ?_
      refine Ev.iadd d_Law_law_419 ?_
      refine Ev.iaload d_Law_law_420 (by first | exact hW.2.2.1 | exact hW1.2.2.1) (by first | omega | (simp [mu]; done) | (simp [mu]; omega)) ?_
      rw [x1]
      refine Ev.aload_n d_Law_law_421 rfl ?_
      refine Ev.iload_n d_Law_law_422 rfl ?_
      refine Ev.iconst d_Law_law_423 ?_
      refine Ev.iadd d_Law_law_424 ?_
      refine Ev.iaload d_Law_law_425 (by first | exact hW.2.2.1 | exact hW1.2.2.1) (by first | omega | (simp [mu]; done) | (simp [mu]; omega)) ?_
      rw [x2]
      refine Ev.callV d_Law_law_426 mt_FC_spread lk_Law_46 in_FC_spread se_FC_spread rfl (Nat.le_of_ble_eq_true rfl) rfl (Nat.le_of_ble_eq_true rfl) (by omega) (by first | exact fi_3 hW.1 | exact fi_3 hW1.1) (by decide) rfl rfl q1 ?_
      refine Ev.aload_n d_Law_law_429 rfl ?_
      refine Ev.aload_n d_Law_law_430 rfl ?_
      refine Ev.iload_n d_Law_law_431 rfl ?_
      refine Ev.iconst d_Law_law_432 ?_
      refine Ev.iadd d_Law_law_433 ?_
      refine Ev.iaload d_Law_law_434 (by first | exact hW.2.2.1 | exact hW1.2.2.1) (by first | omega | (simp [mu]; done) | (simp [mu]; omega)) ?_
      rw [y1]
      refine Ev.aload_n d_Law_law_435 rfl ?_
      refine Ev.iload_n d_Law_law_436 rfl ?_
      refine Ev.iconst d_Law_law_437 ?_
      refine Ev.iadd d_Law_law_438 ?_
      refine Ev.iaload d_Law_law_439 (by first | exact hW.2.2.1 | exact hW1.2.2.1) (by first | omega | (simp [mu]; done) | (simp [mu]; omega)) ?_
      rw [y2]
      refine Ev.callV d_Law_law_440 mt_Mo_spread lk_Law_50 in_Mo_spread se_Mo_spread rfl (Nat.le_of_ble_eq_true rfl) rfl (Nat.le_of_ble_eq_true rfl) (by omega) (by first | exact is_57 hW1.2.1 | exact is_57 hW.2.1) (by decide) rfl rfl k1 ?_
      refine Ev.lcmps d_Law_law_443 ?_
      refine Ev.if_eq (tgt := 1139) d_Law_law_444 rfl (by first | omega | (simp [mu]; done) | (simp [mu]; omega)) (fun hb444 => ?_) (fun hb444 => by exfalso; first | omega | simp at hb444 | contradiction)
      refine Ev.iinc_3 d_Law_law_1139 rfl ?_
      refine Ev.goto (tgt := 18) d_Law_law_1142 rfl ?_
      exact g1
    · obtain ⟨vv, σ1, m1, m2, q1, k1, hW1, hB1, I2⟩ := op_markings I (hxs (i + 1))
      have y1 := hB1.1 (i + 1) (by omega) (by omega)
      obtain ⟨σF, mF, g1, g2⟩ := lp_law hL hxs q (i + 6) σ1 m2 (by omega) (by omega) (by omega) I2
      refine ⟨σF, mF, ?_, g2⟩
      refine Ev.iload_n d_Law_law_18 rfl ?_
      refine Ev.aload_n d_Law_law_19 rfl ?_
      refine Ev.arraylength d_Law_law_20 (by first | exact hW.2.2.1 | exact hW1.2.2.1) (by decide) ?_
      refine Ev.bipush d_Law_law_21 rfl ?_
      refine Ev.isub d_Law_law_23 ?_
      refine Ev.icmp_gt (tgt := 1145) d_Law_law_24 rfl (by first | omega | (simp [mu]; done) | (simp [mu]; omega)) (by first | omega | (simp [mu]; done) | (simp [mu]; omega)) (fun hb24 => by exfalso; first | omega | simp at hb24 | contradiction) (fun hb24 => ?_)
      refine Ev.aload_n d_Law_law_27 rfl ?_
      refine Ev.iload_n d_Law_law_28 rfl ?_
      refine Ev.iaload d_Law_law_29 (by first | exact hW.2.2.1 | exact hW1.2.2.1) (by first | omega | (simp [mu]; done) | (simp [mu]; omega)) ?_
      rw [x0]
      refine Ev.bipush d_Law_law_30 rfl ?_
      refine Ev.iandm 5 d_Law_law_32 (by decide) rfl ?_
      rw [hx]
      refine Ev.tableIn (off := 416) (tgt := 449) d_Law_law_33 (by omega) (by omega) (by omega) rfl rfl ?_
      refine Ev.aload_n d_Law_law_449 rfl ?_
      refine Ev.aload_n d_Law_law_450 rfl ?_
      refine Ev.iload_n d_Law_law_451 rfl ?_
      refine Ev.iconst d_Law_law_452 ?_
      refine Ev.iadd d_Law_law_453 ?_
      refine Ev.iaload d_Law_law_454 (by first | exact hW.2.2.1 | exact hW1.2.2.1) (by first | omega | (simp [mu]; done) | (simp [mu]; omega)) ?_
      rw [x1]
      refine Ev.callV d_Law_law_455 mt_FC_markings lk_Law_51 in_FC_markings se_FC_markings rfl (Nat.le_of_ble_eq_true rfl) rfl (Nat.le_of_ble_eq_true rfl) (by omega) (by first | exact fi_3 hW.1 | exact fi_3 hW1.1) (by decide) rfl rfl q1 ?_
      refine Ev.aload_n d_Law_law_458 rfl ?_
      refine Ev.aload_n d_Law_law_459 rfl ?_
      refine Ev.iload_n d_Law_law_460 rfl ?_
      refine Ev.iconst d_Law_law_461 ?_
      refine Ev.iadd d_Law_law_462 ?_
      refine Ev.iaload d_Law_law_463 (by first | exact hW.2.2.1 | exact hW1.2.2.1) (by first | omega | (simp [mu]; done) | (simp [mu]; omega)) ?_
      rw [y1]
      refine Ev.callV d_Law_law_464 mt_Mo_markings lk_Law_55 in_Mo_markings se_Mo_markings rfl (Nat.le_of_ble_eq_true rfl) rfl (Nat.le_of_ble_eq_true rfl) (by omega) (by first | exact is_57 hW1.2.1 | exact is_57 hW.2.1) (by decide) rfl rfl k1 ?_
      refine Ev.lcmps d_Law_law_467 ?_
      refine Ev.if_eq (tgt := 1139) d_Law_law_468 rfl (by first | omega | (simp [mu]; done) | (simp [mu]; omega)) (fun hb468 => ?_) (fun hb468 => by exfalso; first | omega | simp at hb468 | contradiction)
      refine Ev.iinc_3 d_Law_law_1139 rfl ?_
      refine Ev.goto (tgt := 18) d_Law_law_1142 rfl ?_
      exact g1
    · obtain ⟨vv, σ1, m1, m2, q1, k1, hW1, hB1, I2⟩ := op_between I (hxs (i + 1)) (hxs (i + 2)) (hxs (i + 3))
      have y1 := hB1.1 (i + 1) (by omega) (by omega)
      have y2 := hB1.1 (i + 2) (by omega) (by omega)
      have y3 := hB1.1 (i + 3) (by omega) (by omega)
      obtain ⟨σF, mF, g1, g2⟩ := lp_law hL hxs q (i + 6) σ1 m2 (by omega) (by omega) (by omega) I2
      refine ⟨σF, mF, ?_, g2⟩
      refine Ev.iload_n d_Law_law_18 rfl ?_
      refine Ev.aload_n d_Law_law_19 rfl ?_
      refine Ev.arraylength d_Law_law_20 (by first | exact hW.2.2.1 | exact hW1.2.2.1) (by decide) ?_
      refine Ev.bipush d_Law_law_21 rfl ?_
      refine Ev.isub d_Law_law_23 ?_
      refine Ev.icmp_gt (tgt := 1145) d_Law_law_24 rfl (by first | omega | (simp [mu]; done) | (simp [mu]; omega)) (by first | omega | (simp [mu]; done) | (simp [mu]; omega)) (fun hb24 => by exfalso; first | omega | simp at hb24 | contradiction) (fun hb24 => ?_)
      refine Ev.aload_n d_Law_law_27 rfl ?_
      refine Ev.iload_n d_Law_law_28 rfl ?_
      refine Ev.iaload d_Law_law_29 (by first | exact hW.2.2.1 | exact hW1.2.2.1) (by first | omega | (simp [mu]; done) | (simp [mu]; omega)) ?_
      rw [x0]
      refine Ev.bipush d_Law_law_30 rfl ?_
      refine Ev.iandm 5 d_Law_law_32 (by decide) rfl ?_
      rw [hx]
      refine Ev.tableIn (off := 440) (tgt := 473) d_Law_law_33 (by omega) (by omega) (by omega) rfl rfl ?_
      refine Ev.aload_n d_Law_law_473 rfl ?_
      refine Ev.aload_n d_Law_law_474 rfl ?_
      refine Ev.iload_n d_Law_law_475 rfl ?_
      refine Ev.iconst d_Law_law_476 ?_
      refine Ev.iadd d_Law_law_477 ?_
      refine Ev.iaload d_Law_law_478 (by first | exact hW.2.2.1 | exact hW1.2.2.1) (by first | omega | (simp [mu]; done) | (simp [mu]; omega)) ?_
      rw [x1]
      refine Ev.aload_n d_Law_law_479 rfl ?_
      refine Ev.iload_n d_Law_law_480 rfl ?_
      refine Ev.iconst d_Law_law_481 ?_
      refine Ev.iadd d_Law_law_482 ?_
      refine Ev.iaload d_Law_law_483 (by first | exact hW.2.2.1 | exact hW1.2.2.1) (by first | omega | (simp [mu]; done) | (simp [mu]; omega)) ?_
      rw [x2]
      refine Ev.aload_n d_Law_law_484 rfl ?_
      refine Ev.iload_n d_Law_law_485 rfl ?_
      refine Ev.iconst d_Law_law_486 ?_
      refine Ev.iadd d_Law_law_487 ?_
      refine Ev.iaload d_Law_law_488 (by first | exact hW.2.2.1 | exact hW1.2.2.1) (by first | omega | (simp [mu]; done) | (simp [mu]; omega)) ?_
      rw [x3]
      refine Ev.callV d_Law_law_489 mt_FC_between lk_Law_56 in_FC_between se_FC_between rfl (Nat.le_of_ble_eq_true rfl) rfl (Nat.le_of_ble_eq_true rfl) (by omega) (by first | exact fi_3 hW.1 | exact fi_3 hW1.1) (by decide) rfl rfl q1 ?_
      refine Ev.aload_n d_Law_law_492 rfl ?_
      refine Ev.aload_n d_Law_law_493 rfl ?_
      refine Ev.iload_n d_Law_law_494 rfl ?_
      refine Ev.iconst d_Law_law_495 ?_
      refine Ev.iadd d_Law_law_496 ?_
      refine Ev.iaload d_Law_law_497 (by first | exact hW.2.2.1 | exact hW1.2.2.1) (by first | omega | (simp [mu]; done) | (simp [mu]; omega)) ?_
      rw [y1]
      refine Ev.aload_n d_Law_law_498 rfl ?_
      refine Ev.iload_n d_Law_law_499 rfl ?_
      refine Ev.iconst d_Law_law_500 ?_
      refine Ev.iadd d_Law_law_501 ?_
      refine Ev.iaload d_Law_law_502 (by first | exact hW.2.2.1 | exact hW1.2.2.1) (by first | omega | (simp [mu]; done) | (simp [mu]; omega)) ?_
      rw [y2]
      refine Ev.aload_n d_Law_law_503 rfl ?_
      refine Ev.iload_n d_Law_law_504 rfl ?_
      refine Ev.iconst d_Law_law_505 ?_
      refine Ev.iadd d_Law_law_506 ?_
      refine Ev.iaload d_Law_law_507 (by first | exact hW.2.2.1 | exact hW1.2.2.1) (by first | omega | (simp [mu]; done) | (simp [mu]; omega)) ?_
      rw [y3]
      refine Ev.callV d_Law_law_508 mt_Mo_between lk_Law_60 in_Mo_between se_Mo_between rfl (Nat.le_of_ble_eq_true rfl) rfl (Nat.le_of_ble_eq_true rfl) (by omega) (by first | exact is_57 hW1.2.1 | exact is_57 hW.2.1) (by decide) rfl rfl k1 ?_
      refine Ev.lcmps d_Law_law_511 ?_
      refine Ev.if_eq (tgt := 1139) d_Law_law_512 rfl (by first | omega | (simp [mu]; done) | (simp [mu]; omega)) (fun hb512 => ?_) (fun hb512 => by exfalso; first | omega | simp at hb512 | contradiction)
      refine Ev.iinc_3 d_Law_law_1139 rfl ?_
      refine Ev.goto (tgt := 18) d_Law_law_1142 rfl ?_
      exact g1
    · obtain ⟨vv, σ1, m1, m2, q1, k1, hW1, hB1, I2⟩ := op_unlike I (hxs (i + 1)) (hxs (i + 2))
      have y1 := hB1.1 (i + 1) (by omega) (by omega)
      have y2 := hB1.1 (i + 2) (by omega) (by omega)
      obtain ⟨σF, mF, g1, g2⟩ := lp_law hL hxs q (i + 6) σ1 m2 (by omega) (by omega) (by omega) I2
      refine ⟨σF, mF, ?_, g2⟩
      refine Ev.iload_n d_Law_law_18 rfl ?_
      refine Ev.aload_n d_Law_law_19 rfl ?_
      refine Ev.arraylength d_Law_law_20 (by first | exact hW.2.2.1 | exact hW1.2.2.1) (by decide) ?_
      refine Ev.bipush d_Law_law_21 rfl ?_
      refine Ev.isub d_Law_law_23 ?_
      refine Ev.icmp_gt (tgt := 1145) d_Law_law_24 rfl (by first | omega | (simp [mu]; done) | (simp [mu]; omega)) (by first | omega | (simp [mu]; done) | (simp [mu]; omega)) (fun hb24 => by exfalso; first | omega | simp at hb24 | contradiction) (fun hb24 => ?_)
      refine Ev.aload_n d_Law_law_27 rfl ?_
      refine Ev.iload_n d_Law_law_28 rfl ?_
      refine Ev.iaload d_Law_law_29 (by first | exact hW.2.2.1 | exact hW1.2.2.1) (by first | omega | (simp [mu]; done) | (simp [mu]; omega)) ?_
      rw [x0]
      refine Ev.bipush d_Law_law_30 rfl ?_
      refine Ev.iandm 5 d_Law_law_32 (by decide) rfl ?_
      rw [hx]
      refine Ev.tableIn (off := 484) (tgt := 517) d_Law_law_33 (by omega) (by omega) (by omega) rfl rfl ?_
      refine Ev.aload_n d_Law_law_517 rfl ?_
      refine Ev.aload_n d_Law_law_518 rfl ?_
      refine Ev.iload_n d_Law_law_519 rfl ?_
      refine Ev.iconst d_Law_law_520 ?_
      refine Ev.iadd d_Law_law_521 ?_
      refine Ev.iaload d_Law_law_522 (by first | exact hW.2.2.1 | exact hW1.2.2.1) (by first | omega | (simp [mu]; done) | (simp [mu]; omega)) ?_
      rw [x1]
      refine Ev.aload_n d_Law_law_523 rfl ?_
      refine Ev.iload_n d_Law_law_524 rfl ?_
      refine Ev.iconst d_Law_law_525 ?_
      refine Ev.iadd d_Law_law_526 ?_
      refine Ev.iaload d_Law_law_527 (by first | exact hW.2.2.1 | exact hW1.2.2.1) (by first | omega | (simp [mu]; done) | (simp [mu]; omega)) ?_
      rw [x2]
      refine Ev.callV d_Law_law_528 mt_FC_unlike lk_Law_61 in_FC_unlike se_FC_unlike rfl (Nat.le_of_ble_eq_true rfl) rfl (Nat.le_of_ble_eq_true rfl) (by omega) (by first | exact fi_3 hW.1 | exact fi_3 hW1.1) (by decide) rfl rfl q1 ?_
      refine Ev.aload_n d_Law_law_531 rfl ?_
      refine Ev.aload_n d_Law_law_532 rfl ?_
      refine Ev.iload_n d_Law_law_533 rfl ?_
      refine Ev.iconst d_Law_law_534 ?_
      refine Ev.iadd d_Law_law_535 ?_
      refine Ev.iaload d_Law_law_536 (by first | exact hW.2.2.1 | exact hW1.2.2.1) (by first | omega | (simp [mu]; done) | (simp [mu]; omega)) ?_
      rw [y1]
      refine Ev.aload_n d_Law_law_537 rfl ?_
      refine Ev.iload_n d_Law_law_538 rfl ?_
      refine Ev.iconst d_Law_law_539 ?_
      refine Ev.iadd d_Law_law_540 ?_
      refine Ev.iaload d_Law_law_541 (by first | exact hW.2.2.1 | exact hW1.2.2.1) (by first | omega | (simp [mu]; done) | (simp [mu]; omega)) ?_
      rw [y2]
      refine Ev.callV d_Law_law_542 mt_Mo_unlike lk_Law_64 in_Mo_unlike se_Mo_unlike rfl (Nat.le_of_ble_eq_true rfl) rfl (Nat.le_of_ble_eq_true rfl) (by omega) (by first | exact is_57 hW1.2.1 | exact is_57 hW.2.1) (by decide) rfl rfl k1 ?_
      refine Ev.icmp_eqs (tgt := 1139) d_Law_law_545 rfl ?_
      refine Ev.iinc_3 d_Law_law_1139 rfl ?_
      refine Ev.goto (tgt := 18) d_Law_law_1142 rfl ?_
      exact g1
    · obtain ⟨vv, σ1, m1, m2, q1, k1, hW1, hB1, I2⟩ := op_turned I (hxs (i + 1))
      have y1 := hB1.1 (i + 1) (by omega) (by omega)
      obtain ⟨σF, mF, g1, g2⟩ := lp_law hL hxs q (i + 6) σ1 m2 (by omega) (by omega) (by omega) I2
      refine ⟨σF, mF, ?_, g2⟩
      refine Ev.iload_n d_Law_law_18 rfl ?_
      refine Ev.aload_n d_Law_law_19 rfl ?_
      refine Ev.arraylength d_Law_law_20 (by first | exact hW.2.2.1 | exact hW1.2.2.1) (by decide) ?_
      refine Ev.bipush d_Law_law_21 rfl ?_
      refine Ev.isub d_Law_law_23 ?_
      refine Ev.icmp_gt (tgt := 1145) d_Law_law_24 rfl (by first | omega | (simp [mu]; done) | (simp [mu]; omega)) (by first | omega | (simp [mu]; done) | (simp [mu]; omega)) (fun hb24 => by exfalso; first | omega | simp at hb24 | contradiction) (fun hb24 => ?_)
      refine Ev.aload_n d_Law_law_27 rfl ?_
      refine Ev.iload_n d_Law_law_28 rfl ?_
      refine Ev.iaload d_Law_law_29 (by first | exact hW.2.2.1 | exact hW1.2.2.1) (by first | omega | (simp [mu]; done) | (simp [mu]; omega)) ?_
      rw [x0]
      refine Ev.bipush d_Law_law_30 rfl ?_
      refine Ev.iandm 5 d_Law_law_32 (by decide) rfl ?_
      rw [hx]
      refine Ev.tableIn (off := 517) (tgt := 550) d_Law_law_33 (by omega) (by omega) (by omega) rfl rfl ?_
      refine Ev.aload_n d_Law_law_550 rfl ?_
      refine Ev.aload_n d_Law_law_551 rfl ?_
      refine Ev.iload_n d_Law_law_552 rfl ?_
      refine Ev.iconst d_Law_law_553 ?_
      refine Ev.iadd d_Law_law_554 ?_
      refine Ev.iaload d_Law_law_555 (by first | exact hW.2.2.1 | exact hW1.2.2.1) (by first | omega | (simp [mu]; done) | (simp [mu]; omega)) ?_
      rw [x1]
      refine Ev.callV d_Law_law_556 mt_FC_turned lk_Law_65 in_FC_turned se_FC_turned rfl (Nat.le_of_ble_eq_true rfl) rfl (Nat.le_of_ble_eq_true rfl) (by omega) (by first | exact fi_3 hW.1 | exact fi_3 hW1.1) (by decide) rfl rfl q1 ?_
      refine Ev.aload_n d_Law_law_559 rfl ?_
      refine Ev.aload_n d_Law_law_560 rfl ?_
      refine Ev.iload_n d_Law_law_561 rfl ?_
      refine Ev.iconst d_Law_law_562 ?_
      refine Ev.iadd d_Law_law_563 ?_
      refine Ev.iaload d_Law_law_564 (by first | exact hW.2.2.1 | exact hW1.2.2.1) (by first | omega | (simp [mu]; done) | (simp [mu]; omega)) ?_
      rw [y1]
      refine Ev.callV d_Law_law_565 mt_Mo_turned lk_Law_68 in_Mo_turned se_Mo_turned rfl (Nat.le_of_ble_eq_true rfl) rfl (Nat.le_of_ble_eq_true rfl) (by omega) (by first | exact is_57 hW1.2.1 | exact is_57 hW.2.1) (by decide) rfl rfl k1 ?_
      refine Ev.icmp_eqs (tgt := 1139) d_Law_law_568 rfl ?_
      refine Ev.iinc_3 d_Law_law_1139 rfl ?_
      refine Ev.goto (tgt := 18) d_Law_law_1142 rfl ?_
      exact g1
    · obtain ⟨vv, σ1, m1, m2, q1, k1, hW1, hB1, I2⟩ := op_count I (hxs (i + 1)) (hxs (i + 2))
      have y1 := hB1.1 (i + 1) (by omega) (by omega)
      have y2 := hB1.1 (i + 2) (by omega) (by omega)
      obtain ⟨σF, mF, g1, g2⟩ := lp_law hL hxs q (i + 6) σ1 m2 (by omega) (by omega) (by omega) I2
      refine ⟨σF, mF, ?_, g2⟩
      refine Ev.iload_n d_Law_law_18 rfl ?_
      refine Ev.aload_n d_Law_law_19 rfl ?_
      refine Ev.arraylength d_Law_law_20 (by first | exact hW.2.2.1 | exact hW1.2.2.1) (by decide) ?_
      refine Ev.bipush d_Law_law_21 rfl ?_
      refine Ev.isub d_Law_law_23 ?_
      refine Ev.icmp_gt (tgt := 1145) d_Law_law_24 rfl (by first | omega | (simp [mu]; done) | (simp [mu]; omega)) (by first | omega | (simp [mu]; done) | (simp [mu]; omega)) (fun hb24 => by exfalso; first | omega | simp at hb24 | contradiction) (fun hb24 => ?_)
      refine Ev.aload_n d_Law_law_27 rfl ?_
      refine Ev.iload_n d_Law_law_28 rfl ?_
      refine Ev.iaload d_Law_law_29 (by first | exact hW.2.2.1 | exact hW1.2.2.1) (by first | omega | (simp [mu]; done) | (simp [mu]; omega)) ?_
      rw [x0]
      refine Ev.bipush d_Law_law_30 rfl ?_
      refine Ev.iandm 5 d_Law_law_32 (by decide) rfl ?_
      rw [hx]
      refine Ev.tableIn (off := 540) (tgt := 573) d_Law_law_33 (by omega) (by omega) (by omega) rfl rfl ?_
      refine Ev.aload_n d_Law_law_573 rfl ?_
      refine Ev.aload_n d_Law_law_574 rfl ?_
      refine Ev.iload_n d_Law_law_575 rfl ?_
      refine Ev.iconst d_Law_law_576 ?_
      refine Ev.iadd d_Law_law_577 ?_
      refine Ev.iaload d_Law_law_578 (by first | exact hW.2.2.1 | exact hW1.2.2.1) (by first | omega | (simp [mu]; done) | (simp [mu]; omega)) ?_
      rw [x1]
      refine Ev.aload_n d_Law_law_579 rfl ?_
      refine Ev.iload_n d_Law_law_580 rfl ?_
      refine Ev.iconst d_Law_law_581 ?_
      refine Ev.iadd d_Law_law_582 ?_
      refine Ev.iaload d_Law_law_583 (by first | exact hW.2.2.1 | exact hW1.2.2.1) (by first | omega | (simp [mu]; done) | (simp [mu]; omega)) ?_
      rw [x2]
      refine Ev.callV d_Law_law_584 mt_FC_count lk_Law_69 in_FC_count se_FC_count rfl (Nat.le_of_ble_eq_true rfl) rfl (Nat.le_of_ble_eq_true rfl) (by omega) (by first | exact fi_3 hW.1 | exact fi_3 hW1.1) (by decide) rfl rfl q1 ?_
      refine Ev.aload_n d_Law_law_587 rfl ?_
      refine Ev.aload_n d_Law_law_588 rfl ?_
      refine Ev.iload_n d_Law_law_589 rfl ?_
      refine Ev.iconst d_Law_law_590 ?_
      refine Ev.iadd d_Law_law_591 ?_
      refine Ev.iaload d_Law_law_592 (by first | exact hW.2.2.1 | exact hW1.2.2.1) (by first | omega | (simp [mu]; done) | (simp [mu]; omega)) ?_
      rw [y1]
      refine Ev.aload_n d_Law_law_593 rfl ?_
      refine Ev.iload_n d_Law_law_594 rfl ?_
      refine Ev.iconst d_Law_law_595 ?_
      refine Ev.iadd d_Law_law_596 ?_
      refine Ev.iaload d_Law_law_597 (by first | exact hW.2.2.1 | exact hW1.2.2.1) (by first | omega | (simp [mu]; done) | (simp [mu]; omega)) ?_
      rw [y2]
      refine Ev.callV d_Law_law_598 mt_Mo_count lk_Law_72 in_Mo_count se_Mo_count rfl (Nat.le_of_ble_eq_true rfl) rfl (Nat.le_of_ble_eq_true rfl) (by omega) (by first | exact is_57 hW1.2.1 | exact is_57 hW.2.1) (by decide) rfl rfl k1 ?_
      refine Ev.lcmps d_Law_law_601 ?_
      refine Ev.if_eq (tgt := 1139) d_Law_law_602 rfl (by first | omega | (simp [mu]; done) | (simp [mu]; omega)) (fun hb602 => ?_) (fun hb602 => by exfalso; first | omega | simp at hb602 | contradiction)
      refine Ev.iinc_3 d_Law_law_1139 rfl ?_
      refine Ev.goto (tgt := 18) d_Law_law_1142 rfl ?_
      exact g1
    · obtain ⟨vv, σ1, m1, m2, q1, k1, hW1, hB1, I2⟩ := op_signed I (hxs (i + 1)) (hxs (i + 2))
      have y1 := hB1.1 (i + 1) (by omega) (by omega)
      have y2 := hB1.1 (i + 2) (by omega) (by omega)
      obtain ⟨σF, mF, g1, g2⟩ := lp_law hL hxs q (i + 6) σ1 m2 (by omega) (by omega) (by omega) I2
      refine ⟨σF, mF, ?_, g2⟩
      refine Ev.iload_n d_Law_law_18 rfl ?_
      refine Ev.aload_n d_Law_law_19 rfl ?_
      refine Ev.arraylength d_Law_law_20 (by first | exact hW.2.2.1 | exact hW1.2.2.1) (by decide) ?_
      refine Ev.bipush d_Law_law_21 rfl ?_
      refine Ev.isub d_Law_law_23 ?_
      refine Ev.icmp_gt (tgt := 1145) d_Law_law_24 rfl (by first | omega | (simp [mu]; done) | (simp [mu]; omega)) (by first | omega | (simp [mu]; done) | (simp [mu]; omega)) (fun hb24 => by exfalso; first | omega | simp at hb24 | contradiction) (fun hb24 => ?_)
      refine Ev.aload_n d_Law_law_27 rfl ?_
      refine Ev.iload_n d_Law_law_28 rfl ?_
      refine Ev.iaload d_Law_law_29 (by first | exact hW.2.2.1 | exact hW1.2.2.1) (by first | omega | (simp [mu]; done) | (simp [mu]; omega)) ?_
      rw [x0]
      refine Ev.bipush d_Law_law_30 rfl ?_
      refine Ev.iandm 5 d_Law_law_32 (by decide) rfl ?_
      rw [hx]
      refine Ev.tableIn (off := 574) (tgt := 607) d_Law_law_33 (by omega) (by omega) (by omega) rfl rfl ?_
      refine Ev.aload_n d_Law_law_607 rfl ?_
      refine Ev.aload_n d_Law_law_608 rfl ?_
      refine Ev.iload_n d_Law_law_609 rfl ?_
      refine Ev.iconst d_Law_law_610 ?_
      refine Ev.iadd d_Law_law_611 ?_
      refine Ev.iaload d_Law_law_612 (by first | exact hW.2.2.1 | exact hW1.2.2.1) (by first | omega | (simp [mu]; done) | (simp [mu]; omega)) ?_
      rw [x1]
      refine Ev.aload_n d_Law_law_613 rfl ?_
      refine Ev.iload_n d_Law_law_614 rfl ?_
      refine Ev.iconst d_Law_law_615 ?_
      refine Ev.iadd d_Law_law_616 ?_
      refine Ev.iaload d_Law_law_617 (by first | exact hW.2.2.1 | exact hW1.2.2.1) (by first | omega | (simp [mu]; done) | (simp [mu]; omega)) ?_
      rw [x2]
      refine Ev.callV d_Law_law_618 mt_FC_signed lk_Law_73 in_FC_signed se_FC_signed rfl (Nat.le_of_ble_eq_true rfl) rfl (Nat.le_of_ble_eq_true rfl) (by omega) (by first | exact fi_3 hW.1 | exact fi_3 hW1.1) (by decide) rfl rfl q1 ?_
      refine Ev.aload_n d_Law_law_621 rfl ?_
      refine Ev.aload_n d_Law_law_622 rfl ?_
      refine Ev.iload_n d_Law_law_623 rfl ?_
      refine Ev.iconst d_Law_law_624 ?_
      refine Ev.iadd d_Law_law_625 ?_
      refine Ev.iaload d_Law_law_626 (by first | exact hW.2.2.1 | exact hW1.2.2.1) (by first | omega | (simp [mu]; done) | (simp [mu]; omega)) ?_
      rw [y1]
      refine Ev.aload_n d_Law_law_627 rfl ?_
      refine Ev.iload_n d_Law_law_628 rfl ?_
      refine Ev.iconst d_Law_law_629 ?_
      refine Ev.iadd d_Law_law_630 ?_
      refine Ev.iaload d_Law_law_631 (by first | exact hW.2.2.1 | exact hW1.2.2.1) (by first | omega | (simp [mu]; done) | (simp [mu]; omega)) ?_
      rw [y2]
      refine Ev.callV d_Law_law_632 mt_Mo_signed lk_Law_76 in_Mo_signed se_Mo_signed rfl (Nat.le_of_ble_eq_true rfl) rfl (Nat.le_of_ble_eq_true rfl) (by omega) (by first | exact is_57 hW1.2.1 | exact is_57 hW.2.1) (by decide) rfl rfl k1 ?_
      refine Ev.lcmps d_Law_law_635 ?_
      refine Ev.if_eq (tgt := 1139) d_Law_law_636 rfl (by first | omega | (simp [mu]; done) | (simp [mu]; omega)) (fun hb636 => ?_) (fun hb636 => by exfalso; first | omega | simp at hb636 | contradiction)
      refine Ev.iinc_3 d_Law_law_1139 rfl ?_
      refine Ev.goto (tgt := 18) d_Law_law_1142 rfl ?_
      exact g1
    · obtain ⟨vv, σ1, m1, m2, q1, k1, hW1, hB1, I2⟩ := op_spreadAll I (hxs (i + 1)) (hxs (i + 2)) (hxs (i + 3))
      have y1 := hB1.1 (i + 1) (by omega) (by omega)
      have y2 := hB1.1 (i + 2) (by omega) (by omega)
      have y3 := hB1.1 (i + 3) (by omega) (by omega)
      obtain ⟨σF, mF, g1, g2⟩ := lp_law hL hxs q (i + 6) σ1 m2 (by omega) (by omega) (by omega) I2
      refine ⟨σF, mF, ?_, g2⟩
      refine Ev.iload_n d_Law_law_18 rfl ?_
      refine Ev.aload_n d_Law_law_19 rfl ?_
      refine Ev.arraylength d_Law_law_20 (by first | exact hW.2.2.1 | exact hW1.2.2.1) (by decide) ?_
      refine Ev.bipush d_Law_law_21 rfl ?_
      refine Ev.isub d_Law_law_23 ?_
      refine Ev.icmp_gt (tgt := 1145) d_Law_law_24 rfl (by first | omega | (simp [mu]; done) | (simp [mu]; omega)) (by first | omega | (simp [mu]; done) | (simp [mu]; omega)) (fun hb24 => by exfalso; first | omega | simp at hb24 | contradiction) (fun hb24 => ?_)
      refine Ev.aload_n d_Law_law_27 rfl ?_
      refine Ev.iload_n d_Law_law_28 rfl ?_
      refine Ev.iaload d_Law_law_29 (by first | exact hW.2.2.1 | exact hW1.2.2.1) (by first | omega | (simp [mu]; done) | (simp [mu]; omega)) ?_
      rw [x0]
      refine Ev.bipush d_Law_law_30 rfl ?_
      refine Ev.iandm 5 d_Law_law_32 (by decide) rfl ?_
      rw [hx]
      refine Ev.tableIn (off := 608) (tgt := 641) d_Law_law_33 (by omega) (by omega) (by omega) rfl rfl ?_
      refine Ev.aload_n d_Law_law_641 rfl ?_
      refine Ev.aload_n d_Law_law_642 rfl ?_
      refine Ev.iload_n d_Law_law_643 rfl ?_
      refine Ev.iconst d_Law_law_644 ?_
      refine Ev.iadd d_Law_law_645 ?_
      refine Ev.iaload d_Law_law_646 (by first | exact hW.2.2.1 | exact hW1.2.2.1) (by first | omega | (simp [mu]; done) | (simp [mu]; omega)) ?_
      rw [x1]
      refine Ev.aload_n d_Law_law_647 rfl ?_
      refine Ev.iload_n d_Law_law_648 rfl ?_
      refine Ev.iconst d_Law_law_649 ?_
      refine Ev.iadd d_Law_law_650 ?_
      refine Ev.iaload d_Law_law_651 (by first | exact hW.2.2.1 | exact hW1.2.2.1) (by first | omega | (simp [mu]; done) | (simp [mu]; omega)) ?_
      rw [x2]
      refine Ev.aload_n d_Law_law_652 rfl ?_
      refine Ev.iload_n d_Law_law_653 rfl ?_
      refine Ev.iconst d_Law_law_654 ?_
      refine Ev.iadd d_Law_law_655 ?_
      refine Ev.iaload d_Law_law_656 (by first | exact hW.2.2.1 | exact hW1.2.2.1) (by first | omega | (simp [mu]; done) | (simp [mu]; omega)) ?_
      rw [x3]
      refine Ev.callV d_Law_law_657 mt_FC_spreadAll lk_Law_77 in_FC_spreadAll se_FC_spreadAll rfl (Nat.le_of_ble_eq_true rfl) rfl (Nat.le_of_ble_eq_true rfl) (by omega) (by first | exact fi_3 hW.1 | exact fi_3 hW1.1) (by decide) rfl rfl q1 ?_
      refine Ev.aload_n d_Law_law_660 rfl ?_
      refine Ev.aload_n d_Law_law_661 rfl ?_
      refine Ev.iload_n d_Law_law_662 rfl ?_
      refine Ev.iconst d_Law_law_663 ?_
      refine Ev.iadd d_Law_law_664 ?_
      refine Ev.iaload d_Law_law_665 (by first | exact hW.2.2.1 | exact hW1.2.2.1) (by first | omega | (simp [mu]; done) | (simp [mu]; omega)) ?_
      rw [y1]
      refine Ev.aload_n d_Law_law_666 rfl ?_
      refine Ev.iload_n d_Law_law_667 rfl ?_
      refine Ev.iconst d_Law_law_668 ?_
      refine Ev.iadd d_Law_law_669 ?_
      refine Ev.iaload d_Law_law_670 (by first | exact hW.2.2.1 | exact hW1.2.2.1) (by first | omega | (simp [mu]; done) | (simp [mu]; omega)) ?_
      rw [y2]
      refine Ev.aload_n d_Law_law_671 rfl ?_
      refine Ev.iload_n d_Law_law_672 rfl ?_
      refine Ev.iconst d_Law_law_673 ?_
      refine Ev.iadd d_Law_law_674 ?_
      refine Ev.iaload d_Law_law_675 (by first | exact hW.2.2.1 | exact hW1.2.2.1) (by first | omega | (simp [mu]; done) | (simp [mu]; omega)) ?_
      rw [y3]
      refine Ev.callV d_Law_law_676 mt_Mo_spreadAll lk_Law_80 in_Mo_spreadAll se_Mo_spreadAll rfl (Nat.le_of_ble_eq_true rfl) rfl (Nat.le_of_ble_eq_true rfl) (by omega) (by first | exact is_57 hW1.2.1 | exact is_57 hW.2.1) (by decide) rfl rfl k1 ?_
      refine Ev.lcmps d_Law_law_679 ?_
      refine Ev.if_eq (tgt := 1139) d_Law_law_680 rfl (by first | omega | (simp [mu]; done) | (simp [mu]; omega)) (fun hb680 => ?_) (fun hb680 => by exfalso; first | omega | simp at hb680 | contradiction)
      refine Ev.iinc_3 d_Law_law_1139 rfl ?_
      refine Ev.goto (tgt := 18) d_Law_law_1142 rfl ?_
      exact g1
    · obtain ⟨vv, σ1, m1, m2, q1, k1, hW1, hB1, I2⟩ := op_listed I (hxs (i + 1)) (hxs (i + 2))
      have y1 := hB1.1 (i + 1) (by omega) (by omega)
      have y2 := hB1.1 (i + 2) (by omega) (by omega)
      obtain ⟨σF, mF, g1, g2⟩ := lp_law hL hxs q (i + 6) σ1 m2 (by omega) (by omega) (by omega) I2
      refine ⟨σF, mF, ?_, g2⟩
      refine Ev.iload_n d_Law_law_18 rfl ?_
      refine Ev.aload_n d_Law_law_19 rfl ?_
      refine Ev.arraylength d_Law_law_20 (by first | exact hW.2.2.1 | exact hW1.2.2.1) (by decide) ?_
      refine Ev.bipush d_Law_law_21 rfl ?_
      refine Ev.isub d_Law_law_23 ?_
      refine Ev.icmp_gt (tgt := 1145) d_Law_law_24 rfl (by first | omega | (simp [mu]; done) | (simp [mu]; omega)) (by first | omega | (simp [mu]; done) | (simp [mu]; omega)) (fun hb24 => by exfalso; first | omega | simp at hb24 | contradiction) (fun hb24 => ?_)
      refine Ev.aload_n d_Law_law_27 rfl ?_
      refine Ev.iload_n d_Law_law_28 rfl ?_
      refine Ev.iaload d_Law_law_29 (by first | exact hW.2.2.1 | exact hW1.2.2.1) (by first | omega | (simp [mu]; done) | (simp [mu]; omega)) ?_
      rw [x0]
      refine Ev.bipush d_Law_law_30 rfl ?_
      refine Ev.iandm 5 d_Law_law_32 (by decide) rfl ?_
      rw [hx]
      refine Ev.tableIn (off := 652) (tgt := 685) d_Law_law_33 (by omega) (by omega) (by omega) rfl rfl ?_
      refine Ev.aload_n d_Law_law_685 rfl ?_
      refine Ev.aload_n d_Law_law_686 rfl ?_
      refine Ev.iload_n d_Law_law_687 rfl ?_
      refine Ev.iconst d_Law_law_688 ?_
      refine Ev.iadd d_Law_law_689 ?_
      refine Ev.iaload d_Law_law_690 (by first | exact hW.2.2.1 | exact hW1.2.2.1) (by first | omega | (simp [mu]; done) | (simp [mu]; omega)) ?_
      rw [x1]
      refine Ev.aload_n d_Law_law_691 rfl ?_
      refine Ev.iload_n d_Law_law_692 rfl ?_
      refine Ev.iconst d_Law_law_693 ?_
      refine Ev.iadd d_Law_law_694 ?_
      refine Ev.iaload d_Law_law_695 (by first | exact hW.2.2.1 | exact hW1.2.2.1) (by first | omega | (simp [mu]; done) | (simp [mu]; omega)) ?_
      rw [x2]
      refine Ev.callV d_Law_law_696 mt_FC_listed lk_Law_81 in_FC_listed se_FC_listed rfl (Nat.le_of_ble_eq_true rfl) rfl (Nat.le_of_ble_eq_true rfl) (by omega) (by first | exact fi_3 hW.1 | exact fi_3 hW1.1) (by decide) rfl rfl q1 ?_
      refine Ev.aload_n d_Law_law_699 rfl ?_
      refine Ev.aload_n d_Law_law_700 rfl ?_
      refine Ev.iload_n d_Law_law_701 rfl ?_
      refine Ev.iconst d_Law_law_702 ?_
      refine Ev.iadd d_Law_law_703 ?_
      refine Ev.iaload d_Law_law_704 (by first | exact hW.2.2.1 | exact hW1.2.2.1) (by first | omega | (simp [mu]; done) | (simp [mu]; omega)) ?_
      rw [y1]
      refine Ev.aload_n d_Law_law_705 rfl ?_
      refine Ev.iload_n d_Law_law_706 rfl ?_
      refine Ev.iconst d_Law_law_707 ?_
      refine Ev.iadd d_Law_law_708 ?_
      refine Ev.iaload d_Law_law_709 (by first | exact hW.2.2.1 | exact hW1.2.2.1) (by first | omega | (simp [mu]; done) | (simp [mu]; omega)) ?_
      rw [y2]
      refine Ev.callV d_Law_law_710 mt_Mo_listed lk_Law_84 in_Mo_listed se_Mo_listed rfl (Nat.le_of_ble_eq_true rfl) rfl (Nat.le_of_ble_eq_true rfl) (by omega) (by first | exact is_57 hW1.2.1 | exact is_57 hW.2.1) (by decide) rfl rfl k1 ?_
      refine Ev.icmp_eqs (tgt := 1139) d_Law_law_713 rfl ?_
      refine Ev.iinc_3 d_Law_law_1139 rfl ?_
      refine Ev.goto (tgt := 18) d_Law_law_1142 rfl ?_
      exact g1
    · obtain ⟨vv, σ1, m1, m2, q1, k1, hW1, hB1, I2⟩ := op_take I (hxs (i + 1)) (hxs (i + 2)) (hxs (i + 3))
      have y1 := hB1.1 (i + 1) (by omega) (by omega)
      have y2 := hB1.1 (i + 2) (by omega) (by omega)
      have y3 := hB1.1 (i + 3) (by omega) (by omega)
      obtain ⟨σF, mF, g1, g2⟩ := lp_law hL hxs q (i + 6) σ1 m2 (by omega) (by omega) (by omega) I2
      refine ⟨σF, mF, ?_, g2⟩
      refine Ev.iload_n d_Law_law_18 rfl ?_
      refine Ev.aload_n d_Law_law_19 rfl ?_
      refine Ev.arraylength d_Law_law_20 (by first | exact hW.2.2.1 | exact hW1.2.2.1) (by decide) ?_
      refine Ev.bipush d_Law_law_21 rfl ?_
      refine Ev.isub d_Law_law_23 ?_
      refine Ev.icmp_gt (tgt := 1145) d_Law_law_24 rfl (by first | omega | (simp [mu]; done) | (simp [mu]; omega)) (by first | omega | (simp [mu]; done) | (simp [mu]; omega)) (fun hb24 => by exfalso; first | omega | simp at hb24 | contradiction) (fun hb24 => ?_)
      refine Ev.aload_n d_Law_law_27 rfl ?_
      refine Ev.iload_n d_Law_law_28 rfl ?_
      refine Ev.iaload d_Law_law_29 (by first | exact hW.2.2.1 | exact hW1.2.2.1) (by first | omega | (simp [mu]; done) | (simp [mu]; omega)) ?_
      rw [x0]
      refine Ev.bipush d_Law_law_30 rfl ?_
      refine Ev.iandm 5 d_Law_law_32 (by decide) rfl ?_
      rw [hx]
      refine Ev.tableIn (off := 685) (tgt := 718) d_Law_law_33 (by omega) (by omega) (by omega) rfl rfl ?_
      refine Ev.aload_n d_Law_law_718 rfl ?_
      refine Ev.aload_n d_Law_law_719 rfl ?_
      refine Ev.iload_n d_Law_law_720 rfl ?_
      refine Ev.iconst d_Law_law_721 ?_
      refine Ev.iadd d_Law_law_722 ?_
      refine Ev.iaload d_Law_law_723 (by first | exact hW.2.2.1 | exact hW1.2.2.1) (by first | omega | (simp [mu]; done) | (simp [mu]; omega)) ?_
      rw [x1]
      refine Ev.aload_n d_Law_law_724 rfl ?_
      refine Ev.iload_n d_Law_law_725 rfl ?_
      refine Ev.iconst d_Law_law_726 ?_
      refine Ev.iadd d_Law_law_727 ?_
      refine Ev.iaload d_Law_law_728 (by first | exact hW.2.2.1 | exact hW1.2.2.1) (by first | omega | (simp [mu]; done) | (simp [mu]; omega)) ?_
      rw [x2]
      refine Ev.aload_n d_Law_law_729 rfl ?_
      refine Ev.iload_n d_Law_law_730 rfl ?_
      refine Ev.iconst d_Law_law_731 ?_
      refine Ev.iadd d_Law_law_732 ?_
      refine Ev.iaload d_Law_law_733 (by first | exact hW.2.2.1 | exact hW1.2.2.1) (by first | omega | (simp [mu]; done) | (simp [mu]; omega)) ?_
      rw [x3]
      refine Ev.callV d_Law_law_734 mt_FC_take lk_Law_85 in_FC_take se_FC_take rfl (Nat.le_of_ble_eq_true rfl) rfl (Nat.le_of_ble_eq_true rfl) (by omega) (by first | exact fi_3 hW.1 | exact fi_3 hW1.1) (by decide) rfl rfl q1 ?_
      refine Ev.aload_n d_Law_law_737 rfl ?_
      refine Ev.aload_n d_Law_law_738 rfl ?_
      refine Ev.iload_n d_Law_law_739 rfl ?_
      refine Ev.iconst d_Law_law_740 ?_
      refine Ev.iadd d_Law_law_741 ?_
      refine Ev.iaload d_Law_law_742 (by first | exact hW.2.2.1 | exact hW1.2.2.1) (by first | omega | (simp [mu]; done) | (simp [mu]; omega)) ?_
      rw [y1]
      refine Ev.aload_n d_Law_law_743 rfl ?_
      refine Ev.iload_n d_Law_law_744 rfl ?_
      refine Ev.iconst d_Law_law_745 ?_
      refine Ev.iadd d_Law_law_746 ?_
      refine Ev.iaload d_Law_law_747 (by first | exact hW.2.2.1 | exact hW1.2.2.1) (by first | omega | (simp [mu]; done) | (simp [mu]; omega)) ?_
      rw [y2]
      refine Ev.aload_n d_Law_law_748 rfl ?_
      refine Ev.iload_n d_Law_law_749 rfl ?_
      refine Ev.iconst d_Law_law_750 ?_
      refine Ev.iadd d_Law_law_751 ?_
      refine Ev.iaload d_Law_law_752 (by first | exact hW.2.2.1 | exact hW1.2.2.1) (by first | omega | (simp [mu]; done) | (simp [mu]; omega)) ?_
      rw [y3]
      refine Ev.callV d_Law_law_753 mt_Mo_take lk_Law_88 in_Mo_take se_Mo_take rfl (Nat.le_of_ble_eq_true rfl) rfl (Nat.le_of_ble_eq_true rfl) (by omega) (by first | exact is_57 hW1.2.1 | exact is_57 hW.2.1) (by decide) rfl rfl k1 ?_
      refine Ev.icmp_eqs (tgt := 1139) d_Law_law_756 rfl ?_
      refine Ev.iinc_3 d_Law_law_1139 rfl ?_
      refine Ev.goto (tgt := 18) d_Law_law_1142 rfl ?_
      exact g1
    · obtain ⟨vv, σ1, m1, m2, q1, k1, hW1, hB1, I2⟩ := op_place I (hxs (i + 1))
      have y1 := hB1.1 (i + 1) (by omega) (by omega)
      obtain ⟨σF, mF, g1, g2⟩ := lp_law hL hxs q (i + 6) σ1 m2 (by omega) (by omega) (by omega) I2
      refine ⟨σF, mF, ?_, g2⟩
      refine Ev.iload_n d_Law_law_18 rfl ?_
      refine Ev.aload_n d_Law_law_19 rfl ?_
      refine Ev.arraylength d_Law_law_20 (by first | exact hW.2.2.1 | exact hW1.2.2.1) (by decide) ?_
      refine Ev.bipush d_Law_law_21 rfl ?_
      refine Ev.isub d_Law_law_23 ?_
      refine Ev.icmp_gt (tgt := 1145) d_Law_law_24 rfl (by first | omega | (simp [mu]; done) | (simp [mu]; omega)) (by first | omega | (simp [mu]; done) | (simp [mu]; omega)) (fun hb24 => by exfalso; first | omega | simp at hb24 | contradiction) (fun hb24 => ?_)
      refine Ev.aload_n d_Law_law_27 rfl ?_
      refine Ev.iload_n d_Law_law_28 rfl ?_
      refine Ev.iaload d_Law_law_29 (by first | exact hW.2.2.1 | exact hW1.2.2.1) (by first | omega | (simp [mu]; done) | (simp [mu]; omega)) ?_
      rw [x0]
      refine Ev.bipush d_Law_law_30 rfl ?_
      refine Ev.iandm 5 d_Law_law_32 (by decide) rfl ?_
      rw [hx]
      refine Ev.tableIn (off := 728) (tgt := 761) d_Law_law_33 (by omega) (by omega) (by omega) rfl rfl ?_
      refine Ev.aload_n d_Law_law_761 rfl ?_
      refine Ev.aload_n d_Law_law_762 rfl ?_
      refine Ev.iload_n d_Law_law_763 rfl ?_
      refine Ev.iconst d_Law_law_764 ?_
      refine Ev.iadd d_Law_law_765 ?_
      refine Ev.iaload d_Law_law_766 (by first | exact hW.2.2.1 | exact hW1.2.2.1) (by first | omega | (simp [mu]; done) | (simp [mu]; omega)) ?_
      rw [x1]
      refine Ev.callV d_Law_law_767 mt_FC_place lk_Law_89 in_FC_place se_FC_place rfl (Nat.le_of_ble_eq_true rfl) rfl (Nat.le_of_ble_eq_true rfl) (by omega) (by first | exact fi_3 hW.1 | exact fi_3 hW1.1) (by decide) rfl rfl q1 ?_
      refine Ev.aload_n d_Law_law_770 rfl ?_
      refine Ev.aload_n d_Law_law_771 rfl ?_
      refine Ev.iload_n d_Law_law_772 rfl ?_
      refine Ev.iconst d_Law_law_773 ?_
      refine Ev.iadd d_Law_law_774 ?_
      refine Ev.iaload d_Law_law_775 (by first | exact hW.2.2.1 | exact hW1.2.2.1) (by first | omega | (simp [mu]; done) | (simp [mu]; omega)) ?_
      rw [y1]
      refine Ev.callV d_Law_law_776 mt_Mo_place lk_Law_92 in_Mo_place se_Mo_place rfl (Nat.le_of_ble_eq_true rfl) rfl (Nat.le_of_ble_eq_true rfl) (by omega) (by first | exact is_57 hW1.2.1 | exact is_57 hW.2.1) (by decide) rfl rfl k1 ?_
      refine Ev.icmp_eqs (tgt := 1139) d_Law_law_779 rfl ?_
      refine Ev.iinc_3 d_Law_law_1139 rfl ?_
      refine Ev.goto (tgt := 18) d_Law_law_1142 rfl ?_
      exact g1
    · obtain ⟨vv, σ1, m1, m2, q1, k1, hW1, hB1, I2⟩ := op_feed I (v := xs (i + 1) * 2 ^ 32 + xs (i + 2) % 2 ^ 32) (by omega)
      have y1 := hB1.1 (i + 1) (by omega) (by omega)
      have y2 := hB1.1 (i + 2) (by omega) (by omega)
      obtain ⟨σF, mF, g1, g2⟩ := lp_law hL hxs q (i + 6) σ1 m2 (by omega) (by omega) (by omega) I2
      refine ⟨σF, mF, ?_, g2⟩
      refine Ev.iload_n d_Law_law_18 rfl ?_
      refine Ev.aload_n d_Law_law_19 rfl ?_
      refine Ev.arraylength d_Law_law_20 (by first | exact hW.2.2.1 | exact hW1.2.2.1) (by decide) ?_
      refine Ev.bipush d_Law_law_21 rfl ?_
      refine Ev.isub d_Law_law_23 ?_
      refine Ev.icmp_gt (tgt := 1145) d_Law_law_24 rfl (by first | omega | (simp [mu]; done) | (simp [mu]; omega)) (by first | omega | (simp [mu]; done) | (simp [mu]; omega)) (fun hb24 => by exfalso; first | omega | simp at hb24 | contradiction) (fun hb24 => ?_)
      refine Ev.aload_n d_Law_law_27 rfl ?_
      refine Ev.iload_n d_Law_law_28 rfl ?_
      refine Ev.iaload d_Law_law_29 (by first | exact hW.2.2.1 | exact hW1.2.2.1) (by first | omega | (simp [mu]; done) | (simp [mu]; omega)) ?_
      rw [x0]
      refine Ev.bipush d_Law_law_30 rfl ?_
      refine Ev.iandm 5 d_Law_law_32 (by decide) rfl ?_
      rw [hx]
      refine Ev.tableIn (off := 751) (tgt := 784) d_Law_law_33 (by omega) (by omega) (by omega) rfl rfl ?_
      refine Ev.aload_n d_Law_law_784 rfl ?_
      refine Ev.aload_n d_Law_law_785 rfl ?_
      refine Ev.iload_n d_Law_law_786 rfl ?_
      refine Ev.iconst d_Law_law_787 ?_
      refine Ev.iadd d_Law_law_788 ?_
      refine Ev.iaload d_Law_law_789 (by first | exact hW.2.2.1 | exact hW1.2.2.1) (by first | omega | (simp [mu]; done) | (simp [mu]; omega)) ?_
      rw [x1]
      refine Ev.i2l d_Law_law_790 (by first | omega | (simp [mu]; done) | (simp [mu]; omega)) ?_
      refine Ev.bipush d_Law_law_791 rfl ?_
      refine Ev.lshl d_Law_law_793 (by first | omega | (simp [mu]; done) | (simp [mu]; omega)) ?_
      refine Ev.aload_n d_Law_law_794 rfl ?_
      refine Ev.iload_n d_Law_law_795 rfl ?_
      refine Ev.iconst d_Law_law_796 ?_
      refine Ev.iadd d_Law_law_797 ?_
      refine Ev.iaload d_Law_law_798 (by first | exact hW.2.2.1 | exact hW1.2.2.1) (by first | omega | (simp [mu]; done) | (simp [mu]; omega)) ?_
      rw [x2]
      refine Ev.i2l d_Law_law_799 (by first | omega | (simp [mu]; done) | (simp [mu]; omega)) ?_
      refine Ev.ldc2 (x := 4294967295) d_Law_law_800 kl_Law_93 ?_
      refine Ev.landm 32 d_Law_law_803 (by decide) rfl ?_
      rw [show ((32 : Int).toNat) = 32 from rfl]
      refine Ev.lors 32 d_Law_law_804 (by decide) (by omega) ?_
      refine Ev.callV d_Law_law_805 mt_FC_feed lk_Law_95 in_FC_feed se_FC_feed rfl (Nat.le_of_ble_eq_true rfl) rfl (Nat.le_of_ble_eq_true rfl) (by omega) (by first | exact fi_3 hW.1 | exact fi_3 hW1.1) (by decide) rfl rfl q1 ?_
      refine Ev.aload_n d_Law_law_808 rfl ?_
      refine Ev.aload_n d_Law_law_809 rfl ?_
      refine Ev.iload_n d_Law_law_810 rfl ?_
      refine Ev.iconst d_Law_law_811 ?_
      refine Ev.iadd d_Law_law_812 ?_
      refine Ev.iaload d_Law_law_813 (by first | exact hW.2.2.1 | exact hW1.2.2.1) (by first | omega | (simp [mu]; done) | (simp [mu]; omega)) ?_
      rw [y1]
      refine Ev.i2l d_Law_law_814 (by first | omega | (simp [mu]; done) | (simp [mu]; omega)) ?_
      refine Ev.bipush d_Law_law_815 rfl ?_
      refine Ev.lshl d_Law_law_817 (by first | omega | (simp [mu]; done) | (simp [mu]; omega)) ?_
      refine Ev.aload_n d_Law_law_818 rfl ?_
      refine Ev.iload_n d_Law_law_819 rfl ?_
      refine Ev.iconst d_Law_law_820 ?_
      refine Ev.iadd d_Law_law_821 ?_
      refine Ev.iaload d_Law_law_822 (by first | exact hW.2.2.1 | exact hW1.2.2.1) (by first | omega | (simp [mu]; done) | (simp [mu]; omega)) ?_
      rw [y2]
      refine Ev.i2l d_Law_law_823 (by first | omega | (simp [mu]; done) | (simp [mu]; omega)) ?_
      refine Ev.ldc2 (x := 4294967295) d_Law_law_824 kl_Law_93 ?_
      refine Ev.landm 32 d_Law_law_827 (by decide) rfl ?_
      rw [show ((32 : Int).toNat) = 32 from rfl]
      refine Ev.lors 32 d_Law_law_828 (by decide) (by omega) ?_
      refine Ev.callV d_Law_law_829 mt_Mo_feed lk_Law_99 in_Mo_feed se_Mo_feed rfl (Nat.le_of_ble_eq_true rfl) rfl (Nat.le_of_ble_eq_true rfl) (by omega) (by first | exact is_57 hW1.2.1 | exact is_57 hW.2.1) (by decide) rfl rfl k1 ?_
      refine Ev.icmp_eqs (tgt := 1139) d_Law_law_832 rfl ?_
      refine Ev.iinc_3 d_Law_law_1139 rfl ?_
      refine Ev.goto (tgt := 18) d_Law_law_1142 rfl ?_
      exact g1
    · obtain ⟨vv, σ1, m1, m2, q1, k1, hW1, hB1, I2⟩ := op_end I (hxs (i + 1))
      have y1 := hB1.1 (i + 1) (by omega) (by omega)
      obtain ⟨σF, mF, g1, g2⟩ := lp_law hL hxs q (i + 6) σ1 m2 (by omega) (by omega) (by omega) I2
      refine ⟨σF, mF, ?_, g2⟩
      refine Ev.iload_n d_Law_law_18 rfl ?_
      refine Ev.aload_n d_Law_law_19 rfl ?_
      refine Ev.arraylength d_Law_law_20 (by first | exact hW.2.2.1 | exact hW1.2.2.1) (by decide) ?_
      refine Ev.bipush d_Law_law_21 rfl ?_
      refine Ev.isub d_Law_law_23 ?_
      refine Ev.icmp_gt (tgt := 1145) d_Law_law_24 rfl (by first | omega | (simp [mu]; done) | (simp [mu]; omega)) (by first | omega | (simp [mu]; done) | (simp [mu]; omega)) (fun hb24 => by exfalso; first | omega | simp at hb24 | contradiction) (fun hb24 => ?_)
      refine Ev.aload_n d_Law_law_27 rfl ?_
      refine Ev.iload_n d_Law_law_28 rfl ?_
      refine Ev.iaload d_Law_law_29 (by first | exact hW.2.2.1 | exact hW1.2.2.1) (by first | omega | (simp [mu]; done) | (simp [mu]; omega)) ?_
      rw [x0]
      refine Ev.bipush d_Law_law_30 rfl ?_
      refine Ev.iandm 5 d_Law_law_32 (by decide) rfl ?_
      rw [hx]
      refine Ev.tableIn (off := 804) (tgt := 837) d_Law_law_33 (by omega) (by omega) (by omega) rfl rfl ?_
      refine Ev.aload_n d_Law_law_837 rfl ?_
      refine Ev.aload_n d_Law_law_838 rfl ?_
      refine Ev.iload_n d_Law_law_839 rfl ?_
      refine Ev.iconst d_Law_law_840 ?_
      refine Ev.iadd d_Law_law_841 ?_
      refine Ev.iaload d_Law_law_842 (by first | exact hW.2.2.1 | exact hW1.2.2.1) (by first | omega | (simp [mu]; done) | (simp [mu]; omega)) ?_
      rw [x1]
      refine Ev.callV d_Law_law_843 mt_FC_end lk_Law_100 in_FC_end se_FC_end rfl (Nat.le_of_ble_eq_true rfl) rfl (Nat.le_of_ble_eq_true rfl) (by omega) (by first | exact fi_3 hW.1 | exact fi_3 hW1.1) (by decide) rfl rfl q1 ?_
      refine Ev.aload_n d_Law_law_846 rfl ?_
      refine Ev.aload_n d_Law_law_847 rfl ?_
      refine Ev.iload_n d_Law_law_848 rfl ?_
      refine Ev.iconst d_Law_law_849 ?_
      refine Ev.iadd d_Law_law_850 ?_
      refine Ev.iaload d_Law_law_851 (by first | exact hW.2.2.1 | exact hW1.2.2.1) (by first | omega | (simp [mu]; done) | (simp [mu]; omega)) ?_
      rw [y1]
      refine Ev.callV d_Law_law_852 mt_Mo_end lk_Law_103 in_Mo_end se_Mo_end rfl (Nat.le_of_ble_eq_true rfl) rfl (Nat.le_of_ble_eq_true rfl) (by omega) (by first | exact is_57 hW1.2.1 | exact is_57 hW.2.1) (by decide) rfl rfl k1 ?_
      refine Ev.icmp_eqs (tgt := 1139) d_Law_law_855 rfl ?_
      refine Ev.iinc_3 d_Law_law_1139 rfl ?_
      refine Ev.goto (tgt := 18) d_Law_law_1142 rfl ?_
      exact g1
    · obtain ⟨vv, σ1, m1, m2, q1, k1, hW1, hB1, I2⟩ := op_text I 
      obtain ⟨σF, mF, g1, g2⟩ := lp_law hL hxs q (i + 6) σ1 m2 (by omega) (by omega) (by omega) I2
      refine ⟨σF, mF, ?_, g2⟩
      refine Ev.iload_n d_Law_law_18 rfl ?_
      refine Ev.aload_n d_Law_law_19 rfl ?_
      refine Ev.arraylength d_Law_law_20 (by first | exact hW.2.2.1 | exact hW1.2.2.1) (by decide) ?_
      refine Ev.bipush d_Law_law_21 rfl ?_
      refine Ev.isub d_Law_law_23 ?_
      refine Ev.icmp_gt (tgt := 1145) d_Law_law_24 rfl (by first | omega | (simp [mu]; done) | (simp [mu]; omega)) (by first | omega | (simp [mu]; done) | (simp [mu]; omega)) (fun hb24 => by exfalso; first | omega | simp at hb24 | contradiction) (fun hb24 => ?_)
      refine Ev.aload_n d_Law_law_27 rfl ?_
      refine Ev.iload_n d_Law_law_28 rfl ?_
      refine Ev.iaload d_Law_law_29 (by first | exact hW.2.2.1 | exact hW1.2.2.1) (by first | omega | (simp [mu]; done) | (simp [mu]; omega)) ?_
      rw [x0]
      refine Ev.bipush d_Law_law_30 rfl ?_
      refine Ev.iandm 5 d_Law_law_32 (by decide) rfl ?_
      rw [hx]
      refine Ev.tableIn (off := 827) (tgt := 860) d_Law_law_33 (by omega) (by omega) (by omega) rfl rfl ?_
      refine Ev.aload_n d_Law_law_860 rfl ?_
      refine Ev.callV d_Law_law_861 mt_FC_text lk_Law_104 in_FC_text se_FC_text rfl (Nat.le_of_ble_eq_true rfl) rfl (Nat.le_of_ble_eq_true rfl) (by omega) (by first | exact fi_3 hW.1 | exact fi_3 hW1.1) (by decide) rfl rfl q1 ?_
      refine Ev.aload_n d_Law_law_864 rfl ?_
      refine Ev.callV d_Law_law_865 mt_Mo_text lk_Law_107 in_Mo_text se_Mo_text rfl (Nat.le_of_ble_eq_true rfl) rfl (Nat.le_of_ble_eq_true rfl) (by omega) (by first | exact is_57 hW1.2.1 | exact is_57 hW.2.1) (by decide) rfl rfl k1 ?_
      refine Ev.icmp_eqs (tgt := 1139) d_Law_law_868 rfl ?_
      refine Ev.iinc_3 d_Law_law_1139 rfl ?_
      refine Ev.goto (tgt := 18) d_Law_law_1142 rfl ?_
      exact g1
    · obtain ⟨vv, σ1, m1, m2, q1, k1, hW1, hB1, I2⟩ := op_fault I 
      obtain ⟨σF, mF, g1, g2⟩ := lp_law hL hxs q (i + 6) σ1 m2 (by omega) (by omega) (by omega) I2
      refine ⟨σF, mF, ?_, g2⟩
      refine Ev.iload_n d_Law_law_18 rfl ?_
      refine Ev.aload_n d_Law_law_19 rfl ?_
      refine Ev.arraylength d_Law_law_20 (by first | exact hW.2.2.1 | exact hW1.2.2.1) (by decide) ?_
      refine Ev.bipush d_Law_law_21 rfl ?_
      refine Ev.isub d_Law_law_23 ?_
      refine Ev.icmp_gt (tgt := 1145) d_Law_law_24 rfl (by first | omega | (simp [mu]; done) | (simp [mu]; omega)) (by first | omega | (simp [mu]; done) | (simp [mu]; omega)) (fun hb24 => by exfalso; first | omega | simp at hb24 | contradiction) (fun hb24 => ?_)
      refine Ev.aload_n d_Law_law_27 rfl ?_
      refine Ev.iload_n d_Law_law_28 rfl ?_
      refine Ev.iaload d_Law_law_29 (by first | exact hW.2.2.1 | exact hW1.2.2.1) (by first | omega | (simp [mu]; done) | (simp [mu]; omega)) ?_
      rw [x0]
      refine Ev.bipush d_Law_law_30 rfl ?_
      refine Ev.iandm 5 d_Law_law_32 (by decide) rfl ?_
      rw [hx]
      refine Ev.tableIn (off := 840) (tgt := 873) d_Law_law_33 (by omega) (by omega) (by omega) rfl rfl ?_
      refine Ev.aload_n d_Law_law_873 rfl ?_
      refine Ev.callV d_Law_law_874 mt_FC_fault lk_Law_108 in_FC_fault se_FC_fault rfl (Nat.le_of_ble_eq_true rfl) rfl (Nat.le_of_ble_eq_true rfl) (by omega) (by first | exact fi_3 hW.1 | exact fi_3 hW1.1) (by decide) rfl rfl q1 ?_
      refine Ev.aload_n d_Law_law_877 rfl ?_
      refine Ev.callV d_Law_law_878 mt_Mo_fault lk_Law_111 in_Mo_fault se_Mo_fault rfl (Nat.le_of_ble_eq_true rfl) rfl (Nat.le_of_ble_eq_true rfl) (by omega) (by first | exact is_57 hW1.2.1 | exact is_57 hW.2.1) (by decide) rfl rfl k1 ?_
      refine Ev.icmp_eqs (tgt := 1139) d_Law_law_881 rfl ?_
      refine Ev.iinc_3 d_Law_law_1139 rfl ?_
      refine Ev.goto (tgt := 18) d_Law_law_1142 rfl ?_
      exact g1
    · obtain ⟨vv, σ1, m1, m2, q1, k1, hW1, hB1, I2⟩ := op_tangent I (hxs (i + 1))
      have y1 := hB1.1 (i + 1) (by omega) (by omega)
      obtain ⟨σF, mF, g1, g2⟩ := lp_law hL hxs q (i + 6) σ1 m2 (by omega) (by omega) (by omega) I2
      refine ⟨σF, mF, ?_, g2⟩
      refine Ev.iload_n d_Law_law_18 rfl ?_
      refine Ev.aload_n d_Law_law_19 rfl ?_
      refine Ev.arraylength d_Law_law_20 (by first | exact hW.2.2.1 | exact hW1.2.2.1) (by decide) ?_
      refine Ev.bipush d_Law_law_21 rfl ?_
      refine Ev.isub d_Law_law_23 ?_
      refine Ev.icmp_gt (tgt := 1145) d_Law_law_24 rfl (by first | omega | (simp [mu]; done) | (simp [mu]; omega)) (by first | omega | (simp [mu]; done) | (simp [mu]; omega)) (fun hb24 => by exfalso; first | omega | simp at hb24 | contradiction) (fun hb24 => ?_)
      refine Ev.aload_n d_Law_law_27 rfl ?_
      refine Ev.iload_n d_Law_law_28 rfl ?_
      refine Ev.iaload d_Law_law_29 (by first | exact hW.2.2.1 | exact hW1.2.2.1) (by first | omega | (simp [mu]; done) | (simp [mu]; omega)) ?_
      rw [x0]
      refine Ev.bipush d_Law_law_30 rfl ?_
      refine Ev.iandm 5 d_Law_law_32 (by decide) rfl ?_
      rw [hx]
      refine Ev.tableIn (off := 853) (tgt := 886) d_Law_law_33 (by omega) (by omega) (by omega) rfl rfl ?_
      refine Ev.aload_n d_Law_law_886 rfl ?_
      refine Ev.aload_n d_Law_law_887 rfl ?_
      refine Ev.iload_n d_Law_law_888 rfl ?_
      refine Ev.iconst d_Law_law_889 ?_
      refine Ev.iadd d_Law_law_890 ?_
      refine Ev.iaload d_Law_law_891 (by first | exact hW.2.2.1 | exact hW1.2.2.1) (by first | omega | (simp [mu]; done) | (simp [mu]; omega)) ?_
      rw [x1]
      refine Ev.callV d_Law_law_892 mt_FC_tangent lk_Law_112 in_FC_tangent se_FC_tangent rfl (Nat.le_of_ble_eq_true rfl) rfl (Nat.le_of_ble_eq_true rfl) (by omega) (by first | exact fi_3 hW.1 | exact fi_3 hW1.1) (by decide) rfl rfl q1 ?_
      refine Ev.aload_n d_Law_law_895 rfl ?_
      refine Ev.aload_n d_Law_law_896 rfl ?_
      refine Ev.iload_n d_Law_law_897 rfl ?_
      refine Ev.iconst d_Law_law_898 ?_
      refine Ev.iadd d_Law_law_899 ?_
      refine Ev.iaload d_Law_law_900 (by first | exact hW.2.2.1 | exact hW1.2.2.1) (by first | omega | (simp [mu]; done) | (simp [mu]; omega)) ?_
      rw [y1]
      refine Ev.callV d_Law_law_901 mt_Mo_tangent lk_Law_115 in_Mo_tangent se_Mo_tangent rfl (Nat.le_of_ble_eq_true rfl) rfl (Nat.le_of_ble_eq_true rfl) (by omega) (by first | exact is_57 hW1.2.1 | exact is_57 hW.2.1) (by decide) rfl rfl k1 ?_
      refine Ev.lcmps d_Law_law_904 ?_
      refine Ev.if_eq (tgt := 1139) d_Law_law_905 rfl (by first | omega | (simp [mu]; done) | (simp [mu]; omega)) (fun hb905 => ?_) (fun hb905 => by exfalso; first | omega | simp at hb905 | contradiction)
      refine Ev.iinc_3 d_Law_law_1139 rfl ?_
      refine Ev.goto (tgt := 18) d_Law_law_1142 rfl ?_
      exact g1
    · obtain ⟨vv, σ1, m1, m2, q1, k1, hW1, hB1, I2⟩ := op_has I (hxs (i + 1)) (hxs (i + 2))
      have y1 := hB1.1 (i + 1) (by omega) (by omega)
      have y2 := hB1.1 (i + 2) (by omega) (by omega)
      obtain ⟨σF, mF, g1, g2⟩ := lp_law hL hxs q (i + 6) σ1 m2 (by omega) (by omega) (by omega) I2
      refine ⟨σF, mF, ?_, g2⟩
      refine Ev.iload_n d_Law_law_18 rfl ?_
      refine Ev.aload_n d_Law_law_19 rfl ?_
      refine Ev.arraylength d_Law_law_20 (by first | exact hW.2.2.1 | exact hW1.2.2.1) (by decide) ?_
      refine Ev.bipush d_Law_law_21 rfl ?_
      refine Ev.isub d_Law_law_23 ?_
      refine Ev.icmp_gt (tgt := 1145) d_Law_law_24 rfl (by first | omega | (simp [mu]; done) | (simp [mu]; omega)) (by first | omega | (simp [mu]; done) | (simp [mu]; omega)) (fun hb24 => by exfalso; first | omega | simp at hb24 | contradiction) (fun hb24 => ?_)
      refine Ev.aload_n d_Law_law_27 rfl ?_
      refine Ev.iload_n d_Law_law_28 rfl ?_
      refine Ev.iaload d_Law_law_29 (by first | exact hW.2.2.1 | exact hW1.2.2.1) (by first | omega | (simp [mu]; done) | (simp [mu]; omega)) ?_
      rw [x0]
      refine Ev.bipush d_Law_law_30 rfl ?_
      refine Ev.iandm 5 d_Law_law_32 (by decide) rfl ?_
      rw [hx]
      refine Ev.tableIn (off := 877) (tgt := 910) d_Law_law_33 (by omega) (by omega) (by omega) rfl rfl ?_
      refine Ev.aload_n d_Law_law_910 rfl ?_
      refine Ev.aload_n d_Law_law_911 rfl ?_
      refine Ev.iload_n d_Law_law_912 rfl ?_
      refine Ev.iconst d_Law_law_913 ?_
      refine Ev.iadd d_Law_law_914 ?_
      refine Ev.iaload d_Law_law_915 (by first | exact hW.2.2.1 | exact hW1.2.2.1) (by first | omega | (simp [mu]; done) | (simp [mu]; omega)) ?_
      rw [x1]
      refine Ev.aload_n d_Law_law_916 rfl ?_
      refine Ev.iload_n d_Law_law_917 rfl ?_
      refine Ev.iconst d_Law_law_918 ?_
      refine Ev.iadd d_Law_law_919 ?_
      refine Ev.iaload d_Law_law_920 (by first | exact hW.2.2.1 | exact hW1.2.2.1) (by first | omega | (simp [mu]; done) | (simp [mu]; omega)) ?_
      rw [x2]
      refine Ev.callV d_Law_law_921 mt_FC_has lk_Law_116 in_FC_has se_FC_has rfl (Nat.le_of_ble_eq_true rfl) rfl (Nat.le_of_ble_eq_true rfl) (by omega) (by first | exact fi_3 hW.1 | exact fi_3 hW1.1) (by decide) rfl rfl q1 ?_
      refine Ev.aload_n d_Law_law_924 rfl ?_
      refine Ev.aload_n d_Law_law_925 rfl ?_
      refine Ev.iload_n d_Law_law_926 rfl ?_
      refine Ev.iconst d_Law_law_927 ?_
      refine Ev.iadd d_Law_law_928 ?_
      refine Ev.iaload d_Law_law_929 (by first | exact hW.2.2.1 | exact hW1.2.2.1) (by first | omega | (simp [mu]; done) | (simp [mu]; omega)) ?_
      rw [y1]
      refine Ev.aload_n d_Law_law_930 rfl ?_
      refine Ev.iload_n d_Law_law_931 rfl ?_
      refine Ev.iconst d_Law_law_932 ?_
      refine Ev.iadd d_Law_law_933 ?_
      refine Ev.iaload d_Law_law_934 (by first | exact hW.2.2.1 | exact hW1.2.2.1) (by first | omega | (simp [mu]; done) | (simp [mu]; omega)) ?_
      rw [y2]
      refine Ev.callV d_Law_law_935 mt_Mo_has lk_Law_119 in_Mo_has se_Mo_has rfl (Nat.le_of_ble_eq_true rfl) rfl (Nat.le_of_ble_eq_true rfl) (by omega) (by first | exact is_57 hW1.2.1 | exact is_57 hW.2.1) (by decide) rfl rfl k1 ?_
      refine Ev.icmp_eqs (tgt := 1139) d_Law_law_938 rfl ?_
      refine Ev.iinc_3 d_Law_law_1139 rfl ?_
      refine Ev.goto (tgt := 18) d_Law_law_1142 rfl ?_
      exact g1
    · obtain ⟨vv, σ1, m1, m2, q1, k1, hW1, hB1, I2⟩ := op_rational I (hxs (i + 1))
      have y1 := hB1.1 (i + 1) (by omega) (by omega)
      obtain ⟨σF, mF, g1, g2⟩ := lp_law hL hxs q (i + 6) σ1 m2 (by omega) (by omega) (by omega) I2
      refine ⟨σF, mF, ?_, g2⟩
      refine Ev.iload_n d_Law_law_18 rfl ?_
      refine Ev.aload_n d_Law_law_19 rfl ?_
      refine Ev.arraylength d_Law_law_20 (by first | exact hW.2.2.1 | exact hW1.2.2.1) (by decide) ?_
      refine Ev.bipush d_Law_law_21 rfl ?_
      refine Ev.isub d_Law_law_23 ?_
      refine Ev.icmp_gt (tgt := 1145) d_Law_law_24 rfl (by first | omega | (simp [mu]; done) | (simp [mu]; omega)) (by first | omega | (simp [mu]; done) | (simp [mu]; omega)) (fun hb24 => by exfalso; first | omega | simp at hb24 | contradiction) (fun hb24 => ?_)
      refine Ev.aload_n d_Law_law_27 rfl ?_
      refine Ev.iload_n d_Law_law_28 rfl ?_
      refine Ev.iaload d_Law_law_29 (by first | exact hW.2.2.1 | exact hW1.2.2.1) (by first | omega | (simp [mu]; done) | (simp [mu]; omega)) ?_
      rw [x0]
      refine Ev.bipush d_Law_law_30 rfl ?_
      refine Ev.iandm 5 d_Law_law_32 (by decide) rfl ?_
      rw [hx]
      refine Ev.tableIn (off := 910) (tgt := 943) d_Law_law_33 (by omega) (by omega) (by omega) rfl rfl ?_
      refine Ev.aload_n d_Law_law_943 rfl ?_
      refine Ev.aload_n d_Law_law_944 rfl ?_
      refine Ev.iload_n d_Law_law_945 rfl ?_
      refine Ev.iconst d_Law_law_946 ?_
      refine Ev.iadd d_Law_law_947 ?_
      refine Ev.iaload d_Law_law_948 (by first | exact hW.2.2.1 | exact hW1.2.2.1) (by first | omega | (simp [mu]; done) | (simp [mu]; omega)) ?_
      rw [x1]
      refine Ev.callV d_Law_law_949 mt_FC_rational lk_Law_120 in_FC_rational se_FC_rational rfl (Nat.le_of_ble_eq_true rfl) rfl (Nat.le_of_ble_eq_true rfl) (by omega) (by first | exact fi_3 hW.1 | exact fi_3 hW1.1) (by decide) rfl rfl q1 ?_
      refine Ev.aload_n d_Law_law_952 rfl ?_
      refine Ev.aload_n d_Law_law_953 rfl ?_
      refine Ev.iload_n d_Law_law_954 rfl ?_
      refine Ev.iconst d_Law_law_955 ?_
      refine Ev.iadd d_Law_law_956 ?_
      refine Ev.iaload d_Law_law_957 (by first | exact hW.2.2.1 | exact hW1.2.2.1) (by first | omega | (simp [mu]; done) | (simp [mu]; omega)) ?_
      rw [y1]
      refine Ev.callV d_Law_law_958 mt_Mo_rational lk_Law_123 in_Mo_rational se_Mo_rational rfl (Nat.le_of_ble_eq_true rfl) rfl (Nat.le_of_ble_eq_true rfl) (by omega) (by first | exact is_57 hW1.2.1 | exact is_57 hW.2.1) (by decide) rfl rfl k1 ?_
      refine Ev.lcmps d_Law_law_961 ?_
      refine Ev.if_eq (tgt := 1139) d_Law_law_962 rfl (by first | omega | (simp [mu]; done) | (simp [mu]; omega)) (fun hb962 => ?_) (fun hb962 => by exfalso; first | omega | simp at hb962 | contradiction)
      refine Ev.iinc_3 d_Law_law_1139 rfl ?_
      refine Ev.goto (tgt := 18) d_Law_law_1142 rfl ?_
      exact g1
    · obtain ⟨vv, σ1, m1, m2, q1, k1, hW1, hB1, I2⟩ := op_sheet I (hxs (i + 1)) (hxs (i + 2)) (hxs (i + 3))
      have y1 := hB1.1 (i + 1) (by omega) (by omega)
      have y2 := hB1.1 (i + 2) (by omega) (by omega)
      have y3 := hB1.1 (i + 3) (by omega) (by omega)
      obtain ⟨σF, mF, g1, g2⟩ := lp_law hL hxs q (i + 6) σ1 m2 (by omega) (by omega) (by omega) I2
      refine ⟨σF, mF, ?_, g2⟩
      refine Ev.iload_n d_Law_law_18 rfl ?_
      refine Ev.aload_n d_Law_law_19 rfl ?_
      refine Ev.arraylength d_Law_law_20 (by first | exact hW.2.2.1 | exact hW1.2.2.1) (by decide) ?_
      refine Ev.bipush d_Law_law_21 rfl ?_
      refine Ev.isub d_Law_law_23 ?_
      refine Ev.icmp_gt (tgt := 1145) d_Law_law_24 rfl (by first | omega | (simp [mu]; done) | (simp [mu]; omega)) (by first | omega | (simp [mu]; done) | (simp [mu]; omega)) (fun hb24 => by exfalso; first | omega | simp at hb24 | contradiction) (fun hb24 => ?_)
      refine Ev.aload_n d_Law_law_27 rfl ?_
      refine Ev.iload_n d_Law_law_28 rfl ?_
      refine Ev.iaload d_Law_law_29 (by first | exact hW.2.2.1 | exact hW1.2.2.1) (by first | omega | (simp [mu]; done) | (simp [mu]; omega)) ?_
      rw [x0]
      refine Ev.bipush d_Law_law_30 rfl ?_
      refine Ev.iandm 5 d_Law_law_32 (by decide) rfl ?_
      rw [hx]
      refine Ev.tableIn (off := 934) (tgt := 967) d_Law_law_33 (by omega) (by omega) (by omega) rfl rfl ?_
      refine Ev.aload_n d_Law_law_967 rfl ?_
      refine Ev.aload_n d_Law_law_968 rfl ?_
      refine Ev.iload_n d_Law_law_969 rfl ?_
      refine Ev.iconst d_Law_law_970 ?_
      refine Ev.iadd d_Law_law_971 ?_
      refine Ev.iaload d_Law_law_972 (by first | exact hW.2.2.1 | exact hW1.2.2.1) (by first | omega | (simp [mu]; done) | (simp [mu]; omega)) ?_
      rw [x1]
      refine Ev.aload_n d_Law_law_973 rfl ?_
      refine Ev.iload_n d_Law_law_974 rfl ?_
      refine Ev.iconst d_Law_law_975 ?_
      refine Ev.iadd d_Law_law_976 ?_
      refine Ev.iaload d_Law_law_977 (by first | exact hW.2.2.1 | exact hW1.2.2.1) (by first | omega | (simp [mu]; done) | (simp [mu]; omega)) ?_
      rw [x2]
      refine Ev.aload_n d_Law_law_978 rfl ?_
      refine Ev.iload_n d_Law_law_979 rfl ?_
      refine Ev.iconst d_Law_law_980 ?_
      refine Ev.iadd d_Law_law_981 ?_
      refine Ev.iaload d_Law_law_982 (by first | exact hW.2.2.1 | exact hW1.2.2.1) (by first | omega | (simp [mu]; done) | (simp [mu]; omega)) ?_
      rw [x3]
      refine Ev.callV d_Law_law_983 mt_FC_sheet lk_Law_124 in_FC_sheet se_FC_sheet rfl (Nat.le_of_ble_eq_true rfl) rfl (Nat.le_of_ble_eq_true rfl) (by omega) (by first | exact fi_3 hW.1 | exact fi_3 hW1.1) (by decide) rfl rfl q1 ?_
      refine Ev.aload_n d_Law_law_986 rfl ?_
      refine Ev.aload_n d_Law_law_987 rfl ?_
      refine Ev.iload_n d_Law_law_988 rfl ?_
      refine Ev.iconst d_Law_law_989 ?_
      refine Ev.iadd d_Law_law_990 ?_
      refine Ev.iaload d_Law_law_991 (by first | exact hW.2.2.1 | exact hW1.2.2.1) (by first | omega | (simp [mu]; done) | (simp [mu]; omega)) ?_
      rw [y1]
      refine Ev.aload_n d_Law_law_992 rfl ?_
      refine Ev.iload_n d_Law_law_993 rfl ?_
      refine Ev.iconst d_Law_law_994 ?_
      refine Ev.iadd d_Law_law_995 ?_
      refine Ev.iaload d_Law_law_996 (by first | exact hW.2.2.1 | exact hW1.2.2.1) (by first | omega | (simp [mu]; done) | (simp [mu]; omega)) ?_
      rw [y2]
      refine Ev.aload_n d_Law_law_997 rfl ?_
      refine Ev.iload_n d_Law_law_998 rfl ?_
      refine Ev.iconst d_Law_law_999 ?_
      refine Ev.iadd d_Law_law_1000 ?_
      refine Ev.iaload d_Law_law_1001 (by first | exact hW.2.2.1 | exact hW1.2.2.1) (by first | omega | (simp [mu]; done) | (simp [mu]; omega)) ?_
      rw [y3]
      refine Ev.callV d_Law_law_1002 mt_Mo_sheet lk_Law_127 in_Mo_sheet se_Mo_sheet rfl (Nat.le_of_ble_eq_true rfl) rfl (Nat.le_of_ble_eq_true rfl) (by omega) (by first | exact is_57 hW1.2.1 | exact is_57 hW.2.1) (by decide) rfl rfl k1 ?_
      refine Ev.icmp_eqs (tgt := 1139) d_Law_law_1005 rfl ?_
      refine Ev.iinc_3 d_Law_law_1139 rfl ?_
      refine Ev.goto (tgt := 18) d_Law_law_1142 rfl ?_
      exact g1
    · obtain ⟨vv, σ1, m1, m2, q1, k1, hW1, hB1, I2⟩ := op_lay I (hxs (i + 1)) (hxs (i + 2)) (hxs (i + 3))
      have y1 := hB1.1 (i + 1) (by omega) (by omega)
      have y2 := hB1.1 (i + 2) (by omega) (by omega)
      have y3 := hB1.1 (i + 3) (by omega) (by omega)
      obtain ⟨σF, mF, g1, g2⟩ := lp_law hL hxs q (i + 6) σ1 m2 (by omega) (by omega) (by omega) I2
      refine ⟨σF, mF, ?_, g2⟩
      refine Ev.iload_n d_Law_law_18 rfl ?_
      refine Ev.aload_n d_Law_law_19 rfl ?_
      refine Ev.arraylength d_Law_law_20 (by first | exact hW.2.2.1 | exact hW1.2.2.1) (by decide) ?_
      refine Ev.bipush d_Law_law_21 rfl ?_
      refine Ev.isub d_Law_law_23 ?_
      refine Ev.icmp_gt (tgt := 1145) d_Law_law_24 rfl (by first | omega | (simp [mu]; done) | (simp [mu]; omega)) (by first | omega | (simp [mu]; done) | (simp [mu]; omega)) (fun hb24 => by exfalso; first | omega | simp at hb24 | contradiction) (fun hb24 => ?_)
      refine Ev.aload_n d_Law_law_27 rfl ?_
      refine Ev.iload_n d_Law_law_28 rfl ?_
      refine Ev.iaload d_Law_law_29 (by first | exact hW.2.2.1 | exact hW1.2.2.1) (by first | omega | (simp [mu]; done) | (simp [mu]; omega)) ?_
      rw [x0]
      refine Ev.bipush d_Law_law_30 rfl ?_
      refine Ev.iandm 5 d_Law_law_32 (by decide) rfl ?_
      rw [hx]
      refine Ev.tableIn (off := 977) (tgt := 1010) d_Law_law_33 (by omega) (by omega) (by omega) rfl rfl ?_
      refine Ev.aload_n d_Law_law_1010 rfl ?_
      refine Ev.aload_n d_Law_law_1011 rfl ?_
      refine Ev.iload_n d_Law_law_1012 rfl ?_
      refine Ev.iconst d_Law_law_1013 ?_
      refine Ev.iadd d_Law_law_1014 ?_
      refine Ev.iaload d_Law_law_1015 (by first | exact hW.2.2.1 | exact hW1.2.2.1) (by first | omega | (simp [mu]; done) | (simp [mu]; omega)) ?_
      rw [x1]
      refine Ev.aload_n d_Law_law_1016 rfl ?_
      refine Ev.iload_n d_Law_law_1017 rfl ?_
      refine Ev.iconst d_Law_law_1018 ?_
      refine Ev.iadd d_Law_law_1019 ?_
      refine Ev.iaload d_Law_law_1020 (by first | exact hW.2.2.1 | exact hW1.2.2.1) (by first | omega | (simp [mu]; done) | (simp [mu]; omega)) ?_
      rw [x2]
      refine Ev.aload_n d_Law_law_1021 rfl ?_
      refine Ev.iload_n d_Law_law_1022 rfl ?_
      refine Ev.iconst d_Law_law_1023 ?_
      refine Ev.iadd d_Law_law_1024 ?_
      refine Ev.iaload d_Law_law_1025 (by first | exact hW.2.2.1 | exact hW1.2.2.1) (by first | omega | (simp [mu]; done) | (simp [mu]; omega)) ?_
      rw [x3]
      refine Ev.callV d_Law_law_1026 mt_FC_lay lk_Law_128 in_FC_lay se_FC_lay rfl (Nat.le_of_ble_eq_true rfl) rfl (Nat.le_of_ble_eq_true rfl) (by omega) (by first | exact fi_3 hW.1 | exact fi_3 hW1.1) (by decide) rfl rfl q1 ?_
      refine Ev.aload_n d_Law_law_1029 rfl ?_
      refine Ev.aload_n d_Law_law_1030 rfl ?_
      refine Ev.iload_n d_Law_law_1031 rfl ?_
      refine Ev.iconst d_Law_law_1032 ?_
      refine Ev.iadd d_Law_law_1033 ?_
      refine Ev.iaload d_Law_law_1034 (by first | exact hW.2.2.1 | exact hW1.2.2.1) (by first | omega | (simp [mu]; done) | (simp [mu]; omega)) ?_
      rw [y1]
      refine Ev.aload_n d_Law_law_1035 rfl ?_
      refine Ev.iload_n d_Law_law_1036 rfl ?_
      refine Ev.iconst d_Law_law_1037 ?_
      refine Ev.iadd d_Law_law_1038 ?_
      refine Ev.iaload d_Law_law_1039 (by first | exact hW.2.2.1 | exact hW1.2.2.1) (by first | omega | (simp [mu]; done) | (simp [mu]; omega)) ?_
      rw [y2]
      refine Ev.aload_n d_Law_law_1040 rfl ?_
      refine Ev.iload_n d_Law_law_1041 rfl ?_
      refine Ev.iconst d_Law_law_1042 ?_
      refine Ev.iadd d_Law_law_1043 ?_
      refine Ev.iaload d_Law_law_1044 (by first | exact hW.2.2.1 | exact hW1.2.2.1) (by first | omega | (simp [mu]; done) | (simp [mu]; omega)) ?_
      rw [y3]
      refine Ev.callV d_Law_law_1045 mt_Mo_lay lk_Law_131 in_Mo_lay se_Mo_lay rfl (Nat.le_of_ble_eq_true rfl) rfl (Nat.le_of_ble_eq_true rfl) (by omega) (by first | exact is_57 hW1.2.1 | exact is_57 hW.2.1) (by decide) rfl rfl k1 ?_
      refine Ev.icmp_eqs (tgt := 1139) d_Law_law_1048 rfl ?_
      refine Ev.iinc_3 d_Law_law_1139 rfl ?_
      refine Ev.goto (tgt := 18) d_Law_law_1142 rfl ?_
      exact g1
    · obtain ⟨vv, σ1, m1, m2, q1, k1, hW1, hB1, I2⟩ := op_draw I (hxs (i + 1)) (hxs (i + 2)) (hxs (i + 3)) (hxs (i + 4)) (hxs (i + 5))
      have y1 := hB1.1 (i + 1) (by omega) (by omega)
      have y2 := hB1.1 (i + 2) (by omega) (by omega)
      have y3 := hB1.1 (i + 3) (by omega) (by omega)
      have y4 := hB1.1 (i + 4) (by omega) (by omega)
      have y5 := hB1.1 (i + 5) (by omega) (by omega)
      obtain ⟨σF, mF, g1, g2⟩ := lp_law hL hxs q (i + 6) σ1 m2 (by omega) (by omega) (by omega) I2
      refine ⟨σF, mF, ?_, g2⟩
      refine Ev.iload_n d_Law_law_18 rfl ?_
      refine Ev.aload_n d_Law_law_19 rfl ?_
      refine Ev.arraylength d_Law_law_20 (by first | exact hW.2.2.1 | exact hW1.2.2.1) (by decide) ?_
      refine Ev.bipush d_Law_law_21 rfl ?_
      refine Ev.isub d_Law_law_23 ?_
      refine Ev.icmp_gt (tgt := 1145) d_Law_law_24 rfl (by first | omega | (simp [mu]; done) | (simp [mu]; omega)) (by first | omega | (simp [mu]; done) | (simp [mu]; omega)) (fun hb24 => by exfalso; first | omega | simp at hb24 | contradiction) (fun hb24 => ?_)
      refine Ev.aload_n d_Law_law_27 rfl ?_
      refine Ev.iload_n d_Law_law_28 rfl ?_
      refine Ev.iaload d_Law_law_29 (by first | exact hW.2.2.1 | exact hW1.2.2.1) (by first | omega | (simp [mu]; done) | (simp [mu]; omega)) ?_
      rw [x0]
      refine Ev.bipush d_Law_law_30 rfl ?_
      refine Ev.iandm 5 d_Law_law_32 (by decide) rfl ?_
      rw [hx]
      refine Ev.tableIn (off := 1020) (tgt := 1053) d_Law_law_33 (by omega) (by omega) (by omega) rfl rfl ?_
      refine Ev.aload_n d_Law_law_1053 rfl ?_
      refine Ev.aload_n d_Law_law_1054 rfl ?_
      refine Ev.iload_n d_Law_law_1055 rfl ?_
      refine Ev.iconst d_Law_law_1056 ?_
      refine Ev.iadd d_Law_law_1057 ?_
      refine Ev.iaload d_Law_law_1058 (by first | exact hW.2.2.1 | exact hW1.2.2.1) (by first | omega | (simp [mu]; done) | (simp [mu]; omega)) ?_
      rw [x1]
      refine Ev.aload_n d_Law_law_1059 rfl ?_
      refine Ev.iload_n d_Law_law_1060 rfl ?_
      refine Ev.iconst d_Law_law_1061 ?_
      refine Ev.iadd d_Law_law_1062 ?_
      refine Ev.iaload d_Law_law_1063 (by first | exact hW.2.2.1 | exact hW1.2.2.1) (by first | omega | (simp [mu]; done) | (simp [mu]; omega)) ?_
      rw [x2]
      refine Ev.aload_n d_Law_law_1064 rfl ?_
      refine Ev.iload_n d_Law_law_1065 rfl ?_
      refine Ev.iconst d_Law_law_1066 ?_
      refine Ev.iadd d_Law_law_1067 ?_
      refine Ev.iaload d_Law_law_1068 (by first | exact hW.2.2.1 | exact hW1.2.2.1) (by first | omega | (simp [mu]; done) | (simp [mu]; omega)) ?_
      rw [x3]
      refine Ev.aload_n d_Law_law_1069 rfl ?_
      refine Ev.iload_n d_Law_law_1070 rfl ?_
      refine Ev.iconst d_Law_law_1071 ?_
      refine Ev.iadd d_Law_law_1072 ?_
      refine Ev.iaload d_Law_law_1073 (by first | exact hW.2.2.1 | exact hW1.2.2.1) (by first | omega | (simp [mu]; done) | (simp [mu]; omega)) ?_
      rw [x4]
      refine Ev.aload_n d_Law_law_1074 rfl ?_
      refine Ev.iload_n d_Law_law_1075 rfl ?_
      refine Ev.iconst d_Law_law_1076 ?_
      refine Ev.iadd d_Law_law_1077 ?_
      refine Ev.iaload d_Law_law_1078 (by first | exact hW.2.2.1 | exact hW1.2.2.1) (by first | omega | (simp [mu]; done) | (simp [mu]; omega)) ?_
      rw [x5]
      refine Ev.callV d_Law_law_1079 mt_FC_draw lk_Law_132 in_FC_draw se_FC_draw rfl (Nat.le_of_ble_eq_true rfl) rfl (Nat.le_of_ble_eq_true rfl) (by omega) (by first | exact fi_3 hW.1 | exact fi_3 hW1.1) (by decide) rfl rfl q1 ?_
      refine Ev.aload_n d_Law_law_1082 rfl ?_
      refine Ev.aload_n d_Law_law_1083 rfl ?_
      refine Ev.iload_n d_Law_law_1084 rfl ?_
      refine Ev.iconst d_Law_law_1085 ?_
      refine Ev.iadd d_Law_law_1086 ?_
      refine Ev.iaload d_Law_law_1087 (by first | exact hW.2.2.1 | exact hW1.2.2.1) (by first | omega | (simp [mu]; done) | (simp [mu]; omega)) ?_
      rw [y1]
      refine Ev.aload_n d_Law_law_1088 rfl ?_
      refine Ev.iload_n d_Law_law_1089 rfl ?_
      refine Ev.iconst d_Law_law_1090 ?_
      refine Ev.iadd d_Law_law_1091 ?_
      refine Ev.iaload d_Law_law_1092 (by first | exact hW.2.2.1 | exact hW1.2.2.1) (by first | omega | (simp [mu]; done) | (simp [mu]; omega)) ?_
      rw [y2]
      refine Ev.aload_n d_Law_law_1093 rfl ?_
      refine Ev.iload_n d_Law_law_1094 rfl ?_
      refine Ev.iconst d_Law_law_1095 ?_
      refine Ev.iadd d_Law_law_1096 ?_
      refine Ev.iaload d_Law_law_1097 (by first | exact hW.2.2.1 | exact hW1.2.2.1) (by first | omega | (simp [mu]; done) | (simp [mu]; omega)) ?_
      rw [y3]
      refine Ev.aload_n d_Law_law_1098 rfl ?_
      refine Ev.iload_n d_Law_law_1099 rfl ?_
      refine Ev.iconst d_Law_law_1100 ?_
      refine Ev.iadd d_Law_law_1101 ?_
      refine Ev.iaload d_Law_law_1102 (by first | exact hW.2.2.1 | exact hW1.2.2.1) (by first | omega | (simp [mu]; done) | (simp [mu]; omega)) ?_
      rw [y4]
      refine Ev.aload_n d_Law_law_1103 rfl ?_
      refine Ev.iload_n d_Law_law_1104 rfl ?_
      refine Ev.iconst d_Law_law_1105 ?_
      refine Ev.iadd d_Law_law_1106 ?_
      refine Ev.iaload d_Law_law_1107 (by first | exact hW.2.2.1 | exact hW1.2.2.1) (by first | omega | (simp [mu]; done) | (simp [mu]; omega)) ?_
      rw [y5]
      refine Ev.callV d_Law_law_1108 mt_Mo_draw lk_Law_136 in_Mo_draw se_Mo_draw rfl (Nat.le_of_ble_eq_true rfl) rfl (Nat.le_of_ble_eq_true rfl) (by omega) (by first | exact is_57 hW1.2.1 | exact is_57 hW.2.1) (by decide) rfl rfl k1 ?_
      refine Ev.icmp_eqs (tgt := 1139) d_Law_law_1111 rfl ?_
      refine Ev.iinc_3 d_Law_law_1139 rfl ?_
      refine Ev.goto (tgt := 18) d_Law_law_1142 rfl ?_
      exact g1
    · obtain ⟨vv, σ1, m1, m2, q1, k1, hW1, hB1, I2⟩ := op_many I (hxs (i + 1))
      have y1 := hB1.1 (i + 1) (by omega) (by omega)
      obtain ⟨σF, mF, g1, g2⟩ := lp_law hL hxs q (i + 6) σ1 m2 (by omega) (by omega) (by omega) I2
      refine ⟨σF, mF, ?_, g2⟩
      refine Ev.iload_n d_Law_law_18 rfl ?_
      refine Ev.aload_n d_Law_law_19 rfl ?_
      refine Ev.arraylength d_Law_law_20 (by first | exact hW.2.2.1 | exact hW1.2.2.1) (by decide) ?_
      refine Ev.bipush d_Law_law_21 rfl ?_
      refine Ev.isub d_Law_law_23 ?_
      refine Ev.icmp_gt (tgt := 1145) d_Law_law_24 rfl (by first | omega | (simp [mu]; done) | (simp [mu]; omega)) (by first | omega | (simp [mu]; done) | (simp [mu]; omega)) (fun hb24 => by exfalso; first | omega | simp at hb24 | contradiction) (fun hb24 => ?_)
      refine Ev.aload_n d_Law_law_27 rfl ?_
      refine Ev.iload_n d_Law_law_28 rfl ?_
      refine Ev.iaload d_Law_law_29 (by first | exact hW.2.2.1 | exact hW1.2.2.1) (by first | omega | (simp [mu]; done) | (simp [mu]; omega)) ?_
      rw [x0]
      refine Ev.bipush d_Law_law_30 rfl ?_
      refine Ev.iandm 5 d_Law_law_32 (by decide) rfl ?_
      rw [hx]
      refine Ev.tableIn (off := 1083) (tgt := 1116) d_Law_law_33 (by omega) (by omega) (by omega) rfl rfl ?_
      refine Ev.aload_n d_Law_law_1116 rfl ?_
      refine Ev.aload_n d_Law_law_1117 rfl ?_
      refine Ev.iload_n d_Law_law_1118 rfl ?_
      refine Ev.iconst d_Law_law_1119 ?_
      refine Ev.iadd d_Law_law_1120 ?_
      refine Ev.iaload d_Law_law_1121 (by first | exact hW.2.2.1 | exact hW1.2.2.1) (by first | omega | (simp [mu]; done) | (simp [mu]; omega)) ?_
      rw [x1]
      refine Ev.callV d_Law_law_1122 mt_FC_many lk_Law_137 in_FC_many se_FC_many rfl (Nat.le_of_ble_eq_true rfl) rfl (Nat.le_of_ble_eq_true rfl) (by omega) (by first | exact fi_3 hW.1 | exact fi_3 hW1.1) (by decide) rfl rfl q1 ?_
      refine Ev.aload_n d_Law_law_1125 rfl ?_
      refine Ev.aload_n d_Law_law_1126 rfl ?_
      refine Ev.iload_n d_Law_law_1127 rfl ?_
      refine Ev.iconst d_Law_law_1128 ?_
      refine Ev.iadd d_Law_law_1129 ?_
      refine Ev.iaload d_Law_law_1130 (by first | exact hW.2.2.1 | exact hW1.2.2.1) (by first | omega | (simp [mu]; done) | (simp [mu]; omega)) ?_
      rw [y1]
      refine Ev.callV d_Law_law_1131 mt_Mo_many lk_Law_140 in_Mo_many se_Mo_many rfl (Nat.le_of_ble_eq_true rfl) rfl (Nat.le_of_ble_eq_true rfl) (by omega) (by first | exact is_57 hW1.2.1 | exact is_57 hW.2.1) (by decide) rfl rfl k1 ?_
      refine Ev.icmp_eqs (tgt := 1139) d_Law_law_1134 rfl ?_
      refine Ev.iinc_3 d_Law_law_1139 rfl ?_
      refine Ev.goto (tgt := 18) d_Law_law_1142 rfl ?_
      exact g1
end
