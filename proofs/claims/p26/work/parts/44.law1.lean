def R_law : String := "TastingHouseLaw"
section LROW
variable {κ : Kp} {δ : Dp} {ad : Nat → Nat} {rt : Rt} {Q : State → Prop} {mL : Nat} {ρ : Nat × Nat × Nat} {pc : Nat} {L : List (Option Value)} {S S0 : List Value} {M : Mem} {cc : ByteArray} {own : String} {ret : Option FieldType} {rm : Room}
theorem Z_sld (hk : okK κ δ cc own mL ret rm) {b Ln : Nat} {xs : Nat → Int32} (hX : va_X b Ln xs κ.2.2.2.2.1 κ.2.2.2.2.1.heap) (hbl : b < κ.2.2.2.2.1.heap.size) (hbA : b < δ.2.2.1) (hLn : Ln ≤ 3072) {i : Int} (h0 : 0 ≤ i) (h1 : i < Ln) (hd : decode cc pc = .ok (.iaload, 1)) (kk : ∀ v : Int, v = (xs i.toNat).toInt → -2147483648 ≤ v → v ≤ 2147483647 → Zj κ δ ad rt Q mL ρ (pc + 1) L (iv v :: S) M) : Zj κ δ ad rt Q mL ρ pc L (iv i :: .ref b :: S) M := by
  intro H locs ls hw hs hl
  refine va_sld hk.1 hk.2.1 hX hbl (Nat.not_le.mpr hbA) hs (zI_vin h0 h1 (by omega)) hd ?_
  rw [zI_nat h0 (by omega)]
  have e : Value.int (xs i.toNat) = iv (xs i.toNat).toInt := by unfold iv; rw [zI_of]
  rw [e]
  exact kk _ rfl (zI_lo _) (zI_hi _) H locs ls hw hs hl
theorem Z_slen (hk : okK κ δ cc own mL ret rm) {b Ln : Nat} {xs : Nat → Int32} (hX : va_X b Ln xs κ.2.2.2.2.1 κ.2.2.2.2.1.heap) (hbl : b < κ.2.2.2.2.1.heap.size) (hbA : b < δ.2.2.1) (hLn : Ln ≤ 3072) (hd : decode cc pc = .ok (.arraylength, 1)) (kk : Zj κ δ ad rt Q mL ρ (pc + 1) L (iv Ln :: S) M) : Zj κ δ ad rt Q mL ρ pc L (.ref b :: S) M := by
  intro H locs ls hw hs hl
  refine va_slen hk.1 hk.2.1 hX hbl (Nat.not_le.mpr hbA) hs hd ?_
  have e : Value.int (Int32.ofNat Ln) = iv Ln := by
    unfold iv
    rw [zI_nI (x := (Ln : Int)) (by omega) (by omega)]
    rfl
  rw [e]
  exact kk H locs ls hw hs hl
theorem Z_LVi (hk : okK κ δ cc own mL ret room_1) {cs ss : Nat} {y : MethodName} {bytes : ByteArray} {mL' n kb N idx b fr' lo' : Nat} {ret' : Option FieldType} {As : List Value} {post : Int → Mem → Prop} (hM : Mi κ.2.1 δ y bytes mL' ret' fr' lo' ad rs (.ref (ad b) :: As) M post) (hV : okV y bytes mL' ret' n kb) (hlk : Cond.methodLink own idx y ∈ lw_g) (hd : decode cc pc = .ok (.invokevirtual idx, 3)) (hn : As.length = n) (hR : fr' + 1 ≤ 2048 ∧ 8 + (mL' + 11) + lo' ≤ 84000) (hb : lay b = (kb, N)) (hkb : kb < 100) (hb2 : b < 121) (hst : S0 = As.reverse ++ .ref (ad b) :: S) (hsum : (S.map fun v => v.category).sum ≤ 8) (hf : cs + 0 ≤ 600000 ∧ ss + 0 ≤ 7302250) (kk : ∀ (r : Int) (M' : Mem), post r M' → Zj κ δ ad rs Q mL (121, cs, ss) (pc + 3) L (iv r :: S) M') : Zj κ δ ad rs Q mL (121, cs, ss) pc L S0 M :=
  Z_callV hk (ρ := (121, cs, ss)) hM hV hlk hd hn hR hb hkb hb2 hst hsum hf (fun v ad' rt' M' _ h => by obtain ⟨rfl, rfl, r, rfl, hp⟩ := h; exact kk r M' hp)
theorem Z_LVj (hk : okK κ δ cc own mL ret room_1) {cs ss : Nat} {y : MethodName} {bytes : ByteArray} {mL' n kb N idx b fr' lo' : Nat} {ret' : Option FieldType} {As : List Value} {post : Int → Mem → Prop} (hM : Mj κ.2.1 δ y bytes mL' ret' fr' lo' ad rs (.ref (ad b) :: As) M post) (hV : okV y bytes mL' ret' n kb) (hlk : Cond.methodLink own idx y ∈ lw_g) (hd : decode cc pc = .ok (.invokevirtual idx, 3)) (hn : As.length = n) (hR : fr' + 1 ≤ 2048 ∧ 8 + (mL' + 11) + lo' ≤ 84000) (hb : lay b = (kb, N)) (hkb : kb < 100) (hb2 : b < 121) (hst : S0 = As.reverse ++ .ref (ad b) :: S) (hsum : (S.map fun v => v.category).sum ≤ 8) (hf : cs + 0 ≤ 600000 ∧ ss + 0 ≤ 7302250) (kk : ∀ (r : Int) (M' : Mem), post r M' → Zj κ δ ad rs Q mL (121, cs, ss) (pc + 3) L (jv r :: S) M') : Zj κ δ ad rs Q mL (121, cs, ss) pc L S0 M :=
  Z_callV hk (ρ := (121, cs, ss)) hM hV hlk hd hn hR hb hkb hb2 hst hsum hf (fun v ad' rt' M' _ h => by obtain ⟨rfl, rfl, r, rfl, hp⟩ := h; exact kk r M' hp)
theorem Z_LVv (hk : okK κ δ cc own mL ret room_1) {cs ss : Nat} {y : MethodName} {bytes : ByteArray} {mL' n kb N idx b fr' lo' : Nat} {ret' : Option FieldType} {As : List Value} {post : Mem → Prop} (hM : Mv κ.2.1 δ y bytes mL' ret' fr' lo' ad rs (.ref (ad b) :: As) M post) (hV : okV y bytes mL' ret' n kb) (hlk : Cond.methodLink own idx y ∈ lw_g) (hd : decode cc pc = .ok (.invokevirtual idx, 3)) (hn : As.length = n) (hR : fr' + 1 ≤ 2048 ∧ 8 + (mL' + 11) + lo' ≤ 84000) (hb : lay b = (kb, N)) (hkb : kb < 100) (hb2 : b < 121) (hst : S0 = As.reverse ++ .ref (ad b) :: S) (hsum : (S.map fun v => v.category).sum ≤ 8) (hf : cs + 0 ≤ 600000 ∧ ss + 0 ≤ 7302250) (kk : ∀ (M' : Mem), post M' → Zj κ δ ad rs Q mL (121, cs, ss) (pc + 3) L (S) M') : Zj κ δ ad rs Q mL (121, cs, ss) pc L S0 M :=
  Z_callV hk (ρ := (121, cs, ss)) hM hV hlk hd hn hR hb hkb hb2 hst hsum hf (fun v ad' rt' M' _ h => by obtain ⟨rfl, rfl, rfl, hp⟩ := h; exact kk M' hp)
end LROW
set_option maxRecDepth 10000 in
set_option maxHeartbeats 4000000 in
theorem law_152 {κ : Kp} {δ : Dp} {Q : State → Prop} (hk : okK κ δ cL_law R_law 4 ret room_1) (hz : NS δ) {ad : Nat → Nat} {M : Mem} (hA : okA δ ad) (h : Inv M) (hr : REL M) {b Ln : Nat} {xs : Nat → Int32} (hX : va_X b Ln xs κ.2.2.2.2.1 κ.2.2.2.2.1.heap) (hbl : b < κ.2.2.2.2.1.heap.size) (hbA : b < δ.2.2.1) (hLn : Ln ≤ 3072) {i : Int} (hi : 0 ≤ i ∧ i + 6 ≤ Ln) (J : ∀ (ad : Nat → Nat) (M : Mem), okA δ ad → Inv M → REL M → Zj κ δ ad rs Q 4 (121, 121, 16318) 1084 [some (.ref b), some (.ref (ad 0)), some (.ref (ad 48)), some (iv i)] [] M) : Zj κ δ ad rs Q 4 (121, 121, 16318) 152 [some (.ref b), some (.ref (ad 0)), some (.ref (ad 48)), some (iv i)] [] M := by
  obtain ⟨⟨a1, a2, a3, a4, a5, a6, a7, a8, a9, a10, a11, a12, a13, a14⟩, ⟨b1, b2, b3, b4, b5, b6, b7, b8, b9, b10⟩⟩ := id h
  refine Z_aload1 hk dL_law_152 ?_
  refine Z_aload0 hk dL_law_153 ?_
  refine Z_iload3 hk dL_law_154 ?_
  refine Z_iconst hk dL_law_155 ?_
  refine Z_iadd hk dL_law_156 ?_
  refine Z_sld hk hX hbl hbA hLn (by omega) (by omega) dL_law_157 (fun v157 e157 u157 w157 => ?_)
  refine Z_aload0 hk dL_law_158 ?_
  refine Z_iload3 hk dL_law_159 ?_
  refine Z_iconst hk dL_law_160 ?_
  refine Z_iadd hk dL_law_161 ?_
  refine Z_sld hk hX hbl hbA hLn (by omega) (by omega) dL_law_162 (fun v162 e162 u162 w162 => ?_)
  refine Z_aload0 hk dL_law_163 ?_
  refine Z_iload3 hk dL_law_164 ?_
  refine Z_iconst hk dL_law_165 ?_
  refine Z_iadd hk dL_law_166 ?_
  refine Z_sld hk hX hbl hbA hLn (by omega) (by omega) dL_law_167 (fun v167 e167 u167 w167 => ?_)
  refine Z_aload0 hk dL_law_168 ?_
  refine Z_iload3 hk dL_law_169 ?_
  refine Z_iconst hk dL_law_170 ?_
  refine Z_iadd hk dL_law_171 ?_
  refine Z_sld hk hX hbl hbA hLn (by omega) (by omega) dL_law_172 (fun v172 e172 u172 w172 => ?_)
  refine Z_aload0 hk dL_law_173 ?_
  refine Z_iload3 hk dL_law_174 ?_
  refine Z_iconst hk dL_law_175 ?_
  refine Z_iadd hk dL_law_176 ?_
  refine Z_sld hk hX hbl hbA hLn (by omega) (by omega) dL_law_177 (fun v177 e177 u177 w177 => ?_)
  refine Z_LVi hk (c_X8_feed κ.2.1 δ ad _ hA v157 v162 v167 v172 v177 (by first | omega | assumption) (by first | omega | assumption) (by first | omega | assumption) (by first | omega | assumption) (by first | omega | assumption) (by first | omega | assumption)) ov_X8_feed ml_L_13 dL_law_178 rfl ⟨by decide, by decide⟩ ob_0.1 (by decide) (by decide) rfl (Nat.le_of_ble_eq_true rfl) ⟨by decide, by decide⟩ (fun r178 m178 p178 => ?_)
  obtain ⟨p178, f178_0, f178_1⟩ := p178
  replace h : Inv m178 := by
    refine ⟨⟨?_, ?_, ?_, ?_, ?_, ?_, ?_, ?_, ?_, ?_, ?_, ?_, ?_, ?_⟩, h.2.of (fun c hc => by apply f178_0 <;> omega)⟩ <;> (try simp only [f178_0, f178_1, and_true, true_and, or_true, true_or, implies_true, upn, reduceIte, Nat.reduceEqDiff, ne_eq, not_false_eq_true, upc]) <;> first | omega | assumption
  replace hr : REL m178 := hr.of (by simp only [f178_0, f178_1, and_true, true_and, or_true, true_or, implies_true, upn, reduceIte, Nat.reduceEqDiff, ne_eq, not_false_eq_true, upc]) (by simp only [f178_0, f178_1, and_true, true_and, or_true, true_or, implies_true, upn, reduceIte, Nat.reduceEqDiff, ne_eq, not_false_eq_true, upc]) (by simp only [f178_0, f178_1, and_true, true_and, or_true, true_or, implies_true, upn, reduceIte, Nat.reduceEqDiff, ne_eq, not_false_eq_true, upc]) (by simp only [f178_0, f178_1, and_true, true_and, or_true, true_or, implies_true, upn, reduceIte, Nat.reduceEqDiff, ne_eq, not_false_eq_true, upc]) (by simp only [f178_0, f178_1, and_true, true_and, or_true, true_or, implies_true, upn, reduceIte, Nat.reduceEqDiff, ne_eq, not_false_eq_true, upc]) (by simp only [f178_0, f178_1, and_true, true_and, or_true, true_or, implies_true, upn, reduceIte, Nat.reduceEqDiff, ne_eq, not_false_eq_true, upc]) (by simp only [f178_0, f178_1, and_true, true_and, or_true, true_or, implies_true, upn, reduceIte, Nat.reduceEqDiff, ne_eq, not_false_eq_true, upc]) (by simp only [f178_0, f178_1, and_true, true_and, or_true, true_or, implies_true, upn, reduceIte, Nat.reduceEqDiff, ne_eq, not_false_eq_true, upc])
  obtain ⟨⟨a1, a2, a3, a4, a5, a6, a7, a8, a9, a10, a11, a12, a13, a14⟩, ⟨b1, b2, b3, b4, b5, b6, b7, b8, b9, b10⟩⟩ := id h
  refine Z_pop1 hk rfl dL_law_181 ?_
  refine Z_aload2 hk dL_law_182 ?_
  refine Z_aload0 hk dL_law_183 ?_
  refine Z_iload3 hk dL_law_184 ?_
  refine Z_iconst hk dL_law_185 ?_
  refine Z_iadd hk dL_law_186 ?_
  refine Z_sld hk hX hbl hbA hLn (by omega) (by omega) dL_law_187 (fun v187 e187 u187 w187 => ?_)
  refine Z_aload0 hk dL_law_188 ?_
  refine Z_iload3 hk dL_law_189 ?_
  refine Z_iconst hk dL_law_190 ?_
  refine Z_iadd hk dL_law_191 ?_
  refine Z_sld hk hX hbl hbA hLn (by omega) (by omega) dL_law_192 (fun v192 e192 u192 w192 => ?_)
  refine Z_aload0 hk dL_law_193 ?_
  refine Z_iload3 hk dL_law_194 ?_
  refine Z_iconst hk dL_law_195 ?_
  refine Z_iadd hk dL_law_196 ?_
  refine Z_sld hk hX hbl hbA hLn (by omega) (by omega) dL_law_197 (fun v197 e197 u197 w197 => ?_)
  refine Z_aload0 hk dL_law_198 ?_
  refine Z_iload3 hk dL_law_199 ?_
  refine Z_iconst hk dL_law_200 ?_
  refine Z_iadd hk dL_law_201 ?_
  refine Z_sld hk hX hbl hbA hLn (by omega) (by omega) dL_law_202 (fun v202 e202 u202 w202 => ?_)
  refine Z_aload0 hk dL_law_203 ?_
  refine Z_iload3 hk dL_law_204 ?_
  refine Z_iconst hk dL_law_205 ?_
  refine Z_iadd hk dL_law_206 ?_
  refine Z_sld hk hX hbl hbA hLn (by omega) (by omega) dL_law_207 (fun v207 e207 u207 w207 => ?_)
  refine Z_LVi hk (c_X9_feed κ.2.1 δ ad _ hA v187 v192 v197 v202 v207 (by first | omega | assumption) (by first | omega | assumption) (by first | omega | assumption) (by first | omega | assumption) (by first | omega | assumption) (by first | omega | assumption)) ov_X9_feed ml_L_17 dL_law_208 rfl ⟨by decide, by decide⟩ ob_48.1 (by decide) (by decide) rfl (Nat.le_of_ble_eq_true rfl) ⟨by decide, by decide⟩ (fun r208 m208 p208 => ?_)
  obtain ⟨p208, f208_0, f208_1⟩ := p208
  replace h : Inv m208 := by
    refine ⟨h.1.of (fun c hc => by apply f208_0 <;> omega), ⟨?_, ?_, ?_, ?_, ?_, ?_, ?_, ?_, ?_, ?_⟩⟩ <;> (first | (exact NK.same b4 (by simp only [f208_0, f208_1, and_true, true_and, or_true, true_or, implies_true, upn, reduceIte, Nat.reduceEqDiff, ne_eq, not_false_eq_true, upc]) (by simp only [f208_0, f208_1, and_true, true_and, or_true, true_or, implies_true, upn, reduceIte, Nat.reduceEqDiff, ne_eq, not_false_eq_true, upc]) (by simp only [f208_0, f208_1, and_true, true_and, or_true, true_or, implies_true, upn, reduceIte, Nat.reduceEqDiff, ne_eq, not_false_eq_true, upc])) | (fail) | ((try simp only [f208_0, f208_1, and_true, true_and, or_true, true_or, implies_true, upn, reduceIte, Nat.reduceEqDiff, ne_eq, not_false_eq_true, upc]) <;> first | omega | assumption))
  replace hr : REL m208 := hr.of (by simp only [f208_0, f208_1, and_true, true_and, or_true, true_or, implies_true, upn, reduceIte, Nat.reduceEqDiff, ne_eq, not_false_eq_true, upc]) (by simp only [f208_0, f208_1, and_true, true_and, or_true, true_or, implies_true, upn, reduceIte, Nat.reduceEqDiff, ne_eq, not_false_eq_true, upc]) (by simp only [f208_0, f208_1, and_true, true_and, or_true, true_or, implies_true, upn, reduceIte, Nat.reduceEqDiff, ne_eq, not_false_eq_true, upc]) (by simp only [f208_0, f208_1, and_true, true_and, or_true, true_or, implies_true, upn, reduceIte, Nat.reduceEqDiff, ne_eq, not_false_eq_true, upc]) (by simp only [f208_0, f208_1, and_true, true_and, or_true, true_or, implies_true, upn, reduceIte, Nat.reduceEqDiff, ne_eq, not_false_eq_true, upc]) (by simp only [f208_0, f208_1, and_true, true_and, or_true, true_or, implies_true, upn, reduceIte, Nat.reduceEqDiff, ne_eq, not_false_eq_true, upc]) (by simp only [f208_0, f208_1, and_true, true_and, or_true, true_or, implies_true, upn, reduceIte, Nat.reduceEqDiff, ne_eq, not_false_eq_true, upc]) (by simp only [f208_0, f208_1, and_true, true_and, or_true, true_or, implies_true, upn, reduceIte, Nat.reduceEqDiff, ne_eq, not_false_eq_true, upc])
  obtain ⟨⟨a1, a2, a3, a4, a5, a6, a7, a8, a9, a10, a11, a12, a13, a14⟩, ⟨b1, b2, b3, b4, b5, b6, b7, b8, b9, b10⟩⟩ := id h
  refine Z_pop1 hk rfl dL_law_211 ?_
  refine Z_goto hk (tgt := 1084) dL_law_212 (by decide) ?_
  exact J ad m208 hA h hr
set_option maxRecDepth 10000 in
set_option maxHeartbeats 4000000 in
theorem law_215 {κ : Kp} {δ : Dp} {Q : State → Prop} (hk : okK κ δ cL_law R_law 4 ret room_1) (hz : NS δ) {ad : Nat → Nat} {M : Mem} (hA : okA δ ad) (h : Inv M) (hr : REL M) {b Ln : Nat} {xs : Nat → Int32} (hX : va_X b Ln xs κ.2.2.2.2.1 κ.2.2.2.2.1.heap) (hbl : b < κ.2.2.2.2.1.heap.size) (hbA : b < δ.2.2.1) (hLn : Ln ≤ 3072) {i : Int} (hi : 0 ≤ i ∧ i + 6 ≤ Ln) (J : ∀ (ad : Nat → Nat) (M : Mem), okA δ ad → Inv M → REL M → Zj κ δ ad rs Q 4 (121, 121, 16318) 1084 [some (.ref b), some (.ref (ad 0)), some (.ref (ad 48)), some (iv i)] [] M) : Zj κ δ ad rs Q 4 (121, 121, 16318) 215 [some (.ref b), some (.ref (ad 0)), some (.ref (ad 48)), some (iv i)] [] M := by
  obtain ⟨⟨a1, a2, a3, a4, a5, a6, a7, a8, a9, a10, a11, a12, a13, a14⟩, ⟨b1, b2, b3, b4, b5, b6, b7, b8, b9, b10⟩⟩ := id h
  refine Z_aload1 hk dL_law_215 ?_
  refine Z_aload0 hk dL_law_216 ?_
  refine Z_iload3 hk dL_law_217 ?_
  refine Z_iconst hk dL_law_218 ?_
  refine Z_iadd hk dL_law_219 ?_
  refine Z_sld hk hX hbl hbA hLn (by omega) (by omega) dL_law_220 (fun v220 e220 u220 w220 => ?_)
  refine Z_LVi hk (c_X8_end κ.2.1 δ ad _ hA v220 (by first | omega | assumption) (by first | omega | assumption)) ov_X8_end ml_L_18 dL_law_221 rfl ⟨by decide, by decide⟩ ob_0.1 (by decide) (by decide) rfl (Nat.le_of_ble_eq_true rfl) ⟨by decide, by decide⟩ (fun r221 m221 p221 => ?_)
  obtain ⟨p221, f221_0, f221_1⟩ := p221
  replace h : Inv m221 := by
    refine ⟨⟨?_, ?_, ?_, ?_, ?_, ?_, ?_, ?_, ?_, ?_, ?_, ?_, ?_, ?_⟩, h.2.of (fun c hc => by apply f221_0 <;> omega)⟩ <;> (try simp only [f221_0, f221_1, and_true, true_and, or_true, true_or, implies_true, upn, reduceIte, Nat.reduceEqDiff, ne_eq, not_false_eq_true, upc]) <;> first | omega | assumption
  replace hr : REL m221 := hr.of (by simp only [f221_0, f221_1, and_true, true_and, or_true, true_or, implies_true, upn, reduceIte, Nat.reduceEqDiff, ne_eq, not_false_eq_true, upc]) (by simp only [f221_0, f221_1, and_true, true_and, or_true, true_or, implies_true, upn, reduceIte, Nat.reduceEqDiff, ne_eq, not_false_eq_true, upc]) (by simp only [f221_0, f221_1, and_true, true_and, or_true, true_or, implies_true, upn, reduceIte, Nat.reduceEqDiff, ne_eq, not_false_eq_true, upc]) (by simp only [f221_0, f221_1, and_true, true_and, or_true, true_or, implies_true, upn, reduceIte, Nat.reduceEqDiff, ne_eq, not_false_eq_true, upc]) (by simp only [f221_0, f221_1, and_true, true_and, or_true, true_or, implies_true, upn, reduceIte, Nat.reduceEqDiff, ne_eq, not_false_eq_true, upc]) (by simp only [f221_0, f221_1, and_true, true_and, or_true, true_or, implies_true, upn, reduceIte, Nat.reduceEqDiff, ne_eq, not_false_eq_true, upc]) (by simp only [f221_0, f221_1, and_true, true_and, or_true, true_or, implies_true, upn, reduceIte, Nat.reduceEqDiff, ne_eq, not_false_eq_true, upc]) (by simp only [f221_0, f221_1, and_true, true_and, or_true, true_or, implies_true, upn, reduceIte, Nat.reduceEqDiff, ne_eq, not_false_eq_true, upc])
  obtain ⟨⟨a1, a2, a3, a4, a5, a6, a7, a8, a9, a10, a11, a12, a13, a14⟩, ⟨b1, b2, b3, b4, b5, b6, b7, b8, b9, b10⟩⟩ := id h
  refine Z_pop1 hk rfl dL_law_224 ?_
  refine Z_aload2 hk dL_law_225 ?_
  refine Z_aload0 hk dL_law_226 ?_
  refine Z_iload3 hk dL_law_227 ?_
  refine Z_iconst hk dL_law_228 ?_
  refine Z_iadd hk dL_law_229 ?_
  refine Z_sld hk hX hbl hbA hLn (by omega) (by omega) dL_law_230 (fun v230 e230 u230 w230 => ?_)
  refine Z_LVi hk (c_X9_end κ.2.1 δ ad _ hA v230 (by first | omega | assumption) (by first | omega | assumption)) ov_X9_end ml_L_22 dL_law_231 rfl ⟨by decide, by decide⟩ ob_48.1 (by decide) (by decide) rfl (Nat.le_of_ble_eq_true rfl) ⟨by decide, by decide⟩ (fun r231 m231 p231 => ?_)
  obtain ⟨p231, f231_0, f231_1⟩ := p231
  replace h : Inv m231 := by
    refine ⟨h.1.of (fun c hc => by apply f231_0 <;> omega), ⟨?_, ?_, ?_, ?_, ?_, ?_, ?_, ?_, ?_, ?_⟩⟩ <;> (first | (exact NK.same b4 (by simp only [f231_0, f231_1, and_true, true_and, or_true, true_or, implies_true, upn, reduceIte, Nat.reduceEqDiff, ne_eq, not_false_eq_true, upc]) (by simp only [f231_0, f231_1, and_true, true_and, or_true, true_or, implies_true, upn, reduceIte, Nat.reduceEqDiff, ne_eq, not_false_eq_true, upc]) (by simp only [f231_0, f231_1, and_true, true_and, or_true, true_or, implies_true, upn, reduceIte, Nat.reduceEqDiff, ne_eq, not_false_eq_true, upc])) | (fail) | ((try simp only [f231_0, f231_1, and_true, true_and, or_true, true_or, implies_true, upn, reduceIte, Nat.reduceEqDiff, ne_eq, not_false_eq_true, upc]) <;> first | omega | assumption))
  replace hr : REL m231 := hr.of (by simp only [f231_0, f231_1, and_true, true_and, or_true, true_or, implies_true, upn, reduceIte, Nat.reduceEqDiff, ne_eq, not_false_eq_true, upc]) (by simp only [f231_0, f231_1, and_true, true_and, or_true, true_or, implies_true, upn, reduceIte, Nat.reduceEqDiff, ne_eq, not_false_eq_true, upc]) (by simp only [f231_0, f231_1, and_true, true_and, or_true, true_or, implies_true, upn, reduceIte, Nat.reduceEqDiff, ne_eq, not_false_eq_true, upc]) (by simp only [f231_0, f231_1, and_true, true_and, or_true, true_or, implies_true, upn, reduceIte, Nat.reduceEqDiff, ne_eq, not_false_eq_true, upc]) (by simp only [f231_0, f231_1, and_true, true_and, or_true, true_or, implies_true, upn, reduceIte, Nat.reduceEqDiff, ne_eq, not_false_eq_true, upc]) (by simp only [f231_0, f231_1, and_true, true_and, or_true, true_or, implies_true, upn, reduceIte, Nat.reduceEqDiff, ne_eq, not_false_eq_true, upc]) (by simp only [f231_0, f231_1, and_true, true_and, or_true, true_or, implies_true, upn, reduceIte, Nat.reduceEqDiff, ne_eq, not_false_eq_true, upc]) (by simp only [f231_0, f231_1, and_true, true_and, or_true, true_or, implies_true, upn, reduceIte, Nat.reduceEqDiff, ne_eq, not_false_eq_true, upc])
  obtain ⟨⟨a1, a2, a3, a4, a5, a6, a7, a8, a9, a10, a11, a12, a13, a14⟩, ⟨b1, b2, b3, b4, b5, b6, b7, b8, b9, b10⟩⟩ := id h
  refine Z_pop1 hk rfl dL_law_234 ?_
  refine Z_goto hk (tgt := 1084) dL_law_235 (by decide) ?_
  exact J ad m231 hA h hr
set_option maxRecDepth 10000 in
set_option maxHeartbeats 4000000 in
theorem law_238 {κ : Kp} {δ : Dp} {Q : State → Prop} (hk : okK κ δ cL_law R_law 4 ret room_1) (hz : NS δ) {ad : Nat → Nat} {M : Mem} (hA : okA δ ad) (h : Inv M) (hr : REL M) {b Ln : Nat} {xs : Nat → Int32} (hX : va_X b Ln xs κ.2.2.2.2.1 κ.2.2.2.2.1.heap) (hbl : b < κ.2.2.2.2.1.heap.size) (hbA : b < δ.2.2.1) (hLn : Ln ≤ 3072) {i : Int} (hi : 0 ≤ i ∧ i + 6 ≤ Ln) (J : ∀ (ad : Nat → Nat) (M : Mem), okA δ ad → Inv M → REL M → Zj κ δ ad rs Q 4 (121, 121, 16318) 1084 [some (.ref b), some (.ref (ad 0)), some (.ref (ad 48)), some (iv i)] [] M) : Zj κ δ ad rs Q 4 (121, 121, 16318) 238 [some (.ref b), some (.ref (ad 0)), some (.ref (ad 48)), some (iv i)] [] M := by
  obtain ⟨⟨a1, a2, a3, a4, a5, a6, a7, a8, a9, a10, a11, a12, a13, a14⟩, ⟨b1, b2, b3, b4, b5, b6, b7, b8, b9, b10⟩⟩ := id h
  refine Z_aload1 hk dL_law_238 ?_
  refine Z_aload0 hk dL_law_239 ?_
  refine Z_iload3 hk dL_law_240 ?_
  refine Z_iconst hk dL_law_241 ?_
  refine Z_iadd hk dL_law_242 ?_
  refine Z_sld hk hX hbl hbA hLn (by omega) (by omega) dL_law_243 (fun v243 e243 u243 w243 => ?_)
  refine Z_callV hk (ρ := (121, 121, 16318)) (b := 0) (As := [iv v243]) (S := []) (c_X8_planR κ.2.1 δ ad M hA hz h v243 (by omega)) ov_X8_plan ml_L_23 dL_law_244 rfl ⟨by decide, by decide⟩ ob_0.1 (by decide) (by decide) rfl (Nat.le_of_ble_eq_true rfl) ⟨by decide, by decide⟩ (fun v ad1 rt1 M1 hA1 hp => ?_)
  obtain ⟨rfl, ⟨r, rfl⟩, e0, e48, h1, hs1⟩ := hp
  replace hr : REL M1 := hr.of (by rw [hs1 32 (by decide)]) (by rw [hs1 32 (by decide)]) (hs1 33 (by decide)) (hs1 34 (by decide)) (hs1 35 (by decide)) (by rw [hs1 48 (by decide)]) (by rw [hs1 48 (by decide)]) (hs1 118 (by decide))
  rw [← e0, ← e48]
  clear e0 e48 hA h a1 a2 a3 a4 a5 a6 a7 a8 a9 a10 a11 a12 a13 a14 b1 b2 b3 b4 b5 b6 b7 b8 b9 b10
  refine Z_pop1 hk rfl dL_law_247 ?_
  refine Z_aload2 hk dL_law_248 ?_
  refine Z_aload0 hk dL_law_249 ?_
  refine Z_iload3 hk dL_law_250 ?_
  refine Z_iconst hk dL_law_251 ?_
  refine Z_iadd hk dL_law_252 ?_
  refine Z_sld hk hX hbl hbA hLn (by omega) (by omega) dL_law_253 (fun v253 e253 u253 w253 => ?_)
  obtain ⟨⟨a1, a2, a3, a4, a5, a6, a7, a8, a9, a10, a11, a12, a13, a14⟩, ⟨b1, b2, b3, b4, b5, b6, b7, b8, b9, b10⟩⟩ := id h1
  refine Z_LVi hk (c_X9_plan κ.2.1 δ ad1 _ hA1 v253 (by first | omega | assumption) (by first | omega | assumption) (by first | omega | assumption) (by first | omega | assumption) (by first | omega | assumption) (by first | omega | assumption) (by first | omega | assumption) (by first | omega | assumption)) ov_X9_plan ml_L_27 dL_law_254 rfl ⟨by decide, by decide⟩ ob_48.1 (by decide) (by decide) rfl (Nat.le_of_ble_eq_true rfl) ⟨by decide, by decide⟩ (fun r254 m254 p254 => ?_)
  obtain ⟨p254, f254_0, f254_1, f254_2, f254_3, f254_4, f254_5, f254_6⟩ := p254
  have h : Inv m254 := by
    refine ⟨h1.1.of (fun c hc => by apply f254_0 <;> omega), ⟨?_, ?_, ?_, ?_, ?_, ?_, ?_, ?_, ?_, ?_⟩⟩ <;> (first | (exact NK.same b4 (by simp only [f254_0, f254_1, and_true, true_and, or_true, true_or, implies_true, upn, reduceIte, Nat.reduceEqDiff, ne_eq, not_false_eq_true, upc]) (by simp only [f254_0, f254_1, and_true, true_and, or_true, true_or, implies_true, upn, reduceIte, Nat.reduceEqDiff, ne_eq, not_false_eq_true, upc]) (by simp only [f254_0, f254_1, and_true, true_and, or_true, true_or, implies_true, upn, reduceIte, Nat.reduceEqDiff, ne_eq, not_false_eq_true, upc])) | ((rcases (show m254 48 84 = M1 48 84 ∨ m254 48 84 = 0 from by omega) with e | e; (simp only [e, f254_0, f254_1, and_true, true_and, or_true, true_or, implies_true, upn, reduceIte, Nat.reduceEqDiff, ne_eq, not_false_eq_true, upc]; exact b9); exact AC.nil (by omega))) | ((try simp only [f254_0, f254_1, and_true, true_and, or_true, true_or, implies_true, upn, reduceIte, Nat.reduceEqDiff, ne_eq, not_false_eq_true, upc]) <;> first | omega | assumption))
  replace hr : REL m254 := hr.of (by simp only [f254_0, f254_1, and_true, true_and, or_true, true_or, implies_true, upn, reduceIte, Nat.reduceEqDiff, ne_eq, not_false_eq_true, upc]) (by simp only [f254_0, f254_1, and_true, true_and, or_true, true_or, implies_true, upn, reduceIte, Nat.reduceEqDiff, ne_eq, not_false_eq_true, upc]) (by simp only [f254_0, f254_1, and_true, true_and, or_true, true_or, implies_true, upn, reduceIte, Nat.reduceEqDiff, ne_eq, not_false_eq_true, upc]) (by simp only [f254_0, f254_1, and_true, true_and, or_true, true_or, implies_true, upn, reduceIte, Nat.reduceEqDiff, ne_eq, not_false_eq_true, upc]) (by simp only [f254_0, f254_1, and_true, true_and, or_true, true_or, implies_true, upn, reduceIte, Nat.reduceEqDiff, ne_eq, not_false_eq_true, upc]) (by simp only [f254_0, f254_1, and_true, true_and, or_true, true_or, implies_true, upn, reduceIte, Nat.reduceEqDiff, ne_eq, not_false_eq_true, upc]) (by simp only [f254_0, f254_1, and_true, true_and, or_true, true_or, implies_true, upn, reduceIte, Nat.reduceEqDiff, ne_eq, not_false_eq_true, upc]) (by simp only [f254_0, f254_1, and_true, true_and, or_true, true_or, implies_true, upn, reduceIte, Nat.reduceEqDiff, ne_eq, not_false_eq_true, upc])
  obtain ⟨⟨a1, a2, a3, a4, a5, a6, a7, a8, a9, a10, a11, a12, a13, a14⟩, ⟨b1, b2, b3, b4, b5, b6, b7, b8, b9, b10⟩⟩ := id h
  refine Z_pop1 hk rfl dL_law_257 ?_
  refine Z_goto hk (tgt := 1084) dL_law_258 (by decide) ?_
  exact J ad1 m254 hA1 h hr
set_option maxRecDepth 10000 in
set_option maxHeartbeats 4000000 in
theorem law_261 {κ : Kp} {δ : Dp} {Q : State → Prop} (hk : okK κ δ cL_law R_law 4 ret room_1) (hz : NS δ) {ad : Nat → Nat} {M : Mem} (hA : okA δ ad) (h : Inv M) (hr : REL M) {b Ln : Nat} {xs : Nat → Int32} (hX : va_X b Ln xs κ.2.2.2.2.1 κ.2.2.2.2.1.heap) (hbl : b < κ.2.2.2.2.1.heap.size) (hbA : b < δ.2.2.1) (hLn : Ln ≤ 3072) {i : Int} (hi : 0 ≤ i ∧ i + 6 ≤ Ln) (J : ∀ (ad : Nat → Nat) (M : Mem), okA δ ad → Inv M → REL M → Zj κ δ ad rs Q 4 (121, 121, 16318) 1084 [some (.ref b), some (.ref (ad 0)), some (.ref (ad 48)), some (iv i)] [] M) : Zj κ δ ad rs Q 4 (121, 121, 16318) 261 [some (.ref b), some (.ref (ad 0)), some (.ref (ad 48)), some (iv i)] [] M := by
  obtain ⟨⟨a1, a2, a3, a4, a5, a6, a7, a8, a9, a10, a11, a12, a13, a14⟩, ⟨b1, b2, b3, b4, b5, b6, b7, b8, b9, b10⟩⟩ := id h
  refine Z_aload1 hk dL_law_261 ?_
  refine Z_aload0 hk dL_law_262 ?_
  refine Z_iload3 hk dL_law_263 ?_
  refine Z_iconst hk dL_law_264 ?_
  refine Z_iadd hk dL_law_265 ?_
  refine Z_sld hk hX hbl hbA hLn (by omega) (by omega) dL_law_266 (fun v266 e266 u266 w266 => ?_)
  refine Z_LVi hk (c_X8_fault κ.2.1 δ ad _ hA v266 (by first | omega | assumption)) ov_X8_fault ml_L_28 dL_law_267 rfl ⟨by decide, by decide⟩ ob_0.1 (by decide) (by decide) rfl (Nat.le_of_ble_eq_true rfl) ⟨by decide, by decide⟩ (fun r267 m267 p267 => ?_)
  obtain ⟨rfl, p267⟩ := p267
  refine Z_pop1 hk rfl dL_law_270 ?_
  refine Z_aload2 hk dL_law_271 ?_
  refine Z_aload0 hk dL_law_272 ?_
  refine Z_iload3 hk dL_law_273 ?_
  refine Z_iconst hk dL_law_274 ?_
  refine Z_iadd hk dL_law_275 ?_
  refine Z_sld hk hX hbl hbA hLn (by omega) (by omega) dL_law_276 (fun v276 e276 u276 w276 => ?_)
  refine Z_LVi hk (c_X9_fault κ.2.1 δ ad _ hA v276 (by first | omega | assumption)) ov_X9_fault ml_L_31 dL_law_277 rfl ⟨by decide, by decide⟩ ob_48.1 (by decide) (by decide) rfl (Nat.le_of_ble_eq_true rfl) ⟨by decide, by decide⟩ (fun r277 m277 p277 => ?_)
  obtain ⟨rfl, p277⟩ := p277
  refine Z_pop1 hk rfl dL_law_280 ?_
  refine Z_goto hk (tgt := 1084) dL_law_281 (by decide) ?_
  exact J ad M hA h hr
set_option maxRecDepth 10000 in
set_option maxHeartbeats 4000000 in
theorem law_284 {κ : Kp} {δ : Dp} {Q : State → Prop} (hk : okK κ δ cL_law R_law 4 ret room_1) (hz : NS δ) {ad : Nat → Nat} {M : Mem} (hA : okA δ ad) (h : Inv M) (hr : REL M) {b Ln : Nat} {xs : Nat → Int32} (hX : va_X b Ln xs κ.2.2.2.2.1 κ.2.2.2.2.1.heap) (hbl : b < κ.2.2.2.2.1.heap.size) (hbA : b < δ.2.2.1) (hLn : Ln ≤ 3072) {i : Int} (hi : 0 ≤ i ∧ i + 6 ≤ Ln) (J : ∀ (ad : Nat → Nat) (M : Mem), okA δ ad → Inv M → REL M → Zj κ δ ad rs Q 4 (121, 121, 16318) 1084 [some (.ref b), some (.ref (ad 0)), some (.ref (ad 48)), some (iv i)] [] M) : Zj κ δ ad rs Q 4 (121, 121, 16318) 284 [some (.ref b), some (.ref (ad 0)), some (.ref (ad 48)), some (iv i)] [] M := by
  obtain ⟨⟨a1, a2, a3, a4, a5, a6, a7, a8, a9, a10, a11, a12, a13, a14⟩, ⟨b1, b2, b3, b4, b5, b6, b7, b8, b9, b10⟩⟩ := id h
  refine Z_aload1 hk dL_law_284 ?_
  refine Z_aload0 hk dL_law_285 ?_
  refine Z_iload3 hk dL_law_286 ?_
  refine Z_iconst hk dL_law_287 ?_
  refine Z_iadd hk dL_law_288 ?_
  refine Z_sld hk hX hbl hbA hLn (by omega) (by omega) dL_law_289 (fun v289 e289 u289 w289 => ?_)
  refine Z_aload0 hk dL_law_290 ?_
  refine Z_iload3 hk dL_law_291 ?_
  refine Z_iconst hk dL_law_292 ?_
  refine Z_iadd hk dL_law_293 ?_
  refine Z_sld hk hX hbl hbA hLn (by omega) (by omega) dL_law_294 (fun v294 e294 u294 w294 => ?_)
  refine Z_aload0 hk dL_law_295 ?_
  refine Z_iload3 hk dL_law_296 ?_
  refine Z_iconst hk dL_law_297 ?_
  refine Z_iadd hk dL_law_298 ?_
  refine Z_sld hk hX hbl hbA hLn (by omega) (by omega) dL_law_299 (fun v299 e299 u299 w299 => ?_)
  refine Z_LVi hk (c_X8_code κ.2.1 δ ad _ hA v289 v294 v299 (by first | omega | assumption) (by first | omega | assumption) (by first | omega | assumption) (by first | omega | assumption)) ov_X8_code ml_L_32 dL_law_300 rfl ⟨by decide, by decide⟩ ob_0.1 (by decide) (by decide) rfl (Nat.le_of_ble_eq_true rfl) ⟨by decide, by decide⟩ (fun r300 m300 p300 => ?_)
  obtain ⟨rfl, p300⟩ := p300
  refine Z_pop1 hk rfl dL_law_303 ?_
  refine Z_aload2 hk dL_law_304 ?_
  refine Z_aload0 hk dL_law_305 ?_
  refine Z_iload3 hk dL_law_306 ?_
  refine Z_iconst hk dL_law_307 ?_
  refine Z_iadd hk dL_law_308 ?_
  refine Z_sld hk hX hbl hbA hLn (by omega) (by omega) dL_law_309 (fun v309 e309 u309 w309 => ?_)
  refine Z_aload0 hk dL_law_310 ?_
  refine Z_iload3 hk dL_law_311 ?_
  refine Z_iconst hk dL_law_312 ?_
  refine Z_iadd hk dL_law_313 ?_
  refine Z_sld hk hX hbl hbA hLn (by omega) (by omega) dL_law_314 (fun v314 e314 u314 w314 => ?_)
  refine Z_aload0 hk dL_law_315 ?_
  refine Z_iload3 hk dL_law_316 ?_
  refine Z_iconst hk dL_law_317 ?_
  refine Z_iadd hk dL_law_318 ?_
  refine Z_sld hk hX hbl hbA hLn (by omega) (by omega) dL_law_319 (fun v319 e319 u319 w319 => ?_)
  refine Z_LVi hk (c_X9_code κ.2.1 δ ad _ hA v309 v314 v319 (by first | omega | assumption) (by first | omega | assumption) (by first | omega | assumption) (by first | omega | assumption)) ov_X9_code ml_L_36 dL_law_320 rfl ⟨by decide, by decide⟩ ob_48.1 (by decide) (by decide) rfl (Nat.le_of_ble_eq_true rfl) ⟨by decide, by decide⟩ (fun r320 m320 p320 => ?_)
  obtain ⟨rfl, p320⟩ := p320
  refine Z_pop1 hk rfl dL_law_323 ?_
  refine Z_goto hk (tgt := 1084) dL_law_324 (by decide) ?_
  exact J ad M hA h hr
set_option maxRecDepth 10000 in
set_option maxHeartbeats 4000000 in
theorem law_327 {κ : Kp} {δ : Dp} {Q : State → Prop} (hk : okK κ δ cL_law R_law 4 ret room_1) (hz : NS δ) {ad : Nat → Nat} {M : Mem} (hA : okA δ ad) (h : Inv M) (hr : REL M) {b Ln : Nat} {xs : Nat → Int32} (hX : va_X b Ln xs κ.2.2.2.2.1 κ.2.2.2.2.1.heap) (hbl : b < κ.2.2.2.2.1.heap.size) (hbA : b < δ.2.2.1) (hLn : Ln ≤ 3072) {i : Int} (hi : 0 ≤ i ∧ i + 6 ≤ Ln) (J : ∀ (ad : Nat → Nat) (M : Mem), okA δ ad → Inv M → REL M → Zj κ δ ad rs Q 4 (121, 121, 16318) 1084 [some (.ref b), some (.ref (ad 0)), some (.ref (ad 48)), some (iv i)] [] M) : Zj κ δ ad rs Q 4 (121, 121, 16318) 327 [some (.ref b), some (.ref (ad 0)), some (.ref (ad 48)), some (iv i)] [] M := by
  obtain ⟨⟨a1, a2, a3, a4, a5, a6, a7, a8, a9, a10, a11, a12, a13, a14⟩, ⟨b1, b2, b3, b4, b5, b6, b7, b8, b9, b10⟩⟩ := id h
  refine Z_aload1 hk dL_law_327 ?_
  refine Z_aload0 hk dL_law_328 ?_
  refine Z_iload3 hk dL_law_329 ?_
  refine Z_iconst hk dL_law_330 ?_
  refine Z_iadd hk dL_law_331 ?_
  refine Z_sld hk hX hbl hbA hLn (by omega) (by omega) dL_law_332 (fun v332 e332 u332 w332 => ?_)
  refine Z_aload0 hk dL_law_333 ?_
  refine Z_iload3 hk dL_law_334 ?_
  refine Z_iconst hk dL_law_335 ?_
  refine Z_iadd hk dL_law_336 ?_
  refine Z_sld hk hX hbl hbA hLn (by omega) (by omega) dL_law_337 (fun v337 e337 u337 w337 => ?_)
  refine Z_aload0 hk dL_law_338 ?_
  refine Z_iload3 hk dL_law_339 ?_
  refine Z_iconst hk dL_law_340 ?_
  refine Z_iadd hk dL_law_341 ?_
  refine Z_sld hk hX hbl hbA hLn (by omega) (by omega) dL_law_342 (fun v342 e342 u342 w342 => ?_)
  refine Z_LVi hk (c_X8_answer κ.2.1 δ ad _ hA v332 v337 v342 (by first | omega | assumption) (by first | omega | assumption) (by first | omega | assumption) (by first | omega | assumption) (by first | omega | assumption) (by first | omega | assumption)) ov_X8_answer ml_L_37 dL_law_343 rfl ⟨by decide, by decide⟩ ob_0.1 (by decide) (by decide) rfl (Nat.le_of_ble_eq_true rfl) ⟨by decide, by decide⟩ (fun r343 m343 p343 => ?_)
  obtain ⟨p343, f343_0, f343_1, f343_2⟩ := p343
  replace h : Inv m343 := by
    refine ⟨⟨?_, ?_, ?_, ?_, ?_, ?_, ?_, ?_, ?_, ?_, ?_, ?_, ?_, ?_⟩, h.2.of (fun c hc => by apply f343_0 <;> omega)⟩ <;> (try simp only [f343_0, f343_1, and_true, true_and, or_true, true_or, implies_true, upn, reduceIte, Nat.reduceEqDiff, ne_eq, not_false_eq_true, upc]) <;> first | omega | assumption | exact f343_2 a13 | exact f343_2 a14
  replace hr : REL m343 := hr.of (by simp only [f343_0, f343_1, and_true, true_and, or_true, true_or, implies_true, upn, reduceIte, Nat.reduceEqDiff, ne_eq, not_false_eq_true, upc]) (by simp only [f343_0, f343_1, and_true, true_and, or_true, true_or, implies_true, upn, reduceIte, Nat.reduceEqDiff, ne_eq, not_false_eq_true, upc]) (by simp only [f343_0, f343_1, and_true, true_and, or_true, true_or, implies_true, upn, reduceIte, Nat.reduceEqDiff, ne_eq, not_false_eq_true, upc]) (by simp only [f343_0, f343_1, and_true, true_and, or_true, true_or, implies_true, upn, reduceIte, Nat.reduceEqDiff, ne_eq, not_false_eq_true, upc]) (by simp only [f343_0, f343_1, and_true, true_and, or_true, true_or, implies_true, upn, reduceIte, Nat.reduceEqDiff, ne_eq, not_false_eq_true, upc]) (by simp only [f343_0, f343_1, and_true, true_and, or_true, true_or, implies_true, upn, reduceIte, Nat.reduceEqDiff, ne_eq, not_false_eq_true, upc]) (by simp only [f343_0, f343_1, and_true, true_and, or_true, true_or, implies_true, upn, reduceIte, Nat.reduceEqDiff, ne_eq, not_false_eq_true, upc]) (by simp only [f343_0, f343_1, and_true, true_and, or_true, true_or, implies_true, upn, reduceIte, Nat.reduceEqDiff, ne_eq, not_false_eq_true, upc])
  obtain ⟨⟨a1, a2, a3, a4, a5, a6, a7, a8, a9, a10, a11, a12, a13, a14⟩, ⟨b1, b2, b3, b4, b5, b6, b7, b8, b9, b10⟩⟩ := id h
  refine Z_pop1 hk rfl dL_law_346 ?_
  refine Z_aload2 hk dL_law_347 ?_
  refine Z_aload0 hk dL_law_348 ?_
  refine Z_iload3 hk dL_law_349 ?_
  refine Z_iconst hk dL_law_350 ?_
  refine Z_iadd hk dL_law_351 ?_
  refine Z_sld hk hX hbl hbA hLn (by omega) (by omega) dL_law_352 (fun v352 e352 u352 w352 => ?_)
  refine Z_aload0 hk dL_law_353 ?_
  refine Z_iload3 hk dL_law_354 ?_
  refine Z_iconst hk dL_law_355 ?_
  refine Z_iadd hk dL_law_356 ?_
  refine Z_sld hk hX hbl hbA hLn (by omega) (by omega) dL_law_357 (fun v357 e357 u357 w357 => ?_)
  refine Z_aload0 hk dL_law_358 ?_
  refine Z_iload3 hk dL_law_359 ?_
  refine Z_iconst hk dL_law_360 ?_
  refine Z_iadd hk dL_law_361 ?_
  refine Z_sld hk hX hbl hbA hLn (by omega) (by omega) dL_law_362 (fun v362 e362 u362 w362 => ?_)
  refine Z_LVi hk (c_X9_answer κ.2.1 δ ad _ hA v352 v357 v362 (by first | omega | assumption) (by first | omega | assumption) (by first | omega | assumption) (by first | omega | assumption) (by first | omega | assumption)) ov_X9_answer ml_L_40 dL_law_363 rfl ⟨by decide, by decide⟩ ob_48.1 (by decide) (by decide) rfl (Nat.le_of_ble_eq_true rfl) ⟨by decide, by decide⟩ (fun r363 m363 p363 => ?_)
  obtain ⟨p363, f363_0, f363_1, f363_2⟩ := p363
  replace h : Inv m363 := by
    refine ⟨h.1.of (fun c hc => by apply f363_0 <;> omega), ⟨?_, ?_, ?_, ?_, ?_, ?_, ?_, ?_, ?_, ?_⟩⟩ <;> (first | (exact NK.same b4 (by simp only [f363_0, f363_1, and_true, true_and, or_true, true_or, implies_true, upn, reduceIte, Nat.reduceEqDiff, ne_eq, not_false_eq_true, upc]) (by simp only [f363_0, f363_1, and_true, true_and, or_true, true_or, implies_true, upn, reduceIte, Nat.reduceEqDiff, ne_eq, not_false_eq_true, upc]) (by simp only [f363_0, f363_1, and_true, true_and, or_true, true_or, implies_true, upn, reduceIte, Nat.reduceEqDiff, ne_eq, not_false_eq_true, upc])) | (fail) | ((try simp only [f363_0, f363_1, and_true, true_and, or_true, true_or, implies_true, upn, reduceIte, Nat.reduceEqDiff, ne_eq, not_false_eq_true, upc]) <;> first | omega | assumption))
  replace hr : REL m363 := hr.of (by simp only [f363_0, f363_1, and_true, true_and, or_true, true_or, implies_true, upn, reduceIte, Nat.reduceEqDiff, ne_eq, not_false_eq_true, upc]) (by simp only [f363_0, f363_1, and_true, true_and, or_true, true_or, implies_true, upn, reduceIte, Nat.reduceEqDiff, ne_eq, not_false_eq_true, upc]) (by simp only [f363_0, f363_1, and_true, true_and, or_true, true_or, implies_true, upn, reduceIte, Nat.reduceEqDiff, ne_eq, not_false_eq_true, upc]) (by simp only [f363_0, f363_1, and_true, true_and, or_true, true_or, implies_true, upn, reduceIte, Nat.reduceEqDiff, ne_eq, not_false_eq_true, upc]) (by simp only [f363_0, f363_1, and_true, true_and, or_true, true_or, implies_true, upn, reduceIte, Nat.reduceEqDiff, ne_eq, not_false_eq_true, upc]) (by simp only [f363_0, f363_1, and_true, true_and, or_true, true_or, implies_true, upn, reduceIte, Nat.reduceEqDiff, ne_eq, not_false_eq_true, upc]) (by simp only [f363_0, f363_1, and_true, true_and, or_true, true_or, implies_true, upn, reduceIte, Nat.reduceEqDiff, ne_eq, not_false_eq_true, upc]) (by simp only [f363_0, f363_1, and_true, true_and, or_true, true_or, implies_true, upn, reduceIte, Nat.reduceEqDiff, ne_eq, not_false_eq_true, upc])
  obtain ⟨⟨a1, a2, a3, a4, a5, a6, a7, a8, a9, a10, a11, a12, a13, a14⟩, ⟨b1, b2, b3, b4, b5, b6, b7, b8, b9, b10⟩⟩ := id h
  refine Z_pop1 hk rfl dL_law_366 ?_
  refine Z_goto hk (tgt := 1084) dL_law_367 (by decide) ?_
  exact J ad m363 hA h hr
set_option maxRecDepth 10000 in
set_option maxHeartbeats 4000000 in
theorem law_370 {κ : Kp} {δ : Dp} {Q : State → Prop} (hk : okK κ δ cL_law R_law 4 ret room_1) (hz : NS δ) {ad : Nat → Nat} {M : Mem} (hA : okA δ ad) (h : Inv M) (hr : REL M) {b Ln : Nat} {xs : Nat → Int32} (hX : va_X b Ln xs κ.2.2.2.2.1 κ.2.2.2.2.1.heap) (hbl : b < κ.2.2.2.2.1.heap.size) (hbA : b < δ.2.2.1) (hLn : Ln ≤ 3072) {i : Int} (hi : 0 ≤ i ∧ i + 6 ≤ Ln) (J : ∀ (ad : Nat → Nat) (M : Mem), okA δ ad → Inv M → REL M → Zj κ δ ad rs Q 4 (121, 121, 16318) 1084 [some (.ref b), some (.ref (ad 0)), some (.ref (ad 48)), some (iv i)] [] M) : Zj κ δ ad rs Q 4 (121, 121, 16318) 370 [some (.ref b), some (.ref (ad 0)), some (.ref (ad 48)), some (iv i)] [] M := by
  obtain ⟨⟨a1, a2, a3, a4, a5, a6, a7, a8, a9, a10, a11, a12, a13, a14⟩, ⟨b1, b2, b3, b4, b5, b6, b7, b8, b9, b10⟩⟩ := id h
  refine Z_aload1 hk dL_law_370 ?_
  refine Z_aload0 hk dL_law_371 ?_
  refine Z_iload3 hk dL_law_372 ?_
  refine Z_iconst hk dL_law_373 ?_
  refine Z_iadd hk dL_law_374 ?_
  refine Z_sld hk hX hbl hbA hLn (by omega) (by omega) dL_law_375 (fun v375 e375 u375 w375 => ?_)
  refine Z_aload0 hk dL_law_376 ?_
  refine Z_iload3 hk dL_law_377 ?_
  refine Z_iconst hk dL_law_378 ?_
  refine Z_iadd hk dL_law_379 ?_
  refine Z_sld hk hX hbl hbA hLn (by omega) (by omega) dL_law_380 (fun v380 e380 u380 w380 => ?_)
  refine Z_aload0 hk dL_law_381 ?_
  refine Z_iload3 hk dL_law_382 ?_
  refine Z_iconst hk dL_law_383 ?_
  refine Z_iadd hk dL_law_384 ?_
  refine Z_sld hk hX hbl hbA hLn (by omega) (by omega) dL_law_385 (fun v385 e385 u385 w385 => ?_)
  refine Z_aload0 hk dL_law_386 ?_
  refine Z_iload3 hk dL_law_387 ?_
  refine Z_iconst hk dL_law_388 ?_
  refine Z_iadd hk dL_law_389 ?_
  refine Z_sld hk hX hbl hbA hLn (by omega) (by omega) dL_law_390 (fun v390 e390 u390 w390 => ?_)
  refine Z_LVi hk (c_X8_score κ.2.1 δ ad _ hA v375 v380 v385 v390 (by first | omega | assumption) (by first | omega | assumption) (by first | omega | assumption) (by first | omega | assumption) (by first | omega | assumption) (by first | omega | assumption) (by first | omega | assumption)) ov_X8_score ml_L_41 dL_law_391 rfl ⟨by decide, by decide⟩ ob_0.1 (by decide) (by decide) rfl (Nat.le_of_ble_eq_true rfl) ⟨by decide, by decide⟩ (fun r391 m391 p391 => ?_)
  obtain ⟨p391, f391_0, f391_1, f391_2⟩ := p391
  replace h : Inv m391 := by
    refine ⟨⟨?_, ?_, ?_, ?_, ?_, ?_, ?_, ?_, ?_, ?_, ?_, ?_, ?_, ?_⟩, h.2.of (fun c hc => by apply f391_0 <;> omega)⟩ <;> (try simp only [f391_0, f391_1, and_true, true_and, or_true, true_or, implies_true, upn, reduceIte, Nat.reduceEqDiff, ne_eq, not_false_eq_true, upc]) <;> first | omega | assumption | exact f391_2 a13 | exact f391_2 a14
  replace hr : REL m391 := hr.of (by simp only [f391_0, f391_1, and_true, true_and, or_true, true_or, implies_true, upn, reduceIte, Nat.reduceEqDiff, ne_eq, not_false_eq_true, upc]) (by simp only [f391_0, f391_1, and_true, true_and, or_true, true_or, implies_true, upn, reduceIte, Nat.reduceEqDiff, ne_eq, not_false_eq_true, upc]) (by simp only [f391_0, f391_1, and_true, true_and, or_true, true_or, implies_true, upn, reduceIte, Nat.reduceEqDiff, ne_eq, not_false_eq_true, upc]) (by simp only [f391_0, f391_1, and_true, true_and, or_true, true_or, implies_true, upn, reduceIte, Nat.reduceEqDiff, ne_eq, not_false_eq_true, upc]) (by simp only [f391_0, f391_1, and_true, true_and, or_true, true_or, implies_true, upn, reduceIte, Nat.reduceEqDiff, ne_eq, not_false_eq_true, upc]) (by simp only [f391_0, f391_1, and_true, true_and, or_true, true_or, implies_true, upn, reduceIte, Nat.reduceEqDiff, ne_eq, not_false_eq_true, upc]) (by simp only [f391_0, f391_1, and_true, true_and, or_true, true_or, implies_true, upn, reduceIte, Nat.reduceEqDiff, ne_eq, not_false_eq_true, upc]) (by simp only [f391_0, f391_1, and_true, true_and, or_true, true_or, implies_true, upn, reduceIte, Nat.reduceEqDiff, ne_eq, not_false_eq_true, upc])
  obtain ⟨⟨a1, a2, a3, a4, a5, a6, a7, a8, a9, a10, a11, a12, a13, a14⟩, ⟨b1, b2, b3, b4, b5, b6, b7, b8, b9, b10⟩⟩ := id h
  refine Z_pop1 hk rfl dL_law_394 ?_
  refine Z_aload2 hk dL_law_395 ?_
  refine Z_aload0 hk dL_law_396 ?_
  refine Z_iload3 hk dL_law_397 ?_
  refine Z_iconst hk dL_law_398 ?_
  refine Z_iadd hk dL_law_399 ?_
  refine Z_sld hk hX hbl hbA hLn (by omega) (by omega) dL_law_400 (fun v400 e400 u400 w400 => ?_)
  refine Z_aload0 hk dL_law_401 ?_
  refine Z_iload3 hk dL_law_402 ?_
  refine Z_iconst hk dL_law_403 ?_
  refine Z_iadd hk dL_law_404 ?_
  refine Z_sld hk hX hbl hbA hLn (by omega) (by omega) dL_law_405 (fun v405 e405 u405 w405 => ?_)
  refine Z_aload0 hk dL_law_406 ?_
  refine Z_iload3 hk dL_law_407 ?_
  refine Z_iconst hk dL_law_408 ?_
  refine Z_iadd hk dL_law_409 ?_
  refine Z_sld hk hX hbl hbA hLn (by omega) (by omega) dL_law_410 (fun v410 e410 u410 w410 => ?_)
  refine Z_aload0 hk dL_law_411 ?_
  refine Z_iload3 hk dL_law_412 ?_
  refine Z_iconst hk dL_law_413 ?_
  refine Z_iadd hk dL_law_414 ?_
  refine Z_sld hk hX hbl hbA hLn (by omega) (by omega) dL_law_415 (fun v415 e415 u415 w415 => ?_)
  refine Z_LVi hk (c_X9_score κ.2.1 δ ad _ hA v400 v405 v410 v415 (by first | omega | assumption) (by first | omega | assumption) (by first | omega | assumption) (by first | omega | assumption) (by first | omega | assumption) (by first | omega | assumption)) ov_X9_score ml_L_45 dL_law_416 rfl ⟨by decide, by decide⟩ ob_48.1 (by decide) (by decide) rfl (Nat.le_of_ble_eq_true rfl) ⟨by decide, by decide⟩ (fun r416 m416 p416 => ?_)
  obtain ⟨p416, f416_0, f416_1, f416_2⟩ := p416
  replace h : Inv m416 := by
    refine ⟨h.1.of (fun c hc => by apply f416_0 <;> omega), ⟨?_, ?_, ?_, ?_, ?_, ?_, ?_, ?_, ?_, ?_⟩⟩ <;> (first | (exact NK.same b4 (by simp only [f416_0, f416_1, and_true, true_and, or_true, true_or, implies_true, upn, reduceIte, Nat.reduceEqDiff, ne_eq, not_false_eq_true, upc]) (by simp only [f416_0, f416_1, and_true, true_and, or_true, true_or, implies_true, upn, reduceIte, Nat.reduceEqDiff, ne_eq, not_false_eq_true, upc]) (by simp only [f416_0, f416_1, and_true, true_and, or_true, true_or, implies_true, upn, reduceIte, Nat.reduceEqDiff, ne_eq, not_false_eq_true, upc])) | (fail) | ((try simp only [f416_0, f416_1, and_true, true_and, or_true, true_or, implies_true, upn, reduceIte, Nat.reduceEqDiff, ne_eq, not_false_eq_true, upc]) <;> first | omega | assumption))
  replace hr : REL m416 := hr.of (by simp only [f416_0, f416_1, and_true, true_and, or_true, true_or, implies_true, upn, reduceIte, Nat.reduceEqDiff, ne_eq, not_false_eq_true, upc]) (by simp only [f416_0, f416_1, and_true, true_and, or_true, true_or, implies_true, upn, reduceIte, Nat.reduceEqDiff, ne_eq, not_false_eq_true, upc]) (by simp only [f416_0, f416_1, and_true, true_and, or_true, true_or, implies_true, upn, reduceIte, Nat.reduceEqDiff, ne_eq, not_false_eq_true, upc]) (by simp only [f416_0, f416_1, and_true, true_and, or_true, true_or, implies_true, upn, reduceIte, Nat.reduceEqDiff, ne_eq, not_false_eq_true, upc]) (by simp only [f416_0, f416_1, and_true, true_and, or_true, true_or, implies_true, upn, reduceIte, Nat.reduceEqDiff, ne_eq, not_false_eq_true, upc]) (by simp only [f416_0, f416_1, and_true, true_and, or_true, true_or, implies_true, upn, reduceIte, Nat.reduceEqDiff, ne_eq, not_false_eq_true, upc]) (by simp only [f416_0, f416_1, and_true, true_and, or_true, true_or, implies_true, upn, reduceIte, Nat.reduceEqDiff, ne_eq, not_false_eq_true, upc]) (by simp only [f416_0, f416_1, and_true, true_and, or_true, true_or, implies_true, upn, reduceIte, Nat.reduceEqDiff, ne_eq, not_false_eq_true, upc])
  obtain ⟨⟨a1, a2, a3, a4, a5, a6, a7, a8, a9, a10, a11, a12, a13, a14⟩, ⟨b1, b2, b3, b4, b5, b6, b7, b8, b9, b10⟩⟩ := id h
  refine Z_pop1 hk rfl dL_law_419 ?_
  refine Z_goto hk (tgt := 1084) dL_law_420 (by decide) ?_
  exact J ad m416 hA h hr
set_option maxRecDepth 10000 in
set_option maxHeartbeats 4000000 in
theorem law_423 {κ : Kp} {δ : Dp} {Q : State → Prop} (hk : okK κ δ cL_law R_law 4 ret room_1) (hz : NS δ) {ad : Nat → Nat} {M : Mem} (hA : okA δ ad) (h : Inv M) (hr : REL M) {b Ln : Nat} {xs : Nat → Int32} (hX : va_X b Ln xs κ.2.2.2.2.1 κ.2.2.2.2.1.heap) (hbl : b < κ.2.2.2.2.1.heap.size) (hbA : b < δ.2.2.1) (hLn : Ln ≤ 3072) {i : Int} (hi : 0 ≤ i ∧ i + 6 ≤ Ln) (J : ∀ (ad : Nat → Nat) (M : Mem), okA δ ad → Inv M → REL M → Zj κ δ ad rs Q 4 (121, 121, 16318) 1084 [some (.ref b), some (.ref (ad 0)), some (.ref (ad 48)), some (iv i)] [] M) : Zj κ δ ad rs Q 4 (121, 121, 16318) 423 [some (.ref b), some (.ref (ad 0)), some (.ref (ad 48)), some (iv i)] [] M := by
  obtain ⟨⟨a1, a2, a3, a4, a5, a6, a7, a8, a9, a10, a11, a12, a13, a14⟩, ⟨b1, b2, b3, b4, b5, b6, b7, b8, b9, b10⟩⟩ := id h
  refine Z_aload1 hk dL_law_423 ?_
  refine Z_aload0 hk dL_law_424 ?_
  refine Z_iload3 hk dL_law_425 ?_
  refine Z_iconst hk dL_law_426 ?_
  refine Z_iadd hk dL_law_427 ?_
  refine Z_sld hk hX hbl hbA hLn (by omega) (by omega) dL_law_428 (fun v428 e428 u428 w428 => ?_)
  refine Z_aload0 hk dL_law_429 ?_
  refine Z_iload3 hk dL_law_430 ?_
  refine Z_iconst hk dL_law_431 ?_
  refine Z_iadd hk dL_law_432 ?_
  refine Z_sld hk hX hbl hbA hLn (by omega) (by omega) dL_law_433 (fun v433 e433 u433 w433 => ?_)
  refine Z_aload0 hk dL_law_434 ?_
  refine Z_iload3 hk dL_law_435 ?_
  refine Z_iconst hk dL_law_436 ?_
  refine Z_iadd hk dL_law_437 ?_
  refine Z_sld hk hX hbl hbA hLn (by omega) (by omega) dL_law_438 (fun v438 e438 u438 w438 => ?_)
  refine Z_LVi hk (c_X8_swap κ.2.1 δ ad _ hA v428 v433 v438 (by first | omega | assumption) (by first | omega | assumption) (by first | omega | assumption) (by first | omega | assumption) (by first | omega | assumption) (by first | omega | assumption)) ov_X8_swap ml_L_46 dL_law_439 rfl ⟨by decide, by decide⟩ ob_0.1 (by decide) (by decide) rfl (Nat.le_of_ble_eq_true rfl) ⟨by decide, by decide⟩ (fun r439 m439 p439 => ?_)
  obtain ⟨p439, f439_0, f439_1, f439_2⟩ := p439
  replace h : Inv m439 := by
    refine ⟨⟨?_, ?_, ?_, ?_, ?_, ?_, ?_, ?_, ?_, ?_, ?_, ?_, ?_, ?_⟩, h.2.of (fun c hc => by apply f439_0 <;> omega)⟩ <;> (try simp only [f439_0, f439_1, and_true, true_and, or_true, true_or, implies_true, upn, reduceIte, Nat.reduceEqDiff, ne_eq, not_false_eq_true, upc]) <;> first | omega | assumption | exact f439_2 a13 | exact f439_2 a14
  replace hr : REL m439 := hr.of (by simp only [f439_0, f439_1, and_true, true_and, or_true, true_or, implies_true, upn, reduceIte, Nat.reduceEqDiff, ne_eq, not_false_eq_true, upc]) (by simp only [f439_0, f439_1, and_true, true_and, or_true, true_or, implies_true, upn, reduceIte, Nat.reduceEqDiff, ne_eq, not_false_eq_true, upc]) (by simp only [f439_0, f439_1, and_true, true_and, or_true, true_or, implies_true, upn, reduceIte, Nat.reduceEqDiff, ne_eq, not_false_eq_true, upc]) (by simp only [f439_0, f439_1, and_true, true_and, or_true, true_or, implies_true, upn, reduceIte, Nat.reduceEqDiff, ne_eq, not_false_eq_true, upc]) (by simp only [f439_0, f439_1, and_true, true_and, or_true, true_or, implies_true, upn, reduceIte, Nat.reduceEqDiff, ne_eq, not_false_eq_true, upc]) (by simp only [f439_0, f439_1, and_true, true_and, or_true, true_or, implies_true, upn, reduceIte, Nat.reduceEqDiff, ne_eq, not_false_eq_true, upc]) (by simp only [f439_0, f439_1, and_true, true_and, or_true, true_or, implies_true, upn, reduceIte, Nat.reduceEqDiff, ne_eq, not_false_eq_true, upc]) (by simp only [f439_0, f439_1, and_true, true_and, or_true, true_or, implies_true, upn, reduceIte, Nat.reduceEqDiff, ne_eq, not_false_eq_true, upc])
  obtain ⟨⟨a1, a2, a3, a4, a5, a6, a7, a8, a9, a10, a11, a12, a13, a14⟩, ⟨b1, b2, b3, b4, b5, b6, b7, b8, b9, b10⟩⟩ := id h
  refine Z_pop1 hk rfl dL_law_442 ?_
  refine Z_aload2 hk dL_law_443 ?_
  refine Z_aload0 hk dL_law_444 ?_
  refine Z_iload3 hk dL_law_445 ?_
  refine Z_iconst hk dL_law_446 ?_
  refine Z_iadd hk dL_law_447 ?_
  refine Z_sld hk hX hbl hbA hLn (by omega) (by omega) dL_law_448 (fun v448 e448 u448 w448 => ?_)
  refine Z_aload0 hk dL_law_449 ?_
  refine Z_iload3 hk dL_law_450 ?_
  refine Z_iconst hk dL_law_451 ?_
  refine Z_iadd hk dL_law_452 ?_
  refine Z_sld hk hX hbl hbA hLn (by omega) (by omega) dL_law_453 (fun v453 e453 u453 w453 => ?_)
  refine Z_aload0 hk dL_law_454 ?_
  refine Z_iload3 hk dL_law_455 ?_
  refine Z_iconst hk dL_law_456 ?_
  refine Z_iadd hk dL_law_457 ?_
  refine Z_sld hk hX hbl hbA hLn (by omega) (by omega) dL_law_458 (fun v458 e458 u458 w458 => ?_)
  refine Z_LVi hk (c_X9_swap κ.2.1 δ ad _ hA v448 v453 v458 (by first | omega | assumption) (by first | omega | assumption) (by first | omega | assumption) (by first | omega | assumption) (by first | omega | assumption)) ov_X9_swap ml_L_49 dL_law_459 rfl ⟨by decide, by decide⟩ ob_48.1 (by decide) (by decide) rfl (Nat.le_of_ble_eq_true rfl) ⟨by decide, by decide⟩ (fun r459 m459 p459 => ?_)
  obtain ⟨p459, f459_0, f459_1, f459_2⟩ := p459
  replace h : Inv m459 := by
    refine ⟨h.1.of (fun c hc => by apply f459_0 <;> omega), ⟨?_, ?_, ?_, ?_, ?_, ?_, ?_, ?_, ?_, ?_⟩⟩ <;> (first | (exact NK.same b4 (by simp only [f459_0, f459_1, and_true, true_and, or_true, true_or, implies_true, upn, reduceIte, Nat.reduceEqDiff, ne_eq, not_false_eq_true, upc]) (by simp only [f459_0, f459_1, and_true, true_and, or_true, true_or, implies_true, upn, reduceIte, Nat.reduceEqDiff, ne_eq, not_false_eq_true, upc]) (by simp only [f459_0, f459_1, and_true, true_and, or_true, true_or, implies_true, upn, reduceIte, Nat.reduceEqDiff, ne_eq, not_false_eq_true, upc])) | (fail) | ((try simp only [f459_0, f459_1, and_true, true_and, or_true, true_or, implies_true, upn, reduceIte, Nat.reduceEqDiff, ne_eq, not_false_eq_true, upc]) <;> first | omega | assumption))
  replace hr : REL m459 := hr.of (by simp only [f459_0, f459_1, and_true, true_and, or_true, true_or, implies_true, upn, reduceIte, Nat.reduceEqDiff, ne_eq, not_false_eq_true, upc]) (by simp only [f459_0, f459_1, and_true, true_and, or_true, true_or, implies_true, upn, reduceIte, Nat.reduceEqDiff, ne_eq, not_false_eq_true, upc]) (by simp only [f459_0, f459_1, and_true, true_and, or_true, true_or, implies_true, upn, reduceIte, Nat.reduceEqDiff, ne_eq, not_false_eq_true, upc]) (by simp only [f459_0, f459_1, and_true, true_and, or_true, true_or, implies_true, upn, reduceIte, Nat.reduceEqDiff, ne_eq, not_false_eq_true, upc]) (by simp only [f459_0, f459_1, and_true, true_and, or_true, true_or, implies_true, upn, reduceIte, Nat.reduceEqDiff, ne_eq, not_false_eq_true, upc]) (by simp only [f459_0, f459_1, and_true, true_and, or_true, true_or, implies_true, upn, reduceIte, Nat.reduceEqDiff, ne_eq, not_false_eq_true, upc]) (by simp only [f459_0, f459_1, and_true, true_and, or_true, true_or, implies_true, upn, reduceIte, Nat.reduceEqDiff, ne_eq, not_false_eq_true, upc]) (by simp only [f459_0, f459_1, and_true, true_and, or_true, true_or, implies_true, upn, reduceIte, Nat.reduceEqDiff, ne_eq, not_false_eq_true, upc])
  obtain ⟨⟨a1, a2, a3, a4, a5, a6, a7, a8, a9, a10, a11, a12, a13, a14⟩, ⟨b1, b2, b3, b4, b5, b6, b7, b8, b9, b10⟩⟩ := id h
  refine Z_pop1 hk rfl dL_law_462 ?_
  refine Z_goto hk (tgt := 1084) dL_law_463 (by decide) ?_
  exact J ad m459 hA h hr
set_option maxRecDepth 10000 in
set_option maxHeartbeats 4000000 in
theorem law_466 {κ : Kp} {δ : Dp} {Q : State → Prop} (hk : okK κ δ cL_law R_law 4 ret room_1) (hz : NS δ) {ad : Nat → Nat} {M : Mem} (hA : okA δ ad) (h : Inv M) (hr : REL M) {b Ln : Nat} {xs : Nat → Int32} (hX : va_X b Ln xs κ.2.2.2.2.1 κ.2.2.2.2.1.heap) (hbl : b < κ.2.2.2.2.1.heap.size) (hbA : b < δ.2.2.1) (hLn : Ln ≤ 3072) {i : Int} (hi : 0 ≤ i ∧ i + 6 ≤ Ln) (J : ∀ (ad : Nat → Nat) (M : Mem), okA δ ad → Inv M → REL M → Zj κ δ ad rs Q 4 (121, 121, 16318) 1084 [some (.ref b), some (.ref (ad 0)), some (.ref (ad 48)), some (iv i)] [] M) : Zj κ δ ad rs Q 4 (121, 121, 16318) 466 [some (.ref b), some (.ref (ad 0)), some (.ref (ad 48)), some (iv i)] [] M := by
  obtain ⟨⟨a1, a2, a3, a4, a5, a6, a7, a8, a9, a10, a11, a12, a13, a14⟩, ⟨b1, b2, b3, b4, b5, b6, b7, b8, b9, b10⟩⟩ := id h
  refine Z_aload1 hk dL_law_466 ?_
  refine Z_aload0 hk dL_law_467 ?_
  refine Z_iload3 hk dL_law_468 ?_
  refine Z_iconst hk dL_law_469 ?_
  refine Z_iadd hk dL_law_470 ?_
  refine Z_sld hk hX hbl hbA hLn (by omega) (by omega) dL_law_471 (fun v471 e471 u471 w471 => ?_)
  refine Z_LVi hk (c_X8_annul κ.2.1 δ ad _ hA v471 (by first | omega | assumption) (by first | omega | assumption) (by first | omega | assumption)) ov_X8_annul ml_L_50 dL_law_472 rfl ⟨by decide, by decide⟩ ob_0.1 (by decide) (by decide) rfl (Nat.le_of_ble_eq_true rfl) ⟨by decide, by decide⟩ (fun r472 m472 p472 => ?_)
  obtain ⟨p472, f472_0, f472_1, f472_2⟩ := p472
  replace h : Inv m472 := by
    refine ⟨⟨?_, ?_, ?_, ?_, ?_, ?_, ?_, ?_, ?_, ?_, ?_, ?_, ?_, ?_⟩, h.2.of (fun c hc => by apply f472_0 <;> omega)⟩ <;> (try simp only [f472_0, f472_1, and_true, true_and, or_true, true_or, implies_true, upn, reduceIte, Nat.reduceEqDiff, ne_eq, not_false_eq_true, upc]) <;> first | omega | assumption | exact f472_2 a13 | exact f472_2 a14
  replace hr : REL m472 := hr.of (by simp only [f472_0, f472_1, and_true, true_and, or_true, true_or, implies_true, upn, reduceIte, Nat.reduceEqDiff, ne_eq, not_false_eq_true, upc]) (by simp only [f472_0, f472_1, and_true, true_and, or_true, true_or, implies_true, upn, reduceIte, Nat.reduceEqDiff, ne_eq, not_false_eq_true, upc]) (by simp only [f472_0, f472_1, and_true, true_and, or_true, true_or, implies_true, upn, reduceIte, Nat.reduceEqDiff, ne_eq, not_false_eq_true, upc]) (by simp only [f472_0, f472_1, and_true, true_and, or_true, true_or, implies_true, upn, reduceIte, Nat.reduceEqDiff, ne_eq, not_false_eq_true, upc]) (by simp only [f472_0, f472_1, and_true, true_and, or_true, true_or, implies_true, upn, reduceIte, Nat.reduceEqDiff, ne_eq, not_false_eq_true, upc]) (by simp only [f472_0, f472_1, and_true, true_and, or_true, true_or, implies_true, upn, reduceIte, Nat.reduceEqDiff, ne_eq, not_false_eq_true, upc]) (by simp only [f472_0, f472_1, and_true, true_and, or_true, true_or, implies_true, upn, reduceIte, Nat.reduceEqDiff, ne_eq, not_false_eq_true, upc]) (by simp only [f472_0, f472_1, and_true, true_and, or_true, true_or, implies_true, upn, reduceIte, Nat.reduceEqDiff, ne_eq, not_false_eq_true, upc])
  obtain ⟨⟨a1, a2, a3, a4, a5, a6, a7, a8, a9, a10, a11, a12, a13, a14⟩, ⟨b1, b2, b3, b4, b5, b6, b7, b8, b9, b10⟩⟩ := id h
  refine Z_pop1 hk rfl dL_law_475 ?_
  refine Z_aload2 hk dL_law_476 ?_
  refine Z_aload0 hk dL_law_477 ?_
  refine Z_iload3 hk dL_law_478 ?_
  refine Z_iconst hk dL_law_479 ?_
  refine Z_iadd hk dL_law_480 ?_
  refine Z_sld hk hX hbl hbA hLn (by omega) (by omega) dL_law_481 (fun v481 e481 u481 w481 => ?_)
  refine Z_LVi hk (c_X9_annul κ.2.1 δ ad _ hA v481 (by first | omega | assumption) (by first | omega | assumption) (by first | omega | assumption)) ov_X9_annul ml_L_53 dL_law_482 rfl ⟨by decide, by decide⟩ ob_48.1 (by decide) (by decide) rfl (Nat.le_of_ble_eq_true rfl) ⟨by decide, by decide⟩ (fun r482 m482 p482 => ?_)
  obtain ⟨p482, f482_0, f482_1, f482_2⟩ := p482
  replace h : Inv m482 := by
    refine ⟨h.1.of (fun c hc => by apply f482_0 <;> omega), ⟨?_, ?_, ?_, ?_, ?_, ?_, ?_, ?_, ?_, ?_⟩⟩ <;> (first | (exact NK.same b4 (by simp only [f482_0, f482_1, and_true, true_and, or_true, true_or, implies_true, upn, reduceIte, Nat.reduceEqDiff, ne_eq, not_false_eq_true, upc]) (by simp only [f482_0, f482_1, and_true, true_and, or_true, true_or, implies_true, upn, reduceIte, Nat.reduceEqDiff, ne_eq, not_false_eq_true, upc]) (by simp only [f482_0, f482_1, and_true, true_and, or_true, true_or, implies_true, upn, reduceIte, Nat.reduceEqDiff, ne_eq, not_false_eq_true, upc])) | (fail) | ((try simp only [f482_0, f482_1, and_true, true_and, or_true, true_or, implies_true, upn, reduceIte, Nat.reduceEqDiff, ne_eq, not_false_eq_true, upc]) <;> first | omega | assumption))
  replace hr : REL m482 := hr.of (by simp only [f482_0, f482_1, and_true, true_and, or_true, true_or, implies_true, upn, reduceIte, Nat.reduceEqDiff, ne_eq, not_false_eq_true, upc]) (by simp only [f482_0, f482_1, and_true, true_and, or_true, true_or, implies_true, upn, reduceIte, Nat.reduceEqDiff, ne_eq, not_false_eq_true, upc]) (by simp only [f482_0, f482_1, and_true, true_and, or_true, true_or, implies_true, upn, reduceIte, Nat.reduceEqDiff, ne_eq, not_false_eq_true, upc]) (by simp only [f482_0, f482_1, and_true, true_and, or_true, true_or, implies_true, upn, reduceIte, Nat.reduceEqDiff, ne_eq, not_false_eq_true, upc]) (by simp only [f482_0, f482_1, and_true, true_and, or_true, true_or, implies_true, upn, reduceIte, Nat.reduceEqDiff, ne_eq, not_false_eq_true, upc]) (by simp only [f482_0, f482_1, and_true, true_and, or_true, true_or, implies_true, upn, reduceIte, Nat.reduceEqDiff, ne_eq, not_false_eq_true, upc]) (by simp only [f482_0, f482_1, and_true, true_and, or_true, true_or, implies_true, upn, reduceIte, Nat.reduceEqDiff, ne_eq, not_false_eq_true, upc]) (by simp only [f482_0, f482_1, and_true, true_and, or_true, true_or, implies_true, upn, reduceIte, Nat.reduceEqDiff, ne_eq, not_false_eq_true, upc])
  obtain ⟨⟨a1, a2, a3, a4, a5, a6, a7, a8, a9, a10, a11, a12, a13, a14⟩, ⟨b1, b2, b3, b4, b5, b6, b7, b8, b9, b10⟩⟩ := id h
  refine Z_pop1 hk rfl dL_law_485 ?_
  refine Z_goto hk (tgt := 1084) dL_law_486 (by decide) ?_
  exact J ad m482 hA h hr
set_option maxRecDepth 10000 in
set_option maxHeartbeats 4000000 in
theorem law_489 {κ : Kp} {δ : Dp} {Q : State → Prop} (hk : okK κ δ cL_law R_law 4 ret room_1) (hz : NS δ) {ad : Nat → Nat} {M : Mem} (hA : okA δ ad) (h : Inv M) (hr : REL M) {b Ln : Nat} {xs : Nat → Int32} (hX : va_X b Ln xs κ.2.2.2.2.1 κ.2.2.2.2.1.heap) (hbl : b < κ.2.2.2.2.1.heap.size) (hbA : b < δ.2.2.1) (hLn : Ln ≤ 3072) {i : Int} (hi : 0 ≤ i ∧ i + 6 ≤ Ln) (J : ∀ (ad : Nat → Nat) (M : Mem), okA δ ad → Inv M → REL M → Zj κ δ ad rs Q 4 (121, 121, 16318) 1084 [some (.ref b), some (.ref (ad 0)), some (.ref (ad 48)), some (iv i)] [] M) : Zj κ δ ad rs Q 4 (121, 121, 16318) 489 [some (.ref b), some (.ref (ad 0)), some (.ref (ad 48)), some (iv i)] [] M := by
  obtain ⟨⟨a1, a2, a3, a4, a5, a6, a7, a8, a9, a10, a11, a12, a13, a14⟩, ⟨b1, b2, b3, b4, b5, b6, b7, b8, b9, b10⟩⟩ := id h
  refine Z_aload1 hk dL_law_489 ?_
  refine Z_aload0 hk dL_law_490 ?_
  refine Z_iload3 hk dL_law_491 ?_
  refine Z_iconst hk dL_law_492 ?_
  refine Z_iadd hk dL_law_493 ?_
  refine Z_sld hk hX hbl hbA hLn (by omega) (by omega) dL_law_494 (fun v494 e494 u494 w494 => ?_)
  refine Z_LVi hk (c_X8_as κ.2.1 δ ad _ hA v494 (by first | omega | assumption) (by first | omega | assumption) (by first | omega | assumption)) ov_X8_as ml_L_54 dL_law_495 rfl ⟨by decide, by decide⟩ ob_0.1 (by decide) (by decide) rfl (Nat.le_of_ble_eq_true rfl) ⟨by decide, by decide⟩ (fun r495 m495 p495 => ?_)
  obtain ⟨p495, f495_0, f495_1⟩ := p495
  replace h : Inv m495 := by
    refine ⟨⟨?_, ?_, ?_, ?_, ?_, ?_, ?_, ?_, ?_, ?_, ?_, ?_, ?_, ?_⟩, h.2.of (fun c hc => by apply f495_0 <;> omega)⟩ <;> (try simp only [f495_0, f495_1, and_true, true_and, or_true, true_or, implies_true, upn, reduceIte, Nat.reduceEqDiff, ne_eq, not_false_eq_true, upc]) <;> first | omega | assumption
  replace hr : REL m495 := hr.of (by simp only [f495_0, f495_1, and_true, true_and, or_true, true_or, implies_true, upn, reduceIte, Nat.reduceEqDiff, ne_eq, not_false_eq_true, upc]) (by simp only [f495_0, f495_1, and_true, true_and, or_true, true_or, implies_true, upn, reduceIte, Nat.reduceEqDiff, ne_eq, not_false_eq_true, upc]) (by simp only [f495_0, f495_1, and_true, true_and, or_true, true_or, implies_true, upn, reduceIte, Nat.reduceEqDiff, ne_eq, not_false_eq_true, upc]) (by simp only [f495_0, f495_1, and_true, true_and, or_true, true_or, implies_true, upn, reduceIte, Nat.reduceEqDiff, ne_eq, not_false_eq_true, upc]) (by simp only [f495_0, f495_1, and_true, true_and, or_true, true_or, implies_true, upn, reduceIte, Nat.reduceEqDiff, ne_eq, not_false_eq_true, upc]) (by simp only [f495_0, f495_1, and_true, true_and, or_true, true_or, implies_true, upn, reduceIte, Nat.reduceEqDiff, ne_eq, not_false_eq_true, upc]) (by simp only [f495_0, f495_1, and_true, true_and, or_true, true_or, implies_true, upn, reduceIte, Nat.reduceEqDiff, ne_eq, not_false_eq_true, upc]) (by simp only [f495_0, f495_1, and_true, true_and, or_true, true_or, implies_true, upn, reduceIte, Nat.reduceEqDiff, ne_eq, not_false_eq_true, upc])
  obtain ⟨⟨a1, a2, a3, a4, a5, a6, a7, a8, a9, a10, a11, a12, a13, a14⟩, ⟨b1, b2, b3, b4, b5, b6, b7, b8, b9, b10⟩⟩ := id h
  refine Z_pop1 hk rfl dL_law_498 ?_
  refine Z_aload2 hk dL_law_499 ?_
  refine Z_aload0 hk dL_law_500 ?_
  refine Z_iload3 hk dL_law_501 ?_
  refine Z_iconst hk dL_law_502 ?_
  refine Z_iadd hk dL_law_503 ?_
  refine Z_sld hk hX hbl hbA hLn (by omega) (by omega) dL_law_504 (fun v504 e504 u504 w504 => ?_)
  refine Z_LVi hk (c_X9_as κ.2.1 δ ad _ hA v504 (by first | omega | assumption) (by first | omega | assumption)) ov_X9_as ml_L_57 dL_law_505 rfl ⟨by decide, by decide⟩ ob_48.1 (by decide) (by decide) rfl (Nat.le_of_ble_eq_true rfl) ⟨by decide, by decide⟩ (fun r505 m505 p505 => ?_)
  obtain ⟨p505, f505_0, f505_1⟩ := p505
  replace h : Inv m505 := by
    refine ⟨h.1.of (fun c hc => by apply f505_0 <;> omega), ⟨?_, ?_, ?_, ?_, ?_, ?_, ?_, ?_, ?_, ?_⟩⟩ <;> (first | (exact NK.same b4 (by simp only [f505_0, f505_1, and_true, true_and, or_true, true_or, implies_true, upn, reduceIte, Nat.reduceEqDiff, ne_eq, not_false_eq_true, upc]) (by simp only [f505_0, f505_1, and_true, true_and, or_true, true_or, implies_true, upn, reduceIte, Nat.reduceEqDiff, ne_eq, not_false_eq_true, upc]) (by simp only [f505_0, f505_1, and_true, true_and, or_true, true_or, implies_true, upn, reduceIte, Nat.reduceEqDiff, ne_eq, not_false_eq_true, upc])) | (fail) | ((try simp only [f505_0, f505_1, and_true, true_and, or_true, true_or, implies_true, upn, reduceIte, Nat.reduceEqDiff, ne_eq, not_false_eq_true, upc]) <;> first | omega | assumption))
  replace hr : REL m505 := hr.of (by simp only [f505_0, f505_1, and_true, true_and, or_true, true_or, implies_true, upn, reduceIte, Nat.reduceEqDiff, ne_eq, not_false_eq_true, upc]) (by simp only [f505_0, f505_1, and_true, true_and, or_true, true_or, implies_true, upn, reduceIte, Nat.reduceEqDiff, ne_eq, not_false_eq_true, upc]) (by simp only [f505_0, f505_1, and_true, true_and, or_true, true_or, implies_true, upn, reduceIte, Nat.reduceEqDiff, ne_eq, not_false_eq_true, upc]) (by simp only [f505_0, f505_1, and_true, true_and, or_true, true_or, implies_true, upn, reduceIte, Nat.reduceEqDiff, ne_eq, not_false_eq_true, upc]) (by simp only [f505_0, f505_1, and_true, true_and, or_true, true_or, implies_true, upn, reduceIte, Nat.reduceEqDiff, ne_eq, not_false_eq_true, upc]) (by simp only [f505_0, f505_1, and_true, true_and, or_true, true_or, implies_true, upn, reduceIte, Nat.reduceEqDiff, ne_eq, not_false_eq_true, upc]) (by simp only [f505_0, f505_1, and_true, true_and, or_true, true_or, implies_true, upn, reduceIte, Nat.reduceEqDiff, ne_eq, not_false_eq_true, upc]) (by simp only [f505_0, f505_1, and_true, true_and, or_true, true_or, implies_true, upn, reduceIte, Nat.reduceEqDiff, ne_eq, not_false_eq_true, upc])
  obtain ⟨⟨a1, a2, a3, a4, a5, a6, a7, a8, a9, a10, a11, a12, a13, a14⟩, ⟨b1, b2, b3, b4, b5, b6, b7, b8, b9, b10⟩⟩ := id h
  refine Z_pop1 hk rfl dL_law_508 ?_
  refine Z_goto hk (tgt := 1084) dL_law_509 (by decide) ?_
  exact J ad m505 hA h hr
set_option maxRecDepth 10000 in
set_option maxHeartbeats 4000000 in
theorem law_512 {κ : Kp} {δ : Dp} {Q : State → Prop} (hk : okK κ δ cL_law R_law 4 ret room_1) (hz : NS δ) {ad : Nat → Nat} {M : Mem} (hA : okA δ ad) (h : Inv M) (hr : REL M) {b Ln : Nat} {xs : Nat → Int32} (hX : va_X b Ln xs κ.2.2.2.2.1 κ.2.2.2.2.1.heap) (hbl : b < κ.2.2.2.2.1.heap.size) (hbA : b < δ.2.2.1) (hLn : Ln ≤ 3072) {i : Int} (hi : 0 ≤ i ∧ i + 6 ≤ Ln) (J : ∀ (ad : Nat → Nat) (M : Mem), okA δ ad → Inv M → REL M → Zj κ δ ad rs Q 4 (121, 121, 16318) 1084 [some (.ref b), some (.ref (ad 0)), some (.ref (ad 48)), some (iv i)] [] M) : Zj κ δ ad rs Q 4 (121, 121, 16318) 512 [some (.ref b), some (.ref (ad 0)), some (.ref (ad 48)), some (iv i)] [] M := by
  obtain ⟨⟨a1, a2, a3, a4, a5, a6, a7, a8, a9, a10, a11, a12, a13, a14⟩, ⟨b1, b2, b3, b4, b5, b6, b7, b8, b9, b10⟩⟩ := id h
  refine Z_aload1 hk dL_law_512 ?_
  refine Z_LVi hk (c_X8_open κ.2.1 δ ad _ hA  ) ov_X8_open ml_L_58 dL_law_513 rfl ⟨by decide, by decide⟩ ob_0.1 (by decide) (by decide) rfl (Nat.le_of_ble_eq_true rfl) ⟨by decide, by decide⟩ (fun r513 m513 p513 => ?_)
  obtain ⟨p513, f513_0, f513_1⟩ := p513
  replace h : Inv m513 := by
    refine ⟨⟨?_, ?_, ?_, ?_, ?_, ?_, ?_, ?_, ?_, ?_, ?_, ?_, ?_, ?_⟩, h.2.of (fun c hc => by apply f513_0 <;> omega)⟩ <;> (try simp only [f513_0, f513_1, and_true, true_and, or_true, true_or, implies_true, upn, reduceIte, Nat.reduceEqDiff, ne_eq, not_false_eq_true, upc]) <;> first | omega | assumption
  replace hr : REL m513 := hr.of (by simp only [f513_0, f513_1, and_true, true_and, or_true, true_or, implies_true, upn, reduceIte, Nat.reduceEqDiff, ne_eq, not_false_eq_true, upc]) (by simp only [f513_0, f513_1, and_true, true_and, or_true, true_or, implies_true, upn, reduceIte, Nat.reduceEqDiff, ne_eq, not_false_eq_true, upc]) (by simp only [f513_0, f513_1, and_true, true_and, or_true, true_or, implies_true, upn, reduceIte, Nat.reduceEqDiff, ne_eq, not_false_eq_true, upc]) (by simp only [f513_0, f513_1, and_true, true_and, or_true, true_or, implies_true, upn, reduceIte, Nat.reduceEqDiff, ne_eq, not_false_eq_true, upc]) (by simp only [f513_0, f513_1, and_true, true_and, or_true, true_or, implies_true, upn, reduceIte, Nat.reduceEqDiff, ne_eq, not_false_eq_true, upc]) (by simp only [f513_0, f513_1, and_true, true_and, or_true, true_or, implies_true, upn, reduceIte, Nat.reduceEqDiff, ne_eq, not_false_eq_true, upc]) (by simp only [f513_0, f513_1, and_true, true_and, or_true, true_or, implies_true, upn, reduceIte, Nat.reduceEqDiff, ne_eq, not_false_eq_true, upc]) (by simp only [f513_0, f513_1, and_true, true_and, or_true, true_or, implies_true, upn, reduceIte, Nat.reduceEqDiff, ne_eq, not_false_eq_true, upc])
  obtain ⟨⟨a1, a2, a3, a4, a5, a6, a7, a8, a9, a10, a11, a12, a13, a14⟩, ⟨b1, b2, b3, b4, b5, b6, b7, b8, b9, b10⟩⟩ := id h
  refine Z_pop1 hk rfl dL_law_516 ?_
  refine Z_aload2 hk dL_law_517 ?_
  refine Z_LVi hk (c_X9_open κ.2.1 δ ad _ hA  ) ov_X9_open ml_L_62 dL_law_518 rfl ⟨by decide, by decide⟩ ob_48.1 (by decide) (by decide) rfl (Nat.le_of_ble_eq_true rfl) ⟨by decide, by decide⟩ (fun r518 m518 p518 => ?_)
  obtain ⟨p518, f518_0, f518_1⟩ := p518
  replace h : Inv m518 := by
    refine ⟨h.1.of (fun c hc => by apply f518_0 <;> omega), ⟨?_, ?_, ?_, ?_, ?_, ?_, ?_, ?_, ?_, ?_⟩⟩ <;> (first | (exact NK.same b4 (by simp only [f518_0, f518_1, and_true, true_and, or_true, true_or, implies_true, upn, reduceIte, Nat.reduceEqDiff, ne_eq, not_false_eq_true, upc]) (by simp only [f518_0, f518_1, and_true, true_and, or_true, true_or, implies_true, upn, reduceIte, Nat.reduceEqDiff, ne_eq, not_false_eq_true, upc]) (by simp only [f518_0, f518_1, and_true, true_and, or_true, true_or, implies_true, upn, reduceIte, Nat.reduceEqDiff, ne_eq, not_false_eq_true, upc])) | (fail) | ((try simp only [f518_0, f518_1, and_true, true_and, or_true, true_or, implies_true, upn, reduceIte, Nat.reduceEqDiff, ne_eq, not_false_eq_true, upc]) <;> first | omega | assumption))
  replace hr : REL m518 := hr.of (by simp only [f518_0, f518_1, and_true, true_and, or_true, true_or, implies_true, upn, reduceIte, Nat.reduceEqDiff, ne_eq, not_false_eq_true, upc]) (by simp only [f518_0, f518_1, and_true, true_and, or_true, true_or, implies_true, upn, reduceIte, Nat.reduceEqDiff, ne_eq, not_false_eq_true, upc]) (by simp only [f518_0, f518_1, and_true, true_and, or_true, true_or, implies_true, upn, reduceIte, Nat.reduceEqDiff, ne_eq, not_false_eq_true, upc]) (by simp only [f518_0, f518_1, and_true, true_and, or_true, true_or, implies_true, upn, reduceIte, Nat.reduceEqDiff, ne_eq, not_false_eq_true, upc]) (by simp only [f518_0, f518_1, and_true, true_and, or_true, true_or, implies_true, upn, reduceIte, Nat.reduceEqDiff, ne_eq, not_false_eq_true, upc]) (by simp only [f518_0, f518_1, and_true, true_and, or_true, true_or, implies_true, upn, reduceIte, Nat.reduceEqDiff, ne_eq, not_false_eq_true, upc]) (by simp only [f518_0, f518_1, and_true, true_and, or_true, true_or, implies_true, upn, reduceIte, Nat.reduceEqDiff, ne_eq, not_false_eq_true, upc]) (by simp only [f518_0, f518_1, and_true, true_and, or_true, true_or, implies_true, upn, reduceIte, Nat.reduceEqDiff, ne_eq, not_false_eq_true, upc])
  obtain ⟨⟨a1, a2, a3, a4, a5, a6, a7, a8, a9, a10, a11, a12, a13, a14⟩, ⟨b1, b2, b3, b4, b5, b6, b7, b8, b9, b10⟩⟩ := id h
  refine Z_pop1 hk rfl dL_law_521 ?_
  refine Z_goto hk (tgt := 1084) dL_law_522 (by decide) ?_
  exact J ad m518 hA h hr
set_option maxRecDepth 10000 in
set_option maxHeartbeats 4000000 in
theorem law_525 {κ : Kp} {δ : Dp} {Q : State → Prop} (hk : okK κ δ cL_law R_law 4 ret room_1) (hz : NS δ) {ad : Nat → Nat} {M : Mem} (hA : okA δ ad) (h : Inv M) (hr : REL M) {b Ln : Nat} {xs : Nat → Int32} (hX : va_X b Ln xs κ.2.2.2.2.1 κ.2.2.2.2.1.heap) (hbl : b < κ.2.2.2.2.1.heap.size) (hbA : b < δ.2.2.1) (hLn : Ln ≤ 3072) {i : Int} (hi : 0 ≤ i ∧ i + 6 ≤ Ln) (J : ∀ (ad : Nat → Nat) (M : Mem), okA δ ad → Inv M → REL M → Zj κ δ ad rs Q 4 (121, 121, 16318) 1084 [some (.ref b), some (.ref (ad 0)), some (.ref (ad 48)), some (iv i)] [] M) : Zj κ δ ad rs Q 4 (121, 121, 16318) 525 [some (.ref b), some (.ref (ad 0)), some (.ref (ad 48)), some (iv i)] [] M := by
  obtain ⟨⟨a1, a2, a3, a4, a5, a6, a7, a8, a9, a10, a11, a12, a13, a14⟩, ⟨b1, b2, b3, b4, b5, b6, b7, b8, b9, b10⟩⟩ := id h
  refine Z_aload1 hk dL_law_525 ?_
  refine Z_aload0 hk dL_law_526 ?_
  refine Z_iload3 hk dL_law_527 ?_
  refine Z_iconst hk dL_law_528 ?_
  refine Z_iadd hk dL_law_529 ?_
  refine Z_sld hk hX hbl hbA hLn (by omega) (by omega) dL_law_530 (fun v530 e530 u530 w530 => ?_)
  refine Z_LVi hk (c_X8_answers κ.2.1 δ ad _ hA v530 hz (by first | omega | assumption) (by first | omega | assumption) (by first | omega | assumption) (by first | omega | assumption) (by first | omega | assumption) (by first | omega | assumption)) ov_X8_answers ml_L_63 dL_law_531 rfl ⟨by decide, by decide⟩ ob_0.1 (by decide) (by decide) rfl (Nat.le_of_ble_eq_true rfl) ⟨by decide, by decide⟩ (fun r531 m531 p531 => ?_)
  obtain ⟨p531, f531_0, f531_1⟩ := p531
  replace h : Inv m531 := by
    refine ⟨⟨?_, ?_, ?_, ?_, ?_, ?_, ?_, ?_, ?_, ?_, ?_, ?_, ?_, ?_⟩, h.2.of (fun c hc => by apply f531_0 <;> omega)⟩ <;> (try simp only [f531_0, f531_1, and_true, true_and, or_true, true_or, implies_true, upn, reduceIte, Nat.reduceEqDiff, ne_eq, not_false_eq_true, upc]) <;> first | omega | assumption
  replace hr : REL m531 := hr.of (by simp only [f531_0, f531_1, and_true, true_and, or_true, true_or, implies_true, upn, reduceIte, Nat.reduceEqDiff, ne_eq, not_false_eq_true, upc]) (by simp only [f531_0, f531_1, and_true, true_and, or_true, true_or, implies_true, upn, reduceIte, Nat.reduceEqDiff, ne_eq, not_false_eq_true, upc]) (by simp only [f531_0, f531_1, and_true, true_and, or_true, true_or, implies_true, upn, reduceIte, Nat.reduceEqDiff, ne_eq, not_false_eq_true, upc]) (by simp only [f531_0, f531_1, and_true, true_and, or_true, true_or, implies_true, upn, reduceIte, Nat.reduceEqDiff, ne_eq, not_false_eq_true, upc]) (by simp only [f531_0, f531_1, and_true, true_and, or_true, true_or, implies_true, upn, reduceIte, Nat.reduceEqDiff, ne_eq, not_false_eq_true, upc]) (by simp only [f531_0, f531_1, and_true, true_and, or_true, true_or, implies_true, upn, reduceIte, Nat.reduceEqDiff, ne_eq, not_false_eq_true, upc]) (by simp only [f531_0, f531_1, and_true, true_and, or_true, true_or, implies_true, upn, reduceIte, Nat.reduceEqDiff, ne_eq, not_false_eq_true, upc]) (by simp only [f531_0, f531_1, and_true, true_and, or_true, true_or, implies_true, upn, reduceIte, Nat.reduceEqDiff, ne_eq, not_false_eq_true, upc])
  obtain ⟨⟨a1, a2, a3, a4, a5, a6, a7, a8, a9, a10, a11, a12, a13, a14⟩, ⟨b1, b2, b3, b4, b5, b6, b7, b8, b9, b10⟩⟩ := id h
  refine Z_pop1 hk rfl dL_law_534 ?_
  refine Z_aload2 hk dL_law_535 ?_
  refine Z_aload0 hk dL_law_536 ?_
  refine Z_iload3 hk dL_law_537 ?_
  refine Z_iconst hk dL_law_538 ?_
  refine Z_iadd hk dL_law_539 ?_
  refine Z_sld hk hX hbl hbA hLn (by omega) (by omega) dL_law_540 (fun v540 e540 u540 w540 => ?_)
  refine Z_LVi hk (c_X9_answers κ.2.1 δ ad _ hA v540 (by first | omega | assumption) (by first | omega | assumption) (by first | omega | assumption) (by first | omega | assumption) (by first | omega | assumption) (by first | omega | assumption)) ov_X9_answers ml_L_66 dL_law_541 rfl ⟨by decide, by decide⟩ ob_48.1 (by decide) (by decide) rfl (Nat.le_of_ble_eq_true rfl) ⟨by decide, by decide⟩ (fun r541 m541 p541 => ?_)
  obtain ⟨p541, f541_0, f541_1⟩ := p541
  replace h : Inv m541 := by
    refine ⟨h.1.of (fun c hc => by apply f541_0 <;> omega), ⟨?_, ?_, ?_, ?_, ?_, ?_, ?_, ?_, ?_, ?_⟩⟩ <;> (first | (exact NK.same b4 (by simp only [f541_0, f541_1, and_true, true_and, or_true, true_or, implies_true, upn, reduceIte, Nat.reduceEqDiff, ne_eq, not_false_eq_true, upc]) (by simp only [f541_0, f541_1, and_true, true_and, or_true, true_or, implies_true, upn, reduceIte, Nat.reduceEqDiff, ne_eq, not_false_eq_true, upc]) (by simp only [f541_0, f541_1, and_true, true_and, or_true, true_or, implies_true, upn, reduceIte, Nat.reduceEqDiff, ne_eq, not_false_eq_true, upc])) | (fail) | ((try simp only [f541_0, f541_1, and_true, true_and, or_true, true_or, implies_true, upn, reduceIte, Nat.reduceEqDiff, ne_eq, not_false_eq_true, upc]) <;> first | omega | assumption))
  replace hr : REL m541 := hr.of (by simp only [f541_0, f541_1, and_true, true_and, or_true, true_or, implies_true, upn, reduceIte, Nat.reduceEqDiff, ne_eq, not_false_eq_true, upc]) (by simp only [f541_0, f541_1, and_true, true_and, or_true, true_or, implies_true, upn, reduceIte, Nat.reduceEqDiff, ne_eq, not_false_eq_true, upc]) (by simp only [f541_0, f541_1, and_true, true_and, or_true, true_or, implies_true, upn, reduceIte, Nat.reduceEqDiff, ne_eq, not_false_eq_true, upc]) (by simp only [f541_0, f541_1, and_true, true_and, or_true, true_or, implies_true, upn, reduceIte, Nat.reduceEqDiff, ne_eq, not_false_eq_true, upc]) (by simp only [f541_0, f541_1, and_true, true_and, or_true, true_or, implies_true, upn, reduceIte, Nat.reduceEqDiff, ne_eq, not_false_eq_true, upc]) (by simp only [f541_0, f541_1, and_true, true_and, or_true, true_or, implies_true, upn, reduceIte, Nat.reduceEqDiff, ne_eq, not_false_eq_true, upc]) (by simp only [f541_0, f541_1, and_true, true_and, or_true, true_or, implies_true, upn, reduceIte, Nat.reduceEqDiff, ne_eq, not_false_eq_true, upc]) (by simp only [f541_0, f541_1, and_true, true_and, or_true, true_or, implies_true, upn, reduceIte, Nat.reduceEqDiff, ne_eq, not_false_eq_true, upc])
  obtain ⟨⟨a1, a2, a3, a4, a5, a6, a7, a8, a9, a10, a11, a12, a13, a14⟩, ⟨b1, b2, b3, b4, b5, b6, b7, b8, b9, b10⟩⟩ := id h
  refine Z_pop1 hk rfl dL_law_544 ?_
  refine Z_goto hk (tgt := 1084) dL_law_545 (by decide) ?_
  exact J ad m541 hA h hr
set_option maxRecDepth 10000 in
set_option maxHeartbeats 4000000 in
theorem law_548 {κ : Kp} {δ : Dp} {Q : State → Prop} (hk : okK κ δ cL_law R_law 4 ret room_1) (hz : NS δ) {ad : Nat → Nat} {M : Mem} (hA : okA δ ad) (h : Inv M) (hr : REL M) {b Ln : Nat} {xs : Nat → Int32} (hX : va_X b Ln xs κ.2.2.2.2.1 κ.2.2.2.2.1.heap) (hbl : b < κ.2.2.2.2.1.heap.size) (hbA : b < δ.2.2.1) (hLn : Ln ≤ 3072) {i : Int} (hi : 0 ≤ i ∧ i + 6 ≤ Ln) (J : ∀ (ad : Nat → Nat) (M : Mem), okA δ ad → Inv M → REL M → Zj κ δ ad rs Q 4 (121, 121, 16318) 1084 [some (.ref b), some (.ref (ad 0)), some (.ref (ad 48)), some (iv i)] [] M) : Zj κ δ ad rs Q 4 (121, 121, 16318) 548 [some (.ref b), some (.ref (ad 0)), some (.ref (ad 48)), some (iv i)] [] M := by
  obtain ⟨⟨a1, a2, a3, a4, a5, a6, a7, a8, a9, a10, a11, a12, a13, a14⟩, ⟨b1, b2, b3, b4, b5, b6, b7, b8, b9, b10⟩⟩ := id h
  refine Z_aload1 hk dL_law_548 ?_
  refine Z_aload0 hk dL_law_549 ?_
  refine Z_iload3 hk dL_law_550 ?_
  refine Z_iconst hk dL_law_551 ?_
  refine Z_iadd hk dL_law_552 ?_
  refine Z_sld hk hX hbl hbA hLn (by omega) (by omega) dL_law_553 (fun v553 e553 u553 w553 => ?_)
  refine Z_aload0 hk dL_law_554 ?_
  refine Z_iload3 hk dL_law_555 ?_
  refine Z_iconst hk dL_law_556 ?_
  refine Z_iadd hk dL_law_557 ?_
  refine Z_sld hk hX hbl hbA hLn (by omega) (by omega) dL_law_558 (fun v558 e558 u558 w558 => ?_)
  refine Z_LVi hk (c_X8_inside κ.2.1 δ ad _ hA v553 v558 hz (by first | omega | assumption) (by first | omega | assumption) (by first | omega | assumption) (by first | omega | assumption) (by first | omega | assumption) (by first | omega | assumption) (by first | omega | assumption)) ov_X8_inside ml_L_67 dL_law_559 rfl ⟨by decide, by decide⟩ ob_0.1 (by decide) (by decide) rfl (Nat.le_of_ble_eq_true rfl) ⟨by decide, by decide⟩ (fun r559 m559 p559 => ?_)
  obtain ⟨p559, f559_0⟩ := p559
  replace h : Inv m559 := by
    refine ⟨⟨?_, ?_, ?_, ?_, ?_, ?_, ?_, ?_, ?_, ?_, ?_, ?_, ?_, ?_⟩, h.2.of (fun c hc => by apply f559_0 <;> omega)⟩ <;> (try simp only [f559_0, and_true, true_and, or_true, true_or, implies_true, upn, reduceIte, Nat.reduceEqDiff, ne_eq, not_false_eq_true, upc]) <;> first | omega | assumption
  replace hr : REL m559 := hr.of (by simp only [f559_0, and_true, true_and, or_true, true_or, implies_true, upn, reduceIte, Nat.reduceEqDiff, ne_eq, not_false_eq_true, upc]) (by simp only [f559_0, and_true, true_and, or_true, true_or, implies_true, upn, reduceIte, Nat.reduceEqDiff, ne_eq, not_false_eq_true, upc]) (by simp only [f559_0, and_true, true_and, or_true, true_or, implies_true, upn, reduceIte, Nat.reduceEqDiff, ne_eq, not_false_eq_true, upc]) (by simp only [f559_0, and_true, true_and, or_true, true_or, implies_true, upn, reduceIte, Nat.reduceEqDiff, ne_eq, not_false_eq_true, upc]) (by simp only [f559_0, and_true, true_and, or_true, true_or, implies_true, upn, reduceIte, Nat.reduceEqDiff, ne_eq, not_false_eq_true, upc]) (by simp only [f559_0, and_true, true_and, or_true, true_or, implies_true, upn, reduceIte, Nat.reduceEqDiff, ne_eq, not_false_eq_true, upc]) (by simp only [f559_0, and_true, true_and, or_true, true_or, implies_true, upn, reduceIte, Nat.reduceEqDiff, ne_eq, not_false_eq_true, upc]) (by simp only [f559_0, and_true, true_and, or_true, true_or, implies_true, upn, reduceIte, Nat.reduceEqDiff, ne_eq, not_false_eq_true, upc])
  obtain ⟨⟨a1, a2, a3, a4, a5, a6, a7, a8, a9, a10, a11, a12, a13, a14⟩, ⟨b1, b2, b3, b4, b5, b6, b7, b8, b9, b10⟩⟩ := id h
  refine Z_pop1 hk rfl dL_law_562 ?_
  refine Z_aload2 hk dL_law_563 ?_
  refine Z_aload0 hk dL_law_564 ?_
  refine Z_iload3 hk dL_law_565 ?_
  refine Z_iconst hk dL_law_566 ?_
  refine Z_iadd hk dL_law_567 ?_
  refine Z_sld hk hX hbl hbA hLn (by omega) (by omega) dL_law_568 (fun v568 e568 u568 w568 => ?_)
  refine Z_aload0 hk dL_law_569 ?_
  refine Z_iload3 hk dL_law_570 ?_
  refine Z_iconst hk dL_law_571 ?_
  refine Z_iadd hk dL_law_572 ?_
  refine Z_sld hk hX hbl hbA hLn (by omega) (by omega) dL_law_573 (fun v573 e573 u573 w573 => ?_)
  refine Z_LVi hk (c_X9_inside κ.2.1 δ ad _ hA v568 v573 (by first | omega | assumption) (by first | omega | assumption) (by first | omega | assumption) (by first | omega | assumption)) ov_X9_inside ml_L_71 dL_law_574 rfl ⟨by decide, by decide⟩ ob_48.1 (by decide) (by decide) rfl (Nat.le_of_ble_eq_true rfl) ⟨by decide, by decide⟩ (fun r574 m574 p574 => ?_)
  obtain ⟨p574, f574_0⟩ := p574
  replace h : Inv m574 := by
    refine ⟨h.1.of (fun c hc => by apply f574_0 <;> omega), ⟨?_, ?_, ?_, ?_, ?_, ?_, ?_, ?_, ?_, ?_⟩⟩ <;> (first | (exact NK.same b4 (by simp only [f574_0, and_true, true_and, or_true, true_or, implies_true, upn, reduceIte, Nat.reduceEqDiff, ne_eq, not_false_eq_true, upc]) (by simp only [f574_0, and_true, true_and, or_true, true_or, implies_true, upn, reduceIte, Nat.reduceEqDiff, ne_eq, not_false_eq_true, upc]) (by simp only [f574_0, and_true, true_and, or_true, true_or, implies_true, upn, reduceIte, Nat.reduceEqDiff, ne_eq, not_false_eq_true, upc])) | (fail) | ((try simp only [f574_0, and_true, true_and, or_true, true_or, implies_true, upn, reduceIte, Nat.reduceEqDiff, ne_eq, not_false_eq_true, upc]) <;> first | omega | assumption))
  replace hr : REL m574 := hr.of (by simp only [f574_0, and_true, true_and, or_true, true_or, implies_true, upn, reduceIte, Nat.reduceEqDiff, ne_eq, not_false_eq_true, upc]) (by simp only [f574_0, and_true, true_and, or_true, true_or, implies_true, upn, reduceIte, Nat.reduceEqDiff, ne_eq, not_false_eq_true, upc]) (by simp only [f574_0, and_true, true_and, or_true, true_or, implies_true, upn, reduceIte, Nat.reduceEqDiff, ne_eq, not_false_eq_true, upc]) (by simp only [f574_0, and_true, true_and, or_true, true_or, implies_true, upn, reduceIte, Nat.reduceEqDiff, ne_eq, not_false_eq_true, upc]) (by simp only [f574_0, and_true, true_and, or_true, true_or, implies_true, upn, reduceIte, Nat.reduceEqDiff, ne_eq, not_false_eq_true, upc]) (by simp only [f574_0, and_true, true_and, or_true, true_or, implies_true, upn, reduceIte, Nat.reduceEqDiff, ne_eq, not_false_eq_true, upc]) (by simp only [f574_0, and_true, true_and, or_true, true_or, implies_true, upn, reduceIte, Nat.reduceEqDiff, ne_eq, not_false_eq_true, upc]) (by simp only [f574_0, and_true, true_and, or_true, true_or, implies_true, upn, reduceIte, Nat.reduceEqDiff, ne_eq, not_false_eq_true, upc])
  obtain ⟨⟨a1, a2, a3, a4, a5, a6, a7, a8, a9, a10, a11, a12, a13, a14⟩, ⟨b1, b2, b3, b4, b5, b6, b7, b8, b9, b10⟩⟩ := id h
  refine Z_pop1 hk rfl dL_law_577 ?_
  refine Z_goto hk (tgt := 1084) dL_law_578 (by decide) ?_
  exact J ad m574 hA h hr
set_option maxRecDepth 10000 in
set_option maxHeartbeats 4000000 in
theorem law_581 {κ : Kp} {δ : Dp} {Q : State → Prop} (hk : okK κ δ cL_law R_law 4 ret room_1) (hz : NS δ) {ad : Nat → Nat} {M : Mem} (hA : okA δ ad) (h : Inv M) (hr : REL M) {b Ln : Nat} {xs : Nat → Int32} (hX : va_X b Ln xs κ.2.2.2.2.1 κ.2.2.2.2.1.heap) (hbl : b < κ.2.2.2.2.1.heap.size) (hbA : b < δ.2.2.1) (hLn : Ln ≤ 3072) {i : Int} (hi : 0 ≤ i ∧ i + 6 ≤ Ln) (J : ∀ (ad : Nat → Nat) (M : Mem), okA δ ad → Inv M → REL M → Zj κ δ ad rs Q 4 (121, 121, 16318) 1084 [some (.ref b), some (.ref (ad 0)), some (.ref (ad 48)), some (iv i)] [] M) : Zj κ δ ad rs Q 4 (121, 121, 16318) 581 [some (.ref b), some (.ref (ad 0)), some (.ref (ad 48)), some (iv i)] [] M := by
  obtain ⟨⟨a1, a2, a3, a4, a5, a6, a7, a8, a9, a10, a11, a12, a13, a14⟩, ⟨b1, b2, b3, b4, b5, b6, b7, b8, b9, b10⟩⟩ := id h
  refine Z_aload1 hk dL_law_581 ?_
  refine Z_aload0 hk dL_law_582 ?_
  refine Z_iload3 hk dL_law_583 ?_
  refine Z_iconst hk dL_law_584 ?_
  refine Z_iadd hk dL_law_585 ?_
  refine Z_sld hk hX hbl hbA hLn (by omega) (by omega) dL_law_586 (fun v586 e586 u586 w586 => ?_)
  refine Z_aload0 hk dL_law_587 ?_
  refine Z_iload3 hk dL_law_588 ?_
  refine Z_iconst hk dL_law_589 ?_
  refine Z_iadd hk dL_law_590 ?_
  refine Z_sld hk hX hbl hbA hLn (by omega) (by omega) dL_law_591 (fun v591 e591 u591 w591 => ?_)
  refine Z_LVi hk (c_X8_trial κ.2.1 δ ad _ hA v586 v591 hz (by first | omega | assumption) (by first | omega | assumption) (by first | omega | assumption) (by first | omega | assumption) (by first | omega | assumption) (by first | omega | assumption) (by first | omega | assumption)) ov_X8_trial ml_L_72 dL_law_592 rfl ⟨by decide, by decide⟩ ob_0.1 (by decide) (by decide) rfl (Nat.le_of_ble_eq_true rfl) ⟨by decide, by decide⟩ (fun r592 m592 p592 => ?_)
  obtain ⟨p592, f592_0, f592_1⟩ := p592
  replace h : Inv m592 := by
    refine ⟨⟨?_, ?_, ?_, ?_, ?_, ?_, ?_, ?_, ?_, ?_, ?_, ?_, ?_, ?_⟩, h.2.of (fun c hc => by apply f592_0 <;> omega)⟩ <;> (try simp only [f592_0, f592_1, and_true, true_and, or_true, true_or, implies_true, upn, reduceIte, Nat.reduceEqDiff, ne_eq, not_false_eq_true, upc]) <;> first | omega | assumption
  replace hr : REL m592 := hr.of (by simp only [f592_0, f592_1, and_true, true_and, or_true, true_or, implies_true, upn, reduceIte, Nat.reduceEqDiff, ne_eq, not_false_eq_true, upc]) (by simp only [f592_0, f592_1, and_true, true_and, or_true, true_or, implies_true, upn, reduceIte, Nat.reduceEqDiff, ne_eq, not_false_eq_true, upc]) (by simp only [f592_0, f592_1, and_true, true_and, or_true, true_or, implies_true, upn, reduceIte, Nat.reduceEqDiff, ne_eq, not_false_eq_true, upc]) (by simp only [f592_0, f592_1, and_true, true_and, or_true, true_or, implies_true, upn, reduceIte, Nat.reduceEqDiff, ne_eq, not_false_eq_true, upc]) (by simp only [f592_0, f592_1, and_true, true_and, or_true, true_or, implies_true, upn, reduceIte, Nat.reduceEqDiff, ne_eq, not_false_eq_true, upc]) (by simp only [f592_0, f592_1, and_true, true_and, or_true, true_or, implies_true, upn, reduceIte, Nat.reduceEqDiff, ne_eq, not_false_eq_true, upc]) (by simp only [f592_0, f592_1, and_true, true_and, or_true, true_or, implies_true, upn, reduceIte, Nat.reduceEqDiff, ne_eq, not_false_eq_true, upc]) (by simp only [f592_0, f592_1, and_true, true_and, or_true, true_or, implies_true, upn, reduceIte, Nat.reduceEqDiff, ne_eq, not_false_eq_true, upc])
  obtain ⟨⟨a1, a2, a3, a4, a5, a6, a7, a8, a9, a10, a11, a12, a13, a14⟩, ⟨b1, b2, b3, b4, b5, b6, b7, b8, b9, b10⟩⟩ := id h
  refine Z_pop1 hk rfl dL_law_595 ?_
  refine Z_aload2 hk dL_law_596 ?_
  refine Z_aload0 hk dL_law_597 ?_
  refine Z_iload3 hk dL_law_598 ?_
  refine Z_iconst hk dL_law_599 ?_
  refine Z_iadd hk dL_law_600 ?_
  refine Z_sld hk hX hbl hbA hLn (by omega) (by omega) dL_law_601 (fun v601 e601 u601 w601 => ?_)
  refine Z_aload0 hk dL_law_602 ?_
  refine Z_iload3 hk dL_law_603 ?_
  refine Z_iconst hk dL_law_604 ?_
  refine Z_iadd hk dL_law_605 ?_
  refine Z_sld hk hX hbl hbA hLn (by omega) (by omega) dL_law_606 (fun v606 e606 u606 w606 => ?_)
  refine Z_LVi hk (c_X9_trial κ.2.1 δ ad _ hA v601 v606 (by first | omega | assumption) (by first | omega | assumption) (by first | omega | assumption) (by first | omega | assumption) (by first | omega | assumption) (by first | omega | assumption) (by first | omega | assumption)) ov_X9_trial ml_L_75 dL_law_607 rfl ⟨by decide, by decide⟩ ob_48.1 (by decide) (by decide) rfl (Nat.le_of_ble_eq_true rfl) ⟨by decide, by decide⟩ (fun r607 m607 p607 => ?_)
  obtain ⟨p607, f607_0, f607_1⟩ := p607
  replace h : Inv m607 := by
    refine ⟨h.1.of (fun c hc => by apply f607_0 <;> omega), ⟨?_, ?_, ?_, ?_, ?_, ?_, ?_, ?_, ?_, ?_⟩⟩ <;> (first | (exact NK.same b4 (by simp only [f607_0, f607_1, and_true, true_and, or_true, true_or, implies_true, upn, reduceIte, Nat.reduceEqDiff, ne_eq, not_false_eq_true, upc]) (by simp only [f607_0, f607_1, and_true, true_and, or_true, true_or, implies_true, upn, reduceIte, Nat.reduceEqDiff, ne_eq, not_false_eq_true, upc]) (by simp only [f607_0, f607_1, and_true, true_and, or_true, true_or, implies_true, upn, reduceIte, Nat.reduceEqDiff, ne_eq, not_false_eq_true, upc])) | (fail) | ((try simp only [f607_0, f607_1, and_true, true_and, or_true, true_or, implies_true, upn, reduceIte, Nat.reduceEqDiff, ne_eq, not_false_eq_true, upc]) <;> first | omega | assumption))
  replace hr : REL m607 := hr.of (by simp only [f607_0, f607_1, and_true, true_and, or_true, true_or, implies_true, upn, reduceIte, Nat.reduceEqDiff, ne_eq, not_false_eq_true, upc]) (by simp only [f607_0, f607_1, and_true, true_and, or_true, true_or, implies_true, upn, reduceIte, Nat.reduceEqDiff, ne_eq, not_false_eq_true, upc]) (by simp only [f607_0, f607_1, and_true, true_and, or_true, true_or, implies_true, upn, reduceIte, Nat.reduceEqDiff, ne_eq, not_false_eq_true, upc]) (by simp only [f607_0, f607_1, and_true, true_and, or_true, true_or, implies_true, upn, reduceIte, Nat.reduceEqDiff, ne_eq, not_false_eq_true, upc]) (by simp only [f607_0, f607_1, and_true, true_and, or_true, true_or, implies_true, upn, reduceIte, Nat.reduceEqDiff, ne_eq, not_false_eq_true, upc]) (by simp only [f607_0, f607_1, and_true, true_and, or_true, true_or, implies_true, upn, reduceIte, Nat.reduceEqDiff, ne_eq, not_false_eq_true, upc]) (by simp only [f607_0, f607_1, and_true, true_and, or_true, true_or, implies_true, upn, reduceIte, Nat.reduceEqDiff, ne_eq, not_false_eq_true, upc]) (by simp only [f607_0, f607_1, and_true, true_and, or_true, true_or, implies_true, upn, reduceIte, Nat.reduceEqDiff, ne_eq, not_false_eq_true, upc])
  obtain ⟨⟨a1, a2, a3, a4, a5, a6, a7, a8, a9, a10, a11, a12, a13, a14⟩, ⟨b1, b2, b3, b4, b5, b6, b7, b8, b9, b10⟩⟩ := id h
  refine Z_pop1 hk rfl dL_law_610 ?_
  refine Z_goto hk (tgt := 1084) dL_law_611 (by decide) ?_
  exact J ad m607 hA h hr
set_option maxRecDepth 10000 in
set_option maxHeartbeats 4000000 in
theorem law_614 {κ : Kp} {δ : Dp} {Q : State → Prop} (hk : okK κ δ cL_law R_law 4 ret room_1) (hz : NS δ) {ad : Nat → Nat} {M : Mem} (hA : okA δ ad) (h : Inv M) (hr : REL M) {b Ln : Nat} {xs : Nat → Int32} (hX : va_X b Ln xs κ.2.2.2.2.1 κ.2.2.2.2.1.heap) (hbl : b < κ.2.2.2.2.1.heap.size) (hbA : b < δ.2.2.1) (hLn : Ln ≤ 3072) {i : Int} (hi : 0 ≤ i ∧ i + 6 ≤ Ln) (J : ∀ (ad : Nat → Nat) (M : Mem), okA δ ad → Inv M → REL M → Zj κ δ ad rs Q 4 (121, 121, 16318) 1084 [some (.ref b), some (.ref (ad 0)), some (.ref (ad 48)), some (iv i)] [] M) : Zj κ δ ad rs Q 4 (121, 121, 16318) 614 [some (.ref b), some (.ref (ad 0)), some (.ref (ad 48)), some (iv i)] [] M := by
  obtain ⟨⟨a1, a2, a3, a4, a5, a6, a7, a8, a9, a10, a11, a12, a13, a14⟩, ⟨b1, b2, b3, b4, b5, b6, b7, b8, b9, b10⟩⟩ := id h
  refine Z_aload1 hk dL_law_614 ?_
  refine Z_aload0 hk dL_law_615 ?_
  refine Z_iload3 hk dL_law_616 ?_
  refine Z_iconst hk dL_law_617 ?_
  refine Z_iadd hk dL_law_618 ?_
  refine Z_sld hk hX hbl hbA hLn (by omega) (by omega) dL_law_619 (fun v619 e619 u619 w619 => ?_)
  refine Z_aload0 hk dL_law_620 ?_
  refine Z_iload3 hk dL_law_621 ?_
  refine Z_iconst hk dL_law_622 ?_
  refine Z_iadd hk dL_law_623 ?_
  refine Z_sld hk hX hbl hbA hLn (by omega) (by omega) dL_law_624 (fun v624 e624 u624 w624 => ?_)
  refine Z_if_eq hk (tgt := 632) dL_law_625 (by decide) (by omega) (by omega) (fun h625 => ?_) (fun h625 => ?_)
  · refine Z_iconst hk dL_law_632 ?_
    refine Z_LVj hk (c_X8_chance κ.2.1 δ ad _ hA v619 0 hz (by first | omega | assumption) (by first | omega | assumption) (by first | omega | assumption) (by first | omega | assumption) (by first | omega | assumption) (by first | omega | assumption) (by first | omega | assumption)) ov_X8_chance ml_L_76 dL_law_633 rfl ⟨by decide, by decide⟩ ob_0.1 (by decide) (by decide) rfl (Nat.le_of_ble_eq_true rfl) ⟨by decide, by decide⟩ (fun r633 m633 p633 => ?_)
    obtain ⟨p633, f633_0, f633_1⟩ := p633
    replace h : Inv m633 := by
      refine ⟨⟨?_, ?_, ?_, ?_, ?_, ?_, ?_, ?_, ?_, ?_, ?_, ?_, ?_, ?_⟩, h.2.of (fun c hc => by apply f633_0 <;> omega)⟩ <;> (try simp only [f633_0, f633_1, and_true, true_and, or_true, true_or, implies_true, upn, reduceIte, Nat.reduceEqDiff, ne_eq, not_false_eq_true, upc]) <;> first | omega | assumption
    replace hr : REL m633 := hr.of (by simp only [f633_0, f633_1, and_true, true_and, or_true, true_or, implies_true, upn, reduceIte, Nat.reduceEqDiff, ne_eq, not_false_eq_true, upc]) (by simp only [f633_0, f633_1, and_true, true_and, or_true, true_or, implies_true, upn, reduceIte, Nat.reduceEqDiff, ne_eq, not_false_eq_true, upc]) (by simp only [f633_0, f633_1, and_true, true_and, or_true, true_or, implies_true, upn, reduceIte, Nat.reduceEqDiff, ne_eq, not_false_eq_true, upc]) (by simp only [f633_0, f633_1, and_true, true_and, or_true, true_or, implies_true, upn, reduceIte, Nat.reduceEqDiff, ne_eq, not_false_eq_true, upc]) (by simp only [f633_0, f633_1, and_true, true_and, or_true, true_or, implies_true, upn, reduceIte, Nat.reduceEqDiff, ne_eq, not_false_eq_true, upc]) (by simp only [f633_0, f633_1, and_true, true_and, or_true, true_or, implies_true, upn, reduceIte, Nat.reduceEqDiff, ne_eq, not_false_eq_true, upc]) (by simp only [f633_0, f633_1, and_true, true_and, or_true, true_or, implies_true, upn, reduceIte, Nat.reduceEqDiff, ne_eq, not_false_eq_true, upc]) (by simp only [f633_0, f633_1, and_true, true_and, or_true, true_or, implies_true, upn, reduceIte, Nat.reduceEqDiff, ne_eq, not_false_eq_true, upc])
    obtain ⟨⟨a1, a2, a3, a4, a5, a6, a7, a8, a9, a10, a11, a12, a13, a14⟩, ⟨b1, b2, b3, b4, b5, b6, b7, b8, b9, b10⟩⟩ := id h
    refine Z_pop2 hk rfl dL_law_636 ?_
    refine Z_aload2 hk dL_law_637 ?_
    refine Z_aload0 hk dL_law_638 ?_
    refine Z_iload3 hk dL_law_639 ?_
    refine Z_iconst hk dL_law_640 ?_
    refine Z_iadd hk dL_law_641 ?_
    refine Z_sld hk hX hbl hbA hLn (by omega) (by omega) dL_law_642 (fun v642 e642 u642 w642 => ?_)
    refine Z_aload0 hk dL_law_643 ?_
    refine Z_iload3 hk dL_law_644 ?_
    refine Z_iconst hk dL_law_645 ?_
    refine Z_iadd hk dL_law_646 ?_
    refine Z_sld hk hX hbl hbA hLn (by omega) (by omega) dL_law_647 (fun v647 e647 u647 w647 => ?_)
    refine Z_if_eq hk (tgt := 655) dL_law_648 (by decide) (by omega) (by omega) (fun h648 => ?_) (fun h648 => ?_)
    · refine Z_iconst hk dL_law_655 ?_
      refine Z_LVj hk (c_X9_chance κ.2.1 δ ad _ hA v642 0 (by first | omega | assumption) (by first | omega | assumption) (by first | omega | assumption) (by first | omega | assumption) (by first | omega | assumption) (by first | omega | assumption) (by first | omega | assumption)) ov_X9_chance ml_L_80 dL_law_656 rfl ⟨by decide, by decide⟩ ob_48.1 (by decide) (by decide) rfl (Nat.le_of_ble_eq_true rfl) ⟨by decide, by decide⟩ (fun r656 m656 p656 => ?_)
      obtain ⟨p656, f656_0, f656_1⟩ := p656
      replace h : Inv m656 := by
        refine ⟨h.1.of (fun c hc => by apply f656_0 <;> omega), ⟨?_, ?_, ?_, ?_, ?_, ?_, ?_, ?_, ?_, ?_⟩⟩ <;> (first | (exact NK.same b4 (by simp only [f656_0, f656_1, and_true, true_and, or_true, true_or, implies_true, upn, reduceIte, Nat.reduceEqDiff, ne_eq, not_false_eq_true, upc]) (by simp only [f656_0, f656_1, and_true, true_and, or_true, true_or, implies_true, upn, reduceIte, Nat.reduceEqDiff, ne_eq, not_false_eq_true, upc]) (by simp only [f656_0, f656_1, and_true, true_and, or_true, true_or, implies_true, upn, reduceIte, Nat.reduceEqDiff, ne_eq, not_false_eq_true, upc])) | (fail) | ((try simp only [f656_0, f656_1, and_true, true_and, or_true, true_or, implies_true, upn, reduceIte, Nat.reduceEqDiff, ne_eq, not_false_eq_true, upc]) <;> first | omega | assumption))
      replace hr : REL m656 := hr.of (by simp only [f656_0, f656_1, and_true, true_and, or_true, true_or, implies_true, upn, reduceIte, Nat.reduceEqDiff, ne_eq, not_false_eq_true, upc]) (by simp only [f656_0, f656_1, and_true, true_and, or_true, true_or, implies_true, upn, reduceIte, Nat.reduceEqDiff, ne_eq, not_false_eq_true, upc]) (by simp only [f656_0, f656_1, and_true, true_and, or_true, true_or, implies_true, upn, reduceIte, Nat.reduceEqDiff, ne_eq, not_false_eq_true, upc]) (by simp only [f656_0, f656_1, and_true, true_and, or_true, true_or, implies_true, upn, reduceIte, Nat.reduceEqDiff, ne_eq, not_false_eq_true, upc]) (by simp only [f656_0, f656_1, and_true, true_and, or_true, true_or, implies_true, upn, reduceIte, Nat.reduceEqDiff, ne_eq, not_false_eq_true, upc]) (by simp only [f656_0, f656_1, and_true, true_and, or_true, true_or, implies_true, upn, reduceIte, Nat.reduceEqDiff, ne_eq, not_false_eq_true, upc]) (by simp only [f656_0, f656_1, and_true, true_and, or_true, true_or, implies_true, upn, reduceIte, Nat.reduceEqDiff, ne_eq, not_false_eq_true, upc]) (by simp only [f656_0, f656_1, and_true, true_and, or_true, true_or, implies_true, upn, reduceIte, Nat.reduceEqDiff, ne_eq, not_false_eq_true, upc])
      obtain ⟨⟨a1, a2, a3, a4, a5, a6, a7, a8, a9, a10, a11, a12, a13, a14⟩, ⟨b1, b2, b3, b4, b5, b6, b7, b8, b9, b10⟩⟩ := id h
      refine Z_pop2 hk rfl dL_law_659 ?_
      refine Z_goto hk (tgt := 1084) dL_law_660 (by decide) ?_
      exact J ad m656 hA h hr
    · exfalso; omega
  · refine Z_iconst hk dL_law_628 ?_
    refine Z_goto hk (tgt := 633) dL_law_629 (by decide) ?_
    refine Z_LVj hk (c_X8_chance κ.2.1 δ ad _ hA v619 1 hz (by first | omega | assumption) (by first | omega | assumption) (by first | omega | assumption) (by first | omega | assumption) (by first | omega | assumption) (by first | omega | assumption) (by first | omega | assumption)) ov_X8_chance ml_L_76 dL_law_633 rfl ⟨by decide, by decide⟩ ob_0.1 (by decide) (by decide) rfl (Nat.le_of_ble_eq_true rfl) ⟨by decide, by decide⟩ (fun r633 m633 p633 => ?_)
    obtain ⟨p633, f633_0, f633_1⟩ := p633
    replace h : Inv m633 := by
      refine ⟨⟨?_, ?_, ?_, ?_, ?_, ?_, ?_, ?_, ?_, ?_, ?_, ?_, ?_, ?_⟩, h.2.of (fun c hc => by apply f633_0 <;> omega)⟩ <;> (try simp only [f633_0, f633_1, and_true, true_and, or_true, true_or, implies_true, upn, reduceIte, Nat.reduceEqDiff, ne_eq, not_false_eq_true, upc]) <;> first | omega | assumption
    replace hr : REL m633 := hr.of (by simp only [f633_0, f633_1, and_true, true_and, or_true, true_or, implies_true, upn, reduceIte, Nat.reduceEqDiff, ne_eq, not_false_eq_true, upc]) (by simp only [f633_0, f633_1, and_true, true_and, or_true, true_or, implies_true, upn, reduceIte, Nat.reduceEqDiff, ne_eq, not_false_eq_true, upc]) (by simp only [f633_0, f633_1, and_true, true_and, or_true, true_or, implies_true, upn, reduceIte, Nat.reduceEqDiff, ne_eq, not_false_eq_true, upc]) (by simp only [f633_0, f633_1, and_true, true_and, or_true, true_or, implies_true, upn, reduceIte, Nat.reduceEqDiff, ne_eq, not_false_eq_true, upc]) (by simp only [f633_0, f633_1, and_true, true_and, or_true, true_or, implies_true, upn, reduceIte, Nat.reduceEqDiff, ne_eq, not_false_eq_true, upc]) (by simp only [f633_0, f633_1, and_true, true_and, or_true, true_or, implies_true, upn, reduceIte, Nat.reduceEqDiff, ne_eq, not_false_eq_true, upc]) (by simp only [f633_0, f633_1, and_true, true_and, or_true, true_or, implies_true, upn, reduceIte, Nat.reduceEqDiff, ne_eq, not_false_eq_true, upc]) (by simp only [f633_0, f633_1, and_true, true_and, or_true, true_or, implies_true, upn, reduceIte, Nat.reduceEqDiff, ne_eq, not_false_eq_true, upc])
    obtain ⟨⟨a1, a2, a3, a4, a5, a6, a7, a8, a9, a10, a11, a12, a13, a14⟩, ⟨b1, b2, b3, b4, b5, b6, b7, b8, b9, b10⟩⟩ := id h
    refine Z_pop2 hk rfl dL_law_636 ?_
    refine Z_aload2 hk dL_law_637 ?_
    refine Z_aload0 hk dL_law_638 ?_
    refine Z_iload3 hk dL_law_639 ?_
    refine Z_iconst hk dL_law_640 ?_
    refine Z_iadd hk dL_law_641 ?_
    refine Z_sld hk hX hbl hbA hLn (by omega) (by omega) dL_law_642 (fun v642 e642 u642 w642 => ?_)
    refine Z_aload0 hk dL_law_643 ?_
    refine Z_iload3 hk dL_law_644 ?_
    refine Z_iconst hk dL_law_645 ?_
    refine Z_iadd hk dL_law_646 ?_
    refine Z_sld hk hX hbl hbA hLn (by omega) (by omega) dL_law_647 (fun v647 e647 u647 w647 => ?_)
    refine Z_if_eq hk (tgt := 655) dL_law_648 (by decide) (by omega) (by omega) (fun h648 => ?_) (fun h648 => ?_)
    · exfalso; omega
    · refine Z_iconst hk dL_law_651 ?_
      refine Z_goto hk (tgt := 656) dL_law_652 (by decide) ?_
      refine Z_LVj hk (c_X9_chance κ.2.1 δ ad _ hA v642 1 (by first | omega | assumption) (by first | omega | assumption) (by first | omega | assumption) (by first | omega | assumption) (by first | omega | assumption) (by first | omega | assumption) (by first | omega | assumption)) ov_X9_chance ml_L_80 dL_law_656 rfl ⟨by decide, by decide⟩ ob_48.1 (by decide) (by decide) rfl (Nat.le_of_ble_eq_true rfl) ⟨by decide, by decide⟩ (fun r656 m656 p656 => ?_)
      obtain ⟨p656, f656_0, f656_1⟩ := p656
      replace h : Inv m656 := by
        refine ⟨h.1.of (fun c hc => by apply f656_0 <;> omega), ⟨?_, ?_, ?_, ?_, ?_, ?_, ?_, ?_, ?_, ?_⟩⟩ <;> (first | (exact NK.same b4 (by simp only [f656_0, f656_1, and_true, true_and, or_true, true_or, implies_true, upn, reduceIte, Nat.reduceEqDiff, ne_eq, not_false_eq_true, upc]) (by simp only [f656_0, f656_1, and_true, true_and, or_true, true_or, implies_true, upn, reduceIte, Nat.reduceEqDiff, ne_eq, not_false_eq_true, upc]) (by simp only [f656_0, f656_1, and_true, true_and, or_true, true_or, implies_true, upn, reduceIte, Nat.reduceEqDiff, ne_eq, not_false_eq_true, upc])) | (fail) | ((try simp only [f656_0, f656_1, and_true, true_and, or_true, true_or, implies_true, upn, reduceIte, Nat.reduceEqDiff, ne_eq, not_false_eq_true, upc]) <;> first | omega | assumption))
      replace hr : REL m656 := hr.of (by simp only [f656_0, f656_1, and_true, true_and, or_true, true_or, implies_true, upn, reduceIte, Nat.reduceEqDiff, ne_eq, not_false_eq_true, upc]) (by simp only [f656_0, f656_1, and_true, true_and, or_true, true_or, implies_true, upn, reduceIte, Nat.reduceEqDiff, ne_eq, not_false_eq_true, upc]) (by simp only [f656_0, f656_1, and_true, true_and, or_true, true_or, implies_true, upn, reduceIte, Nat.reduceEqDiff, ne_eq, not_false_eq_true, upc]) (by simp only [f656_0, f656_1, and_true, true_and, or_true, true_or, implies_true, upn, reduceIte, Nat.reduceEqDiff, ne_eq, not_false_eq_true, upc]) (by simp only [f656_0, f656_1, and_true, true_and, or_true, true_or, implies_true, upn, reduceIte, Nat.reduceEqDiff, ne_eq, not_false_eq_true, upc]) (by simp only [f656_0, f656_1, and_true, true_and, or_true, true_or, implies_true, upn, reduceIte, Nat.reduceEqDiff, ne_eq, not_false_eq_true, upc]) (by simp only [f656_0, f656_1, and_true, true_and, or_true, true_or, implies_true, upn, reduceIte, Nat.reduceEqDiff, ne_eq, not_false_eq_true, upc]) (by simp only [f656_0, f656_1, and_true, true_and, or_true, true_or, implies_true, upn, reduceIte, Nat.reduceEqDiff, ne_eq, not_false_eq_true, upc])
      obtain ⟨⟨a1, a2, a3, a4, a5, a6, a7, a8, a9, a10, a11, a12, a13, a14⟩, ⟨b1, b2, b3, b4, b5, b6, b7, b8, b9, b10⟩⟩ := id h
      refine Z_pop2 hk rfl dL_law_659 ?_
      refine Z_goto hk (tgt := 1084) dL_law_660 (by decide) ?_
      exact J ad m656 hA h hr
set_option maxRecDepth 10000 in
set_option maxHeartbeats 4000000 in
theorem law_663 {κ : Kp} {δ : Dp} {Q : State → Prop} (hk : okK κ δ cL_law R_law 4 ret room_1) (hz : NS δ) {ad : Nat → Nat} {M : Mem} (hA : okA δ ad) (h : Inv M) (hr : REL M) {b Ln : Nat} {xs : Nat → Int32} (hX : va_X b Ln xs κ.2.2.2.2.1 κ.2.2.2.2.1.heap) (hbl : b < κ.2.2.2.2.1.heap.size) (hbA : b < δ.2.2.1) (hLn : Ln ≤ 3072) {i : Int} (hi : 0 ≤ i ∧ i + 6 ≤ Ln) (J : ∀ (ad : Nat → Nat) (M : Mem), okA δ ad → Inv M → REL M → Zj κ δ ad rs Q 4 (121, 121, 16318) 1084 [some (.ref b), some (.ref (ad 0)), some (.ref (ad 48)), some (iv i)] [] M) : Zj κ δ ad rs Q 4 (121, 121, 16318) 663 [some (.ref b), some (.ref (ad 0)), some (.ref (ad 48)), some (iv i)] [] M := by
  obtain ⟨⟨a1, a2, a3, a4, a5, a6, a7, a8, a9, a10, a11, a12, a13, a14⟩, ⟨b1, b2, b3, b4, b5, b6, b7, b8, b9, b10⟩⟩ := id h
  refine Z_aload1 hk dL_law_663 ?_
  refine Z_aload0 hk dL_law_664 ?_
  refine Z_iload3 hk dL_law_665 ?_
  refine Z_iconst hk dL_law_666 ?_
  refine Z_iadd hk dL_law_667 ?_
  refine Z_sld hk hX hbl hbA hLn (by omega) (by omega) dL_law_668 (fun v668 e668 u668 w668 => ?_)
  refine Z_if_eq hk (tgt := 676) dL_law_669 (by decide) (by omega) (by omega) (fun h669 => ?_) (fun h669 => ?_)
  · refine Z_iconst hk dL_law_676 ?_
    refine Z_aload0 hk dL_law_677 ?_
    refine Z_iload3 hk dL_law_678 ?_
    refine Z_iconst hk dL_law_679 ?_
    refine Z_iadd hk dL_law_680 ?_
    refine Z_sld hk hX hbl hbA hLn (by omega) (by omega) dL_law_681 (fun v681 e681 u681 w681 => ?_)
    refine Z_aload0 hk dL_law_682 ?_
    refine Z_iload3 hk dL_law_683 ?_
    refine Z_iconst hk dL_law_684 ?_
    refine Z_iadd hk dL_law_685 ?_
    refine Z_sld hk hX hbl hbA hLn (by omega) (by omega) dL_law_686 (fun v686 e686 u686 w686 => ?_)
    refine Z_LVj hk (c_X8_guess κ.2.1 δ ad _ hA 0 v681 v686 (by first | omega | assumption) (by first | omega | assumption) (by first | omega | assumption)) ov_X8_guess ml_L_81 dL_law_687 rfl ⟨by decide, by decide⟩ ob_0.1 (by decide) (by decide) rfl (Nat.le_of_ble_eq_true rfl) ⟨by decide, by decide⟩ (fun r687 m687 p687 => ?_)
    obtain ⟨rfl, p687⟩ := p687
    refine Z_pop2 hk rfl dL_law_690 ?_
    refine Z_aload2 hk dL_law_691 ?_
    refine Z_aload0 hk dL_law_692 ?_
    refine Z_iload3 hk dL_law_693 ?_
    refine Z_iconst hk dL_law_694 ?_
    refine Z_iadd hk dL_law_695 ?_
    refine Z_sld hk hX hbl hbA hLn (by omega) (by omega) dL_law_696 (fun v696 e696 u696 w696 => ?_)
    refine Z_if_eq hk (tgt := 704) dL_law_697 (by decide) (by omega) (by omega) (fun h697 => ?_) (fun h697 => ?_)
    · refine Z_iconst hk dL_law_704 ?_
      refine Z_aload0 hk dL_law_705 ?_
      refine Z_iload3 hk dL_law_706 ?_
      refine Z_iconst hk dL_law_707 ?_
      refine Z_iadd hk dL_law_708 ?_
      refine Z_sld hk hX hbl hbA hLn (by omega) (by omega) dL_law_709 (fun v709 e709 u709 w709 => ?_)
      refine Z_aload0 hk dL_law_710 ?_
      refine Z_iload3 hk dL_law_711 ?_
      refine Z_iconst hk dL_law_712 ?_
      refine Z_iadd hk dL_law_713 ?_
      refine Z_sld hk hX hbl hbA hLn (by omega) (by omega) dL_law_714 (fun v714 e714 u714 w714 => ?_)
      refine Z_LVj hk (c_X9_guess κ.2.1 δ ad _ hA 0 v709 v714 (by first | omega | assumption) (by first | omega | assumption) (by first | omega | assumption)) ov_X9_guess ml_L_85 dL_law_715 rfl ⟨by decide, by decide⟩ ob_48.1 (by decide) (by decide) rfl (Nat.le_of_ble_eq_true rfl) ⟨by decide, by decide⟩ (fun r715 m715 p715 => ?_)
      obtain ⟨rfl, p715⟩ := p715
      refine Z_pop2 hk rfl dL_law_718 ?_
      refine Z_goto hk (tgt := 1084) dL_law_719 (by decide) ?_
      exact J ad M hA h hr
    · exfalso; omega
  · refine Z_iconst hk dL_law_672 ?_
    refine Z_goto hk (tgt := 677) dL_law_673 (by decide) ?_
    refine Z_aload0 hk dL_law_677 ?_
    refine Z_iload3 hk dL_law_678 ?_
    refine Z_iconst hk dL_law_679 ?_
    refine Z_iadd hk dL_law_680 ?_
    refine Z_sld hk hX hbl hbA hLn (by omega) (by omega) dL_law_681 (fun v681 e681 u681 w681 => ?_)
    refine Z_aload0 hk dL_law_682 ?_
    refine Z_iload3 hk dL_law_683 ?_
    refine Z_iconst hk dL_law_684 ?_
    refine Z_iadd hk dL_law_685 ?_
    refine Z_sld hk hX hbl hbA hLn (by omega) (by omega) dL_law_686 (fun v686 e686 u686 w686 => ?_)
    refine Z_LVj hk (c_X8_guess κ.2.1 δ ad _ hA 1 v681 v686 (by first | omega | assumption) (by first | omega | assumption) (by first | omega | assumption)) ov_X8_guess ml_L_81 dL_law_687 rfl ⟨by decide, by decide⟩ ob_0.1 (by decide) (by decide) rfl (Nat.le_of_ble_eq_true rfl) ⟨by decide, by decide⟩ (fun r687 m687 p687 => ?_)
    obtain ⟨rfl, p687⟩ := p687
    refine Z_pop2 hk rfl dL_law_690 ?_
    refine Z_aload2 hk dL_law_691 ?_
    refine Z_aload0 hk dL_law_692 ?_
    refine Z_iload3 hk dL_law_693 ?_
    refine Z_iconst hk dL_law_694 ?_
    refine Z_iadd hk dL_law_695 ?_
    refine Z_sld hk hX hbl hbA hLn (by omega) (by omega) dL_law_696 (fun v696 e696 u696 w696 => ?_)
    refine Z_if_eq hk (tgt := 704) dL_law_697 (by decide) (by omega) (by omega) (fun h697 => ?_) (fun h697 => ?_)
    · exfalso; omega
    · refine Z_iconst hk dL_law_700 ?_
      refine Z_goto hk (tgt := 705) dL_law_701 (by decide) ?_
      refine Z_aload0 hk dL_law_705 ?_
      refine Z_iload3 hk dL_law_706 ?_
      refine Z_iconst hk dL_law_707 ?_
      refine Z_iadd hk dL_law_708 ?_
      refine Z_sld hk hX hbl hbA hLn (by omega) (by omega) dL_law_709 (fun v709 e709 u709 w709 => ?_)
      refine Z_aload0 hk dL_law_710 ?_
      refine Z_iload3 hk dL_law_711 ?_
      refine Z_iconst hk dL_law_712 ?_
      refine Z_iadd hk dL_law_713 ?_
      refine Z_sld hk hX hbl hbA hLn (by omega) (by omega) dL_law_714 (fun v714 e714 u714 w714 => ?_)
      refine Z_LVj hk (c_X9_guess κ.2.1 δ ad _ hA 1 v709 v714 (by first | omega | assumption) (by first | omega | assumption) (by first | omega | assumption)) ov_X9_guess ml_L_85 dL_law_715 rfl ⟨by decide, by decide⟩ ob_48.1 (by decide) (by decide) rfl (Nat.le_of_ble_eq_true rfl) ⟨by decide, by decide⟩ (fun r715 m715 p715 => ?_)
      obtain ⟨rfl, p715⟩ := p715
      refine Z_pop2 hk rfl dL_law_718 ?_
      refine Z_goto hk (tgt := 1084) dL_law_719 (by decide) ?_
      exact J ad M hA h hr
set_option maxRecDepth 10000 in
set_option maxHeartbeats 4000000 in
theorem law_722 {κ : Kp} {δ : Dp} {Q : State → Prop} (hk : okK κ δ cL_law R_law 4 ret room_1) (hz : NS δ) {ad : Nat → Nat} {M : Mem} (hA : okA δ ad) (h : Inv M) (hr : REL M) {b Ln : Nat} {xs : Nat → Int32} (hX : va_X b Ln xs κ.2.2.2.2.1 κ.2.2.2.2.1.heap) (hbl : b < κ.2.2.2.2.1.heap.size) (hbA : b < δ.2.2.1) (hLn : Ln ≤ 3072) {i : Int} (hi : 0 ≤ i ∧ i + 6 ≤ Ln) (J : ∀ (ad : Nat → Nat) (M : Mem), okA δ ad → Inv M → REL M → Zj κ δ ad rs Q 4 (121, 121, 16318) 1084 [some (.ref b), some (.ref (ad 0)), some (.ref (ad 48)), some (iv i)] [] M) : Zj κ δ ad rs Q 4 (121, 121, 16318) 722 [some (.ref b), some (.ref (ad 0)), some (.ref (ad 48)), some (iv i)] [] M := by
  obtain ⟨⟨a1, a2, a3, a4, a5, a6, a7, a8, a9, a10, a11, a12, a13, a14⟩, ⟨b1, b2, b3, b4, b5, b6, b7, b8, b9, b10⟩⟩ := id h
  refine Z_aload1 hk dL_law_722 ?_
  refine Z_aload0 hk dL_law_723 ?_
  refine Z_iload3 hk dL_law_724 ?_
  refine Z_iconst hk dL_law_725 ?_
  refine Z_iadd hk dL_law_726 ?_
  refine Z_sld hk hX hbl hbA hLn (by omega) (by omega) dL_law_727 (fun v727 e727 u727 w727 => ?_)
  refine Z_if_eq hk (tgt := 735) dL_law_728 (by decide) (by omega) (by omega) (fun h728 => ?_) (fun h728 => ?_)
  · refine Z_iconst hk dL_law_735 ?_
    refine Z_aload0 hk dL_law_736 ?_
    refine Z_iload3 hk dL_law_737 ?_
    refine Z_iconst hk dL_law_738 ?_
    refine Z_iadd hk dL_law_739 ?_
    refine Z_sld hk hX hbl hbA hLn (by omega) (by omega) dL_law_740 (fun v740 e740 u740 w740 => ?_)
    refine Z_aload0 hk dL_law_741 ?_
    refine Z_iload3 hk dL_law_742 ?_
    refine Z_iconst hk dL_law_743 ?_
    refine Z_iadd hk dL_law_744 ?_
    refine Z_sld hk hX hbl hbA hLn (by omega) (by omega) dL_law_745 (fun v745 e745 u745 w745 => ?_)
    refine Z_aload0 hk dL_law_746 ?_
    refine Z_iload3 hk dL_law_747 ?_
    refine Z_iconst hk dL_law_748 ?_
    refine Z_iadd hk dL_law_749 ?_
    refine Z_sld hk hX hbl hbA hLn (by omega) (by omega) dL_law_750 (fun v750 e750 u750 w750 => ?_)
    refine Z_LVj hk (c_X8_table κ.2.1 δ ad _ hA 0 v740 v745 v750 (by first | omega | assumption) (by first | omega | assumption) (by first | omega | assumption) (by first | omega | assumption)) ov_X8_table ml_L_86 dL_law_751 rfl ⟨by decide, by decide⟩ ob_0.1 (by decide) (by decide) rfl (Nat.le_of_ble_eq_true rfl) ⟨by decide, by decide⟩ (fun r751 m751 p751 => ?_)
    obtain ⟨p751, f751_0⟩ := p751
    replace h : Inv m751 := by
      refine ⟨⟨?_, ?_, ?_, ?_, ?_, ?_, ?_, ?_, ?_, ?_, ?_, ?_, ?_, ?_⟩, h.2.of (fun c hc => by apply f751_0 <;> omega)⟩ <;> (try simp only [f751_0, and_true, true_and, or_true, true_or, implies_true, upn, reduceIte, Nat.reduceEqDiff, ne_eq, not_false_eq_true, upc]) <;> first | omega | assumption
    replace hr : REL m751 := hr.of (by simp only [f751_0, and_true, true_and, or_true, true_or, implies_true, upn, reduceIte, Nat.reduceEqDiff, ne_eq, not_false_eq_true, upc]) (by simp only [f751_0, and_true, true_and, or_true, true_or, implies_true, upn, reduceIte, Nat.reduceEqDiff, ne_eq, not_false_eq_true, upc]) (by simp only [f751_0, and_true, true_and, or_true, true_or, implies_true, upn, reduceIte, Nat.reduceEqDiff, ne_eq, not_false_eq_true, upc]) (by simp only [f751_0, and_true, true_and, or_true, true_or, implies_true, upn, reduceIte, Nat.reduceEqDiff, ne_eq, not_false_eq_true, upc]) (by simp only [f751_0, and_true, true_and, or_true, true_or, implies_true, upn, reduceIte, Nat.reduceEqDiff, ne_eq, not_false_eq_true, upc]) (by simp only [f751_0, and_true, true_and, or_true, true_or, implies_true, upn, reduceIte, Nat.reduceEqDiff, ne_eq, not_false_eq_true, upc]) (by simp only [f751_0, and_true, true_and, or_true, true_or, implies_true, upn, reduceIte, Nat.reduceEqDiff, ne_eq, not_false_eq_true, upc]) (by simp only [f751_0, and_true, true_and, or_true, true_or, implies_true, upn, reduceIte, Nat.reduceEqDiff, ne_eq, not_false_eq_true, upc])
    obtain ⟨⟨a1, a2, a3, a4, a5, a6, a7, a8, a9, a10, a11, a12, a13, a14⟩, ⟨b1, b2, b3, b4, b5, b6, b7, b8, b9, b10⟩⟩ := id h
    refine Z_pop2 hk rfl dL_law_754 ?_
    refine Z_aload2 hk dL_law_755 ?_
    refine Z_aload0 hk dL_law_756 ?_
    refine Z_iload3 hk dL_law_757 ?_
    refine Z_iconst hk dL_law_758 ?_
    refine Z_iadd hk dL_law_759 ?_
    refine Z_sld hk hX hbl hbA hLn (by omega) (by omega) dL_law_760 (fun v760 e760 u760 w760 => ?_)
    refine Z_if_eq hk (tgt := 768) dL_law_761 (by decide) (by omega) (by omega) (fun h761 => ?_) (fun h761 => ?_)
    · refine Z_iconst hk dL_law_768 ?_
      refine Z_aload0 hk dL_law_769 ?_
      refine Z_iload3 hk dL_law_770 ?_
      refine Z_iconst hk dL_law_771 ?_
      refine Z_iadd hk dL_law_772 ?_
      refine Z_sld hk hX hbl hbA hLn (by omega) (by omega) dL_law_773 (fun v773 e773 u773 w773 => ?_)
      refine Z_aload0 hk dL_law_774 ?_
      refine Z_iload3 hk dL_law_775 ?_
      refine Z_iconst hk dL_law_776 ?_
      refine Z_iadd hk dL_law_777 ?_
      refine Z_sld hk hX hbl hbA hLn (by omega) (by omega) dL_law_778 (fun v778 e778 u778 w778 => ?_)
      refine Z_aload0 hk dL_law_779 ?_
      refine Z_iload3 hk dL_law_780 ?_
      refine Z_iconst hk dL_law_781 ?_
      refine Z_iadd hk dL_law_782 ?_
      refine Z_sld hk hX hbl hbA hLn (by omega) (by omega) dL_law_783 (fun v783 e783 u783 w783 => ?_)
      refine Z_LVj hk (c_X9_table κ.2.1 δ ad _ hA 0 v773 v778 v783 (by first | omega | assumption) (by first | omega | assumption) (by first | omega | assumption) (by first | omega | assumption)) ov_X9_table ml_L_90 dL_law_784 rfl ⟨by decide, by decide⟩ ob_48.1 (by decide) (by decide) rfl (Nat.le_of_ble_eq_true rfl) ⟨by decide, by decide⟩ (fun r784 m784 p784 => ?_)
      obtain ⟨p784, f784_0⟩ := p784
      replace h : Inv m784 := by
        refine ⟨h.1.of (fun c hc => by apply f784_0 <;> omega), ⟨?_, ?_, ?_, ?_, ?_, ?_, ?_, ?_, ?_, ?_⟩⟩ <;> (first | (exact NK.same b4 (by simp only [f784_0, and_true, true_and, or_true, true_or, implies_true, upn, reduceIte, Nat.reduceEqDiff, ne_eq, not_false_eq_true, upc]) (by simp only [f784_0, and_true, true_and, or_true, true_or, implies_true, upn, reduceIte, Nat.reduceEqDiff, ne_eq, not_false_eq_true, upc]) (by simp only [f784_0, and_true, true_and, or_true, true_or, implies_true, upn, reduceIte, Nat.reduceEqDiff, ne_eq, not_false_eq_true, upc])) | (fail) | ((try simp only [f784_0, and_true, true_and, or_true, true_or, implies_true, upn, reduceIte, Nat.reduceEqDiff, ne_eq, not_false_eq_true, upc]) <;> first | omega | assumption))
      replace hr : REL m784 := hr.of (by simp only [f784_0, and_true, true_and, or_true, true_or, implies_true, upn, reduceIte, Nat.reduceEqDiff, ne_eq, not_false_eq_true, upc]) (by simp only [f784_0, and_true, true_and, or_true, true_or, implies_true, upn, reduceIte, Nat.reduceEqDiff, ne_eq, not_false_eq_true, upc]) (by simp only [f784_0, and_true, true_and, or_true, true_or, implies_true, upn, reduceIte, Nat.reduceEqDiff, ne_eq, not_false_eq_true, upc]) (by simp only [f784_0, and_true, true_and, or_true, true_or, implies_true, upn, reduceIte, Nat.reduceEqDiff, ne_eq, not_false_eq_true, upc]) (by simp only [f784_0, and_true, true_and, or_true, true_or, implies_true, upn, reduceIte, Nat.reduceEqDiff, ne_eq, not_false_eq_true, upc]) (by simp only [f784_0, and_true, true_and, or_true, true_or, implies_true, upn, reduceIte, Nat.reduceEqDiff, ne_eq, not_false_eq_true, upc]) (by simp only [f784_0, and_true, true_and, or_true, true_or, implies_true, upn, reduceIte, Nat.reduceEqDiff, ne_eq, not_false_eq_true, upc]) (by simp only [f784_0, and_true, true_and, or_true, true_or, implies_true, upn, reduceIte, Nat.reduceEqDiff, ne_eq, not_false_eq_true, upc])
      obtain ⟨⟨a1, a2, a3, a4, a5, a6, a7, a8, a9, a10, a11, a12, a13, a14⟩, ⟨b1, b2, b3, b4, b5, b6, b7, b8, b9, b10⟩⟩ := id h
      refine Z_pop2 hk rfl dL_law_787 ?_
      refine Z_goto hk (tgt := 1084) dL_law_788 (by decide) ?_
      exact J ad m784 hA h hr
    · exfalso; omega
  · refine Z_iconst hk dL_law_731 ?_
    refine Z_goto hk (tgt := 736) dL_law_732 (by decide) ?_
    refine Z_aload0 hk dL_law_736 ?_
    refine Z_iload3 hk dL_law_737 ?_
    refine Z_iconst hk dL_law_738 ?_
    refine Z_iadd hk dL_law_739 ?_
    refine Z_sld hk hX hbl hbA hLn (by omega) (by omega) dL_law_740 (fun v740 e740 u740 w740 => ?_)
    refine Z_aload0 hk dL_law_741 ?_
    refine Z_iload3 hk dL_law_742 ?_
    refine Z_iconst hk dL_law_743 ?_
    refine Z_iadd hk dL_law_744 ?_
    refine Z_sld hk hX hbl hbA hLn (by omega) (by omega) dL_law_745 (fun v745 e745 u745 w745 => ?_)
    refine Z_aload0 hk dL_law_746 ?_
    refine Z_iload3 hk dL_law_747 ?_
    refine Z_iconst hk dL_law_748 ?_
    refine Z_iadd hk dL_law_749 ?_
    refine Z_sld hk hX hbl hbA hLn (by omega) (by omega) dL_law_750 (fun v750 e750 u750 w750 => ?_)
    refine Z_LVj hk (c_X8_table κ.2.1 δ ad _ hA 1 v740 v745 v750 (by first | omega | assumption) (by first | omega | assumption) (by first | omega | assumption) (by first | omega | assumption)) ov_X8_table ml_L_86 dL_law_751 rfl ⟨by decide, by decide⟩ ob_0.1 (by decide) (by decide) rfl (Nat.le_of_ble_eq_true rfl) ⟨by decide, by decide⟩ (fun r751 m751 p751 => ?_)
    obtain ⟨p751, f751_0⟩ := p751
    replace h : Inv m751 := by
      refine ⟨⟨?_, ?_, ?_, ?_, ?_, ?_, ?_, ?_, ?_, ?_, ?_, ?_, ?_, ?_⟩, h.2.of (fun c hc => by apply f751_0 <;> omega)⟩ <;> (try simp only [f751_0, and_true, true_and, or_true, true_or, implies_true, upn, reduceIte, Nat.reduceEqDiff, ne_eq, not_false_eq_true, upc]) <;> first | omega | assumption
    replace hr : REL m751 := hr.of (by simp only [f751_0, and_true, true_and, or_true, true_or, implies_true, upn, reduceIte, Nat.reduceEqDiff, ne_eq, not_false_eq_true, upc]) (by simp only [f751_0, and_true, true_and, or_true, true_or, implies_true, upn, reduceIte, Nat.reduceEqDiff, ne_eq, not_false_eq_true, upc]) (by simp only [f751_0, and_true, true_and, or_true, true_or, implies_true, upn, reduceIte, Nat.reduceEqDiff, ne_eq, not_false_eq_true, upc]) (by simp only [f751_0, and_true, true_and, or_true, true_or, implies_true, upn, reduceIte, Nat.reduceEqDiff, ne_eq, not_false_eq_true, upc]) (by simp only [f751_0, and_true, true_and, or_true, true_or, implies_true, upn, reduceIte, Nat.reduceEqDiff, ne_eq, not_false_eq_true, upc]) (by simp only [f751_0, and_true, true_and, or_true, true_or, implies_true, upn, reduceIte, Nat.reduceEqDiff, ne_eq, not_false_eq_true, upc]) (by simp only [f751_0, and_true, true_and, or_true, true_or, implies_true, upn, reduceIte, Nat.reduceEqDiff, ne_eq, not_false_eq_true, upc]) (by simp only [f751_0, and_true, true_and, or_true, true_or, implies_true, upn, reduceIte, Nat.reduceEqDiff, ne_eq, not_false_eq_true, upc])
    obtain ⟨⟨a1, a2, a3, a4, a5, a6, a7, a8, a9, a10, a11, a12, a13, a14⟩, ⟨b1, b2, b3, b4, b5, b6, b7, b8, b9, b10⟩⟩ := id h
    refine Z_pop2 hk rfl dL_law_754 ?_
    refine Z_aload2 hk dL_law_755 ?_
    refine Z_aload0 hk dL_law_756 ?_
    refine Z_iload3 hk dL_law_757 ?_
    refine Z_iconst hk dL_law_758 ?_
    refine Z_iadd hk dL_law_759 ?_
    refine Z_sld hk hX hbl hbA hLn (by omega) (by omega) dL_law_760 (fun v760 e760 u760 w760 => ?_)
    refine Z_if_eq hk (tgt := 768) dL_law_761 (by decide) (by omega) (by omega) (fun h761 => ?_) (fun h761 => ?_)
    · exfalso; omega
    · refine Z_iconst hk dL_law_764 ?_
      refine Z_goto hk (tgt := 769) dL_law_765 (by decide) ?_
      refine Z_aload0 hk dL_law_769 ?_
      refine Z_iload3 hk dL_law_770 ?_
      refine Z_iconst hk dL_law_771 ?_
      refine Z_iadd hk dL_law_772 ?_
      refine Z_sld hk hX hbl hbA hLn (by omega) (by omega) dL_law_773 (fun v773 e773 u773 w773 => ?_)
      refine Z_aload0 hk dL_law_774 ?_
      refine Z_iload3 hk dL_law_775 ?_
      refine Z_iconst hk dL_law_776 ?_
      refine Z_iadd hk dL_law_777 ?_
      refine Z_sld hk hX hbl hbA hLn (by omega) (by omega) dL_law_778 (fun v778 e778 u778 w778 => ?_)
      refine Z_aload0 hk dL_law_779 ?_
      refine Z_iload3 hk dL_law_780 ?_
      refine Z_iconst hk dL_law_781 ?_
      refine Z_iadd hk dL_law_782 ?_
      refine Z_sld hk hX hbl hbA hLn (by omega) (by omega) dL_law_783 (fun v783 e783 u783 w783 => ?_)
      refine Z_LVj hk (c_X9_table κ.2.1 δ ad _ hA 1 v773 v778 v783 (by first | omega | assumption) (by first | omega | assumption) (by first | omega | assumption) (by first | omega | assumption)) ov_X9_table ml_L_90 dL_law_784 rfl ⟨by decide, by decide⟩ ob_48.1 (by decide) (by decide) rfl (Nat.le_of_ble_eq_true rfl) ⟨by decide, by decide⟩ (fun r784 m784 p784 => ?_)
      obtain ⟨p784, f784_0⟩ := p784
      replace h : Inv m784 := by
        refine ⟨h.1.of (fun c hc => by apply f784_0 <;> omega), ⟨?_, ?_, ?_, ?_, ?_, ?_, ?_, ?_, ?_, ?_⟩⟩ <;> (first | (exact NK.same b4 (by simp only [f784_0, and_true, true_and, or_true, true_or, implies_true, upn, reduceIte, Nat.reduceEqDiff, ne_eq, not_false_eq_true, upc]) (by simp only [f784_0, and_true, true_and, or_true, true_or, implies_true, upn, reduceIte, Nat.reduceEqDiff, ne_eq, not_false_eq_true, upc]) (by simp only [f784_0, and_true, true_and, or_true, true_or, implies_true, upn, reduceIte, Nat.reduceEqDiff, ne_eq, not_false_eq_true, upc])) | (fail) | ((try simp only [f784_0, and_true, true_and, or_true, true_or, implies_true, upn, reduceIte, Nat.reduceEqDiff, ne_eq, not_false_eq_true, upc]) <;> first | omega | assumption))
      replace hr : REL m784 := hr.of (by simp only [f784_0, and_true, true_and, or_true, true_or, implies_true, upn, reduceIte, Nat.reduceEqDiff, ne_eq, not_false_eq_true, upc]) (by simp only [f784_0, and_true, true_and, or_true, true_or, implies_true, upn, reduceIte, Nat.reduceEqDiff, ne_eq, not_false_eq_true, upc]) (by simp only [f784_0, and_true, true_and, or_true, true_or, implies_true, upn, reduceIte, Nat.reduceEqDiff, ne_eq, not_false_eq_true, upc]) (by simp only [f784_0, and_true, true_and, or_true, true_or, implies_true, upn, reduceIte, Nat.reduceEqDiff, ne_eq, not_false_eq_true, upc]) (by simp only [f784_0, and_true, true_and, or_true, true_or, implies_true, upn, reduceIte, Nat.reduceEqDiff, ne_eq, not_false_eq_true, upc]) (by simp only [f784_0, and_true, true_and, or_true, true_or, implies_true, upn, reduceIte, Nat.reduceEqDiff, ne_eq, not_false_eq_true, upc]) (by simp only [f784_0, and_true, true_and, or_true, true_or, implies_true, upn, reduceIte, Nat.reduceEqDiff, ne_eq, not_false_eq_true, upc]) (by simp only [f784_0, and_true, true_and, or_true, true_or, implies_true, upn, reduceIte, Nat.reduceEqDiff, ne_eq, not_false_eq_true, upc])
      obtain ⟨⟨a1, a2, a3, a4, a5, a6, a7, a8, a9, a10, a11, a12, a13, a14⟩, ⟨b1, b2, b3, b4, b5, b6, b7, b8, b9, b10⟩⟩ := id h
      refine Z_pop2 hk rfl dL_law_787 ?_
      refine Z_goto hk (tgt := 1084) dL_law_788 (by decide) ?_
      exact J ad m784 hA h hr
set_option maxRecDepth 10000 in
set_option maxHeartbeats 4000000 in
theorem law_791 {κ : Kp} {δ : Dp} {Q : State → Prop} (hk : okK κ δ cL_law R_law 4 ret room_1) (hz : NS δ) {ad : Nat → Nat} {M : Mem} (hA : okA δ ad) (h : Inv M) (hr : REL M) {b Ln : Nat} {xs : Nat → Int32} (hX : va_X b Ln xs κ.2.2.2.2.1 κ.2.2.2.2.1.heap) (hbl : b < κ.2.2.2.2.1.heap.size) (hbA : b < δ.2.2.1) (hLn : Ln ≤ 3072) {i : Int} (hi : 0 ≤ i ∧ i + 6 ≤ Ln) (J : ∀ (ad : Nat → Nat) (M : Mem), okA δ ad → Inv M → REL M → Zj κ δ ad rs Q 4 (121, 121, 16318) 1084 [some (.ref b), some (.ref (ad 0)), some (.ref (ad 48)), some (iv i)] [] M) : Zj κ δ ad rs Q 4 (121, 121, 16318) 791 [some (.ref b), some (.ref (ad 0)), some (.ref (ad 48)), some (iv i)] [] M := by
  obtain ⟨⟨a1, a2, a3, a4, a5, a6, a7, a8, a9, a10, a11, a12, a13, a14⟩, ⟨b1, b2, b3, b4, b5, b6, b7, b8, b9, b10⟩⟩ := id h
  refine Z_aload1 hk dL_law_791 ?_
  refine Z_aload0 hk dL_law_792 ?_
  refine Z_iload3 hk dL_law_793 ?_
  refine Z_iconst hk dL_law_794 ?_
  refine Z_iadd hk dL_law_795 ?_
  refine Z_sld hk hX hbl hbA hLn (by omega) (by omega) dL_law_796 (fun v796 e796 u796 w796 => ?_)
  refine Z_if_eq hk (tgt := 804) dL_law_797 (by decide) (by omega) (by omega) (fun h797 => ?_) (fun h797 => ?_)
  · refine Z_iconst hk dL_law_804 ?_
    refine Z_aload0 hk dL_law_805 ?_
    refine Z_iload3 hk dL_law_806 ?_
    refine Z_iconst hk dL_law_807 ?_
    refine Z_iadd hk dL_law_808 ?_
    refine Z_sld hk hX hbl hbA hLn (by omega) (by omega) dL_law_809 (fun v809 e809 u809 w809 => ?_)
    refine Z_aload0 hk dL_law_810 ?_
    refine Z_iload3 hk dL_law_811 ?_
    refine Z_iconst hk dL_law_812 ?_
    refine Z_iadd hk dL_law_813 ?_
    refine Z_sld hk hX hbl hbA hLn (by omega) (by omega) dL_law_814 (fun v814 e814 u814 w814 => ?_)
    refine Z_aload0 hk dL_law_815 ?_
    refine Z_iload3 hk dL_law_816 ?_
    refine Z_iconst hk dL_law_817 ?_
    refine Z_iadd hk dL_law_818 ?_
    refine Z_sld hk hX hbl hbA hLn (by omega) (by omega) dL_law_819 (fun v819 e819 u819 w819 => ?_)
    refine Z_LVi hk (c_X8_needed κ.2.1 δ ad _ hA 0 v809 v814 v819 (by first | omega | assumption) (by first | omega | assumption) (by first | omega | assumption) (by first | omega | assumption)) ov_X8_needed ml_L_91 dL_law_820 rfl ⟨by decide, by decide⟩ ob_0.1 (by decide) (by decide) rfl (Nat.le_of_ble_eq_true rfl) ⟨by decide, by decide⟩ (fun r820 m820 p820 => ?_)
    obtain ⟨p820, f820_0⟩ := p820
    replace h : Inv m820 := by
      refine ⟨⟨?_, ?_, ?_, ?_, ?_, ?_, ?_, ?_, ?_, ?_, ?_, ?_, ?_, ?_⟩, h.2.of (fun c hc => by apply f820_0 <;> omega)⟩ <;> (try simp only [f820_0, and_true, true_and, or_true, true_or, implies_true, upn, reduceIte, Nat.reduceEqDiff, ne_eq, not_false_eq_true, upc]) <;> first | omega | assumption
    replace hr : REL m820 := hr.of (by simp only [f820_0, and_true, true_and, or_true, true_or, implies_true, upn, reduceIte, Nat.reduceEqDiff, ne_eq, not_false_eq_true, upc]) (by simp only [f820_0, and_true, true_and, or_true, true_or, implies_true, upn, reduceIte, Nat.reduceEqDiff, ne_eq, not_false_eq_true, upc]) (by simp only [f820_0, and_true, true_and, or_true, true_or, implies_true, upn, reduceIte, Nat.reduceEqDiff, ne_eq, not_false_eq_true, upc]) (by simp only [f820_0, and_true, true_and, or_true, true_or, implies_true, upn, reduceIte, Nat.reduceEqDiff, ne_eq, not_false_eq_true, upc]) (by simp only [f820_0, and_true, true_and, or_true, true_or, implies_true, upn, reduceIte, Nat.reduceEqDiff, ne_eq, not_false_eq_true, upc]) (by simp only [f820_0, and_true, true_and, or_true, true_or, implies_true, upn, reduceIte, Nat.reduceEqDiff, ne_eq, not_false_eq_true, upc]) (by simp only [f820_0, and_true, true_and, or_true, true_or, implies_true, upn, reduceIte, Nat.reduceEqDiff, ne_eq, not_false_eq_true, upc]) (by simp only [f820_0, and_true, true_and, or_true, true_or, implies_true, upn, reduceIte, Nat.reduceEqDiff, ne_eq, not_false_eq_true, upc])
    obtain ⟨⟨a1, a2, a3, a4, a5, a6, a7, a8, a9, a10, a11, a12, a13, a14⟩, ⟨b1, b2, b3, b4, b5, b6, b7, b8, b9, b10⟩⟩ := id h
    refine Z_pop1 hk rfl dL_law_823 ?_
    refine Z_aload2 hk dL_law_824 ?_
    refine Z_aload0 hk dL_law_825 ?_
    refine Z_iload3 hk dL_law_826 ?_
    refine Z_iconst hk dL_law_827 ?_
    refine Z_iadd hk dL_law_828 ?_
    refine Z_sld hk hX hbl hbA hLn (by omega) (by omega) dL_law_829 (fun v829 e829 u829 w829 => ?_)
    refine Z_if_eq hk (tgt := 837) dL_law_830 (by decide) (by omega) (by omega) (fun h830 => ?_) (fun h830 => ?_)
    · refine Z_iconst hk dL_law_837 ?_
      refine Z_aload0 hk dL_law_838 ?_
      refine Z_iload3 hk dL_law_839 ?_
      refine Z_iconst hk dL_law_840 ?_
      refine Z_iadd hk dL_law_841 ?_
      refine Z_sld hk hX hbl hbA hLn (by omega) (by omega) dL_law_842 (fun v842 e842 u842 w842 => ?_)
      refine Z_aload0 hk dL_law_843 ?_
      refine Z_iload3 hk dL_law_844 ?_
      refine Z_iconst hk dL_law_845 ?_
      refine Z_iadd hk dL_law_846 ?_
      refine Z_sld hk hX hbl hbA hLn (by omega) (by omega) dL_law_847 (fun v847 e847 u847 w847 => ?_)
      refine Z_aload0 hk dL_law_848 ?_
      refine Z_iload3 hk dL_law_849 ?_
      refine Z_iconst hk dL_law_850 ?_
      refine Z_iadd hk dL_law_851 ?_
      refine Z_sld hk hX hbl hbA hLn (by omega) (by omega) dL_law_852 (fun v852 e852 u852 w852 => ?_)
      refine Z_LVi hk (c_X9_needed κ.2.1 δ ad _ hA 0 v842 v847 v852 (by first | omega | assumption) (by first | omega | assumption) (by first | omega | assumption) (by first | omega | assumption)) ov_X9_needed ml_L_95 dL_law_853 rfl ⟨by decide, by decide⟩ ob_48.1 (by decide) (by decide) rfl (Nat.le_of_ble_eq_true rfl) ⟨by decide, by decide⟩ (fun r853 m853 p853 => ?_)
      obtain ⟨p853, f853_0⟩ := p853
      replace h : Inv m853 := by
        refine ⟨h.1.of (fun c hc => by apply f853_0 <;> omega), ⟨?_, ?_, ?_, ?_, ?_, ?_, ?_, ?_, ?_, ?_⟩⟩ <;> (first | (exact NK.same b4 (by simp only [f853_0, and_true, true_and, or_true, true_or, implies_true, upn, reduceIte, Nat.reduceEqDiff, ne_eq, not_false_eq_true, upc]) (by simp only [f853_0, and_true, true_and, or_true, true_or, implies_true, upn, reduceIte, Nat.reduceEqDiff, ne_eq, not_false_eq_true, upc]) (by simp only [f853_0, and_true, true_and, or_true, true_or, implies_true, upn, reduceIte, Nat.reduceEqDiff, ne_eq, not_false_eq_true, upc])) | (fail) | ((try simp only [f853_0, and_true, true_and, or_true, true_or, implies_true, upn, reduceIte, Nat.reduceEqDiff, ne_eq, not_false_eq_true, upc]) <;> first | omega | assumption))
      replace hr : REL m853 := hr.of (by simp only [f853_0, and_true, true_and, or_true, true_or, implies_true, upn, reduceIte, Nat.reduceEqDiff, ne_eq, not_false_eq_true, upc]) (by simp only [f853_0, and_true, true_and, or_true, true_or, implies_true, upn, reduceIte, Nat.reduceEqDiff, ne_eq, not_false_eq_true, upc]) (by simp only [f853_0, and_true, true_and, or_true, true_or, implies_true, upn, reduceIte, Nat.reduceEqDiff, ne_eq, not_false_eq_true, upc]) (by simp only [f853_0, and_true, true_and, or_true, true_or, implies_true, upn, reduceIte, Nat.reduceEqDiff, ne_eq, not_false_eq_true, upc]) (by simp only [f853_0, and_true, true_and, or_true, true_or, implies_true, upn, reduceIte, Nat.reduceEqDiff, ne_eq, not_false_eq_true, upc]) (by simp only [f853_0, and_true, true_and, or_true, true_or, implies_true, upn, reduceIte, Nat.reduceEqDiff, ne_eq, not_false_eq_true, upc]) (by simp only [f853_0, and_true, true_and, or_true, true_or, implies_true, upn, reduceIte, Nat.reduceEqDiff, ne_eq, not_false_eq_true, upc]) (by simp only [f853_0, and_true, true_and, or_true, true_or, implies_true, upn, reduceIte, Nat.reduceEqDiff, ne_eq, not_false_eq_true, upc])
      obtain ⟨⟨a1, a2, a3, a4, a5, a6, a7, a8, a9, a10, a11, a12, a13, a14⟩, ⟨b1, b2, b3, b4, b5, b6, b7, b8, b9, b10⟩⟩ := id h
      refine Z_pop1 hk rfl dL_law_856 ?_
      refine Z_goto hk (tgt := 1084) dL_law_857 (by decide) ?_
      exact J ad m853 hA h hr
    · exfalso; omega
  · refine Z_iconst hk dL_law_800 ?_
    refine Z_goto hk (tgt := 805) dL_law_801 (by decide) ?_
    refine Z_aload0 hk dL_law_805 ?_
    refine Z_iload3 hk dL_law_806 ?_
    refine Z_iconst hk dL_law_807 ?_
    refine Z_iadd hk dL_law_808 ?_
    refine Z_sld hk hX hbl hbA hLn (by omega) (by omega) dL_law_809 (fun v809 e809 u809 w809 => ?_)
    refine Z_aload0 hk dL_law_810 ?_
    refine Z_iload3 hk dL_law_811 ?_
    refine Z_iconst hk dL_law_812 ?_
    refine Z_iadd hk dL_law_813 ?_
    refine Z_sld hk hX hbl hbA hLn (by omega) (by omega) dL_law_814 (fun v814 e814 u814 w814 => ?_)
    refine Z_aload0 hk dL_law_815 ?_
    refine Z_iload3 hk dL_law_816 ?_
    refine Z_iconst hk dL_law_817 ?_
    refine Z_iadd hk dL_law_818 ?_
    refine Z_sld hk hX hbl hbA hLn (by omega) (by omega) dL_law_819 (fun v819 e819 u819 w819 => ?_)
    refine Z_LVi hk (c_X8_needed κ.2.1 δ ad _ hA 1 v809 v814 v819 (by first | omega | assumption) (by first | omega | assumption) (by first | omega | assumption) (by first | omega | assumption)) ov_X8_needed ml_L_91 dL_law_820 rfl ⟨by decide, by decide⟩ ob_0.1 (by decide) (by decide) rfl (Nat.le_of_ble_eq_true rfl) ⟨by decide, by decide⟩ (fun r820 m820 p820 => ?_)
    obtain ⟨p820, f820_0⟩ := p820
    replace h : Inv m820 := by
      refine ⟨⟨?_, ?_, ?_, ?_, ?_, ?_, ?_, ?_, ?_, ?_, ?_, ?_, ?_, ?_⟩, h.2.of (fun c hc => by apply f820_0 <;> omega)⟩ <;> (try simp only [f820_0, and_true, true_and, or_true, true_or, implies_true, upn, reduceIte, Nat.reduceEqDiff, ne_eq, not_false_eq_true, upc]) <;> first | omega | assumption
    replace hr : REL m820 := hr.of (by simp only [f820_0, and_true, true_and, or_true, true_or, implies_true, upn, reduceIte, Nat.reduceEqDiff, ne_eq, not_false_eq_true, upc]) (by simp only [f820_0, and_true, true_and, or_true, true_or, implies_true, upn, reduceIte, Nat.reduceEqDiff, ne_eq, not_false_eq_true, upc]) (by simp only [f820_0, and_true, true_and, or_true, true_or, implies_true, upn, reduceIte, Nat.reduceEqDiff, ne_eq, not_false_eq_true, upc]) (by simp only [f820_0, and_true, true_and, or_true, true_or, implies_true, upn, reduceIte, Nat.reduceEqDiff, ne_eq, not_false_eq_true, upc]) (by simp only [f820_0, and_true, true_and, or_true, true_or, implies_true, upn, reduceIte, Nat.reduceEqDiff, ne_eq, not_false_eq_true, upc]) (by simp only [f820_0, and_true, true_and, or_true, true_or, implies_true, upn, reduceIte, Nat.reduceEqDiff, ne_eq, not_false_eq_true, upc]) (by simp only [f820_0, and_true, true_and, or_true, true_or, implies_true, upn, reduceIte, Nat.reduceEqDiff, ne_eq, not_false_eq_true, upc]) (by simp only [f820_0, and_true, true_and, or_true, true_or, implies_true, upn, reduceIte, Nat.reduceEqDiff, ne_eq, not_false_eq_true, upc])
    obtain ⟨⟨a1, a2, a3, a4, a5, a6, a7, a8, a9, a10, a11, a12, a13, a14⟩, ⟨b1, b2, b3, b4, b5, b6, b7, b8, b9, b10⟩⟩ := id h
    refine Z_pop1 hk rfl dL_law_823 ?_
    refine Z_aload2 hk dL_law_824 ?_
    refine Z_aload0 hk dL_law_825 ?_
    refine Z_iload3 hk dL_law_826 ?_
    refine Z_iconst hk dL_law_827 ?_
    refine Z_iadd hk dL_law_828 ?_
    refine Z_sld hk hX hbl hbA hLn (by omega) (by omega) dL_law_829 (fun v829 e829 u829 w829 => ?_)
    refine Z_if_eq hk (tgt := 837) dL_law_830 (by decide) (by omega) (by omega) (fun h830 => ?_) (fun h830 => ?_)
    · exfalso; omega
    · refine Z_iconst hk dL_law_833 ?_
      refine Z_goto hk (tgt := 838) dL_law_834 (by decide) ?_
      refine Z_aload0 hk dL_law_838 ?_
      refine Z_iload3 hk dL_law_839 ?_
      refine Z_iconst hk dL_law_840 ?_
      refine Z_iadd hk dL_law_841 ?_
      refine Z_sld hk hX hbl hbA hLn (by omega) (by omega) dL_law_842 (fun v842 e842 u842 w842 => ?_)
      refine Z_aload0 hk dL_law_843 ?_
      refine Z_iload3 hk dL_law_844 ?_
      refine Z_iconst hk dL_law_845 ?_
      refine Z_iadd hk dL_law_846 ?_
      refine Z_sld hk hX hbl hbA hLn (by omega) (by omega) dL_law_847 (fun v847 e847 u847 w847 => ?_)
      refine Z_aload0 hk dL_law_848 ?_
      refine Z_iload3 hk dL_law_849 ?_
      refine Z_iconst hk dL_law_850 ?_
      refine Z_iadd hk dL_law_851 ?_
      refine Z_sld hk hX hbl hbA hLn (by omega) (by omega) dL_law_852 (fun v852 e852 u852 w852 => ?_)
      refine Z_LVi hk (c_X9_needed κ.2.1 δ ad _ hA 1 v842 v847 v852 (by first | omega | assumption) (by first | omega | assumption) (by first | omega | assumption) (by first | omega | assumption)) ov_X9_needed ml_L_95 dL_law_853 rfl ⟨by decide, by decide⟩ ob_48.1 (by decide) (by decide) rfl (Nat.le_of_ble_eq_true rfl) ⟨by decide, by decide⟩ (fun r853 m853 p853 => ?_)
      obtain ⟨p853, f853_0⟩ := p853
      replace h : Inv m853 := by
        refine ⟨h.1.of (fun c hc => by apply f853_0 <;> omega), ⟨?_, ?_, ?_, ?_, ?_, ?_, ?_, ?_, ?_, ?_⟩⟩ <;> (first | (exact NK.same b4 (by simp only [f853_0, and_true, true_and, or_true, true_or, implies_true, upn, reduceIte, Nat.reduceEqDiff, ne_eq, not_false_eq_true, upc]) (by simp only [f853_0, and_true, true_and, or_true, true_or, implies_true, upn, reduceIte, Nat.reduceEqDiff, ne_eq, not_false_eq_true, upc]) (by simp only [f853_0, and_true, true_and, or_true, true_or, implies_true, upn, reduceIte, Nat.reduceEqDiff, ne_eq, not_false_eq_true, upc])) | (fail) | ((try simp only [f853_0, and_true, true_and, or_true, true_or, implies_true, upn, reduceIte, Nat.reduceEqDiff, ne_eq, not_false_eq_true, upc]) <;> first | omega | assumption))
      replace hr : REL m853 := hr.of (by simp only [f853_0, and_true, true_and, or_true, true_or, implies_true, upn, reduceIte, Nat.reduceEqDiff, ne_eq, not_false_eq_true, upc]) (by simp only [f853_0, and_true, true_and, or_true, true_or, implies_true, upn, reduceIte, Nat.reduceEqDiff, ne_eq, not_false_eq_true, upc]) (by simp only [f853_0, and_true, true_and, or_true, true_or, implies_true, upn, reduceIte, Nat.reduceEqDiff, ne_eq, not_false_eq_true, upc]) (by simp only [f853_0, and_true, true_and, or_true, true_or, implies_true, upn, reduceIte, Nat.reduceEqDiff, ne_eq, not_false_eq_true, upc]) (by simp only [f853_0, and_true, true_and, or_true, true_or, implies_true, upn, reduceIte, Nat.reduceEqDiff, ne_eq, not_false_eq_true, upc]) (by simp only [f853_0, and_true, true_and, or_true, true_or, implies_true, upn, reduceIte, Nat.reduceEqDiff, ne_eq, not_false_eq_true, upc]) (by simp only [f853_0, and_true, true_and, or_true, true_or, implies_true, upn, reduceIte, Nat.reduceEqDiff, ne_eq, not_false_eq_true, upc]) (by simp only [f853_0, and_true, true_and, or_true, true_or, implies_true, upn, reduceIte, Nat.reduceEqDiff, ne_eq, not_false_eq_true, upc])
      obtain ⟨⟨a1, a2, a3, a4, a5, a6, a7, a8, a9, a10, a11, a12, a13, a14⟩, ⟨b1, b2, b3, b4, b5, b6, b7, b8, b9, b10⟩⟩ := id h
      refine Z_pop1 hk rfl dL_law_856 ?_
      refine Z_goto hk (tgt := 1084) dL_law_857 (by decide) ?_
      exact J ad m853 hA h hr
set_option maxRecDepth 10000 in
set_option maxHeartbeats 4000000 in
theorem law_860 {κ : Kp} {δ : Dp} {Q : State → Prop} (hk : okK κ δ cL_law R_law 4 ret room_1) (hz : NS δ) {ad : Nat → Nat} {M : Mem} (hA : okA δ ad) (h : Inv M) (hr : REL M) {b Ln : Nat} {xs : Nat → Int32} (hX : va_X b Ln xs κ.2.2.2.2.1 κ.2.2.2.2.1.heap) (hbl : b < κ.2.2.2.2.1.heap.size) (hbA : b < δ.2.2.1) (hLn : Ln ≤ 3072) {i : Int} (hi : 0 ≤ i ∧ i + 6 ≤ Ln) (J : ∀ (ad : Nat → Nat) (M : Mem), okA δ ad → Inv M → REL M → Zj κ δ ad rs Q 4 (121, 121, 16318) 1084 [some (.ref b), some (.ref (ad 0)), some (.ref (ad 48)), some (iv i)] [] M) : Zj κ δ ad rs Q 4 (121, 121, 16318) 860 [some (.ref b), some (.ref (ad 0)), some (.ref (ad 48)), some (iv i)] [] M := by
  obtain ⟨⟨a1, a2, a3, a4, a5, a6, a7, a8, a9, a10, a11, a12, a13, a14⟩, ⟨b1, b2, b3, b4, b5, b6, b7, b8, b9, b10⟩⟩ := id h
  refine Z_aload1 hk dL_law_860 ?_
  refine Z_aload0 hk dL_law_861 ?_
  refine Z_iload3 hk dL_law_862 ?_
  refine Z_iconst hk dL_law_863 ?_
  refine Z_iadd hk dL_law_864 ?_
  refine Z_sld hk hX hbl hbA hLn (by omega) (by omega) dL_law_865 (fun v865 e865 u865 w865 => ?_)
  refine Z_LVi hk (c_X8_mean κ.2.1 δ ad _ hA v865 (by first | omega | assumption) (by first | omega | assumption) (by first | omega | assumption) (by first | omega | assumption) (by first | omega | assumption)) ov_X8_mean ml_L_96 dL_law_866 rfl ⟨by decide, by decide⟩ ob_0.1 (by decide) (by decide) rfl (Nat.le_of_ble_eq_true rfl) ⟨by decide, by decide⟩ (fun r866 m866 p866 => ?_)
  obtain ⟨p866, f866_0, f866_1⟩ := p866
  replace h : Inv m866 := by
    refine ⟨⟨?_, ?_, ?_, ?_, ?_, ?_, ?_, ?_, ?_, ?_, ?_, ?_, ?_, ?_⟩, h.2.of (fun c hc => by apply f866_0 <;> omega)⟩ <;> (try simp only [f866_0, f866_1, and_true, true_and, or_true, true_or, implies_true, upn, reduceIte, Nat.reduceEqDiff, ne_eq, not_false_eq_true, upc]) <;> first | omega | assumption
  replace hr : REL m866 := hr.of (by simp only [f866_0, f866_1, and_true, true_and, or_true, true_or, implies_true, upn, reduceIte, Nat.reduceEqDiff, ne_eq, not_false_eq_true, upc]) (by simp only [f866_0, f866_1, and_true, true_and, or_true, true_or, implies_true, upn, reduceIte, Nat.reduceEqDiff, ne_eq, not_false_eq_true, upc]) (by simp only [f866_0, f866_1, and_true, true_and, or_true, true_or, implies_true, upn, reduceIte, Nat.reduceEqDiff, ne_eq, not_false_eq_true, upc]) (by simp only [f866_0, f866_1, and_true, true_and, or_true, true_or, implies_true, upn, reduceIte, Nat.reduceEqDiff, ne_eq, not_false_eq_true, upc]) (by simp only [f866_0, f866_1, and_true, true_and, or_true, true_or, implies_true, upn, reduceIte, Nat.reduceEqDiff, ne_eq, not_false_eq_true, upc]) (by simp only [f866_0, f866_1, and_true, true_and, or_true, true_or, implies_true, upn, reduceIte, Nat.reduceEqDiff, ne_eq, not_false_eq_true, upc]) (by simp only [f866_0, f866_1, and_true, true_and, or_true, true_or, implies_true, upn, reduceIte, Nat.reduceEqDiff, ne_eq, not_false_eq_true, upc]) (by simp only [f866_0, f866_1, and_true, true_and, or_true, true_or, implies_true, upn, reduceIte, Nat.reduceEqDiff, ne_eq, not_false_eq_true, upc])
  obtain ⟨⟨a1, a2, a3, a4, a5, a6, a7, a8, a9, a10, a11, a12, a13, a14⟩, ⟨b1, b2, b3, b4, b5, b6, b7, b8, b9, b10⟩⟩ := id h
  refine Z_pop1 hk rfl dL_law_869 ?_
  refine Z_aload2 hk dL_law_870 ?_
  refine Z_aload0 hk dL_law_871 ?_
  refine Z_iload3 hk dL_law_872 ?_
  refine Z_iconst hk dL_law_873 ?_
  refine Z_iadd hk dL_law_874 ?_
  refine Z_sld hk hX hbl hbA hLn (by omega) (by omega) dL_law_875 (fun v875 e875 u875 w875 => ?_)
  refine Z_LVi hk (c_X9_mean κ.2.1 δ ad _ hA v875 (by first | omega | assumption) (by first | omega | assumption) (by first | omega | assumption)) ov_X9_mean ml_L_99 dL_law_876 rfl ⟨by decide, by decide⟩ ob_48.1 (by decide) (by decide) rfl (Nat.le_of_ble_eq_true rfl) ⟨by decide, by decide⟩ (fun r876 m876 p876 => ?_)
  obtain ⟨p876, f876_0, f876_1⟩ := p876
  replace h : Inv m876 := by
    refine ⟨h.1.of (fun c hc => by apply f876_0 <;> omega), ⟨?_, ?_, ?_, ?_, ?_, ?_, ?_, ?_, ?_, ?_⟩⟩ <;> (first | (exact NK.same b4 (by simp only [f876_0, f876_1, and_true, true_and, or_true, true_or, implies_true, upn, reduceIte, Nat.reduceEqDiff, ne_eq, not_false_eq_true, upc]) (by simp only [f876_0, f876_1, and_true, true_and, or_true, true_or, implies_true, upn, reduceIte, Nat.reduceEqDiff, ne_eq, not_false_eq_true, upc]) (by simp only [f876_0, f876_1, and_true, true_and, or_true, true_or, implies_true, upn, reduceIte, Nat.reduceEqDiff, ne_eq, not_false_eq_true, upc])) | (fail) | ((try simp only [f876_0, f876_1, and_true, true_and, or_true, true_or, implies_true, upn, reduceIte, Nat.reduceEqDiff, ne_eq, not_false_eq_true, upc]) <;> first | omega | assumption))
  replace hr : REL m876 := hr.of (by simp only [f876_0, f876_1, and_true, true_and, or_true, true_or, implies_true, upn, reduceIte, Nat.reduceEqDiff, ne_eq, not_false_eq_true, upc]) (by simp only [f876_0, f876_1, and_true, true_and, or_true, true_or, implies_true, upn, reduceIte, Nat.reduceEqDiff, ne_eq, not_false_eq_true, upc]) (by simp only [f876_0, f876_1, and_true, true_and, or_true, true_or, implies_true, upn, reduceIte, Nat.reduceEqDiff, ne_eq, not_false_eq_true, upc]) (by simp only [f876_0, f876_1, and_true, true_and, or_true, true_or, implies_true, upn, reduceIte, Nat.reduceEqDiff, ne_eq, not_false_eq_true, upc]) (by simp only [f876_0, f876_1, and_true, true_and, or_true, true_or, implies_true, upn, reduceIte, Nat.reduceEqDiff, ne_eq, not_false_eq_true, upc]) (by simp only [f876_0, f876_1, and_true, true_and, or_true, true_or, implies_true, upn, reduceIte, Nat.reduceEqDiff, ne_eq, not_false_eq_true, upc]) (by simp only [f876_0, f876_1, and_true, true_and, or_true, true_or, implies_true, upn, reduceIte, Nat.reduceEqDiff, ne_eq, not_false_eq_true, upc]) (by simp only [f876_0, f876_1, and_true, true_and, or_true, true_or, implies_true, upn, reduceIte, Nat.reduceEqDiff, ne_eq, not_false_eq_true, upc])
  obtain ⟨⟨a1, a2, a3, a4, a5, a6, a7, a8, a9, a10, a11, a12, a13, a14⟩, ⟨b1, b2, b3, b4, b5, b6, b7, b8, b9, b10⟩⟩ := id h
  refine Z_pop1 hk rfl dL_law_879 ?_
  refine Z_goto hk (tgt := 1084) dL_law_880 (by decide) ?_
  exact J ad m876 hA h hr
set_option maxRecDepth 10000 in
set_option maxHeartbeats 4000000 in
theorem law_883 {κ : Kp} {δ : Dp} {Q : State → Prop} (hk : okK κ δ cL_law R_law 4 ret room_1) (hz : NS δ) {ad : Nat → Nat} {M : Mem} (hA : okA δ ad) (h : Inv M) (hr : REL M) {b Ln : Nat} {xs : Nat → Int32} (hX : va_X b Ln xs κ.2.2.2.2.1 κ.2.2.2.2.1.heap) (hbl : b < κ.2.2.2.2.1.heap.size) (hbA : b < δ.2.2.1) (hLn : Ln ≤ 3072) {i : Int} (hi : 0 ≤ i ∧ i + 6 ≤ Ln) (J : ∀ (ad : Nat → Nat) (M : Mem), okA δ ad → Inv M → REL M → Zj κ δ ad rs Q 4 (121, 121, 16318) 1084 [some (.ref b), some (.ref (ad 0)), some (.ref (ad 48)), some (iv i)] [] M) : Zj κ δ ad rs Q 4 (121, 121, 16318) 883 [some (.ref b), some (.ref (ad 0)), some (.ref (ad 48)), some (iv i)] [] M := by
  obtain ⟨⟨a1, a2, a3, a4, a5, a6, a7, a8, a9, a10, a11, a12, a13, a14⟩, ⟨b1, b2, b3, b4, b5, b6, b7, b8, b9, b10⟩⟩ := id h
  refine Z_aload1 hk dL_law_883 ?_
  refine Z_aload0 hk dL_law_884 ?_
  refine Z_iload3 hk dL_law_885 ?_
  refine Z_iconst hk dL_law_886 ?_
  refine Z_iadd hk dL_law_887 ?_
  refine Z_sld hk hX hbl hbA hLn (by omega) (by omega) dL_law_888 (fun v888 e888 u888 w888 => ?_)
  refine Z_LVi hk (c_X8_drift κ.2.1 δ ad _ hA v888 (by first | omega | assumption) (by first | omega | assumption) (by first | omega | assumption) (by first | omega | assumption) (by first | omega | assumption)) ov_X8_drift ml_L_100 dL_law_889 rfl ⟨by decide, by decide⟩ ob_0.1 (by decide) (by decide) rfl (Nat.le_of_ble_eq_true rfl) ⟨by decide, by decide⟩ (fun r889 m889 p889 => ?_)
  obtain ⟨p889, f889_0, f889_1⟩ := p889
  replace h : Inv m889 := by
    refine ⟨⟨?_, ?_, ?_, ?_, ?_, ?_, ?_, ?_, ?_, ?_, ?_, ?_, ?_, ?_⟩, h.2.of (fun c hc => by apply f889_0 <;> omega)⟩ <;> (try simp only [f889_0, f889_1, and_true, true_and, or_true, true_or, implies_true, upn, reduceIte, Nat.reduceEqDiff, ne_eq, not_false_eq_true, upc]) <;> first | omega | assumption
  replace hr : REL m889 := hr.of (by simp only [f889_0, f889_1, and_true, true_and, or_true, true_or, implies_true, upn, reduceIte, Nat.reduceEqDiff, ne_eq, not_false_eq_true, upc]) (by simp only [f889_0, f889_1, and_true, true_and, or_true, true_or, implies_true, upn, reduceIte, Nat.reduceEqDiff, ne_eq, not_false_eq_true, upc]) (by simp only [f889_0, f889_1, and_true, true_and, or_true, true_or, implies_true, upn, reduceIte, Nat.reduceEqDiff, ne_eq, not_false_eq_true, upc]) (by simp only [f889_0, f889_1, and_true, true_and, or_true, true_or, implies_true, upn, reduceIte, Nat.reduceEqDiff, ne_eq, not_false_eq_true, upc]) (by simp only [f889_0, f889_1, and_true, true_and, or_true, true_or, implies_true, upn, reduceIte, Nat.reduceEqDiff, ne_eq, not_false_eq_true, upc]) (by simp only [f889_0, f889_1, and_true, true_and, or_true, true_or, implies_true, upn, reduceIte, Nat.reduceEqDiff, ne_eq, not_false_eq_true, upc]) (by simp only [f889_0, f889_1, and_true, true_and, or_true, true_or, implies_true, upn, reduceIte, Nat.reduceEqDiff, ne_eq, not_false_eq_true, upc]) (by simp only [f889_0, f889_1, and_true, true_and, or_true, true_or, implies_true, upn, reduceIte, Nat.reduceEqDiff, ne_eq, not_false_eq_true, upc])
  obtain ⟨⟨a1, a2, a3, a4, a5, a6, a7, a8, a9, a10, a11, a12, a13, a14⟩, ⟨b1, b2, b3, b4, b5, b6, b7, b8, b9, b10⟩⟩ := id h
  refine Z_pop1 hk rfl dL_law_892 ?_
  refine Z_aload2 hk dL_law_893 ?_
  refine Z_aload0 hk dL_law_894 ?_
  refine Z_iload3 hk dL_law_895 ?_
  refine Z_iconst hk dL_law_896 ?_
  refine Z_iadd hk dL_law_897 ?_
  refine Z_sld hk hX hbl hbA hLn (by omega) (by omega) dL_law_898 (fun v898 e898 u898 w898 => ?_)
  refine Z_LVi hk (c_X9_drift κ.2.1 δ ad _ hA v898 (by first | omega | assumption) (by first | omega | assumption) (by first | omega | assumption)) ov_X9_drift ml_L_103 dL_law_899 rfl ⟨by decide, by decide⟩ ob_48.1 (by decide) (by decide) rfl (Nat.le_of_ble_eq_true rfl) ⟨by decide, by decide⟩ (fun r899 m899 p899 => ?_)
  obtain ⟨p899, f899_0, f899_1⟩ := p899
  replace h : Inv m899 := by
    refine ⟨h.1.of (fun c hc => by apply f899_0 <;> omega), ⟨?_, ?_, ?_, ?_, ?_, ?_, ?_, ?_, ?_, ?_⟩⟩ <;> (first | (exact NK.same b4 (by simp only [f899_0, f899_1, and_true, true_and, or_true, true_or, implies_true, upn, reduceIte, Nat.reduceEqDiff, ne_eq, not_false_eq_true, upc]) (by simp only [f899_0, f899_1, and_true, true_and, or_true, true_or, implies_true, upn, reduceIte, Nat.reduceEqDiff, ne_eq, not_false_eq_true, upc]) (by simp only [f899_0, f899_1, and_true, true_and, or_true, true_or, implies_true, upn, reduceIte, Nat.reduceEqDiff, ne_eq, not_false_eq_true, upc])) | (fail) | ((try simp only [f899_0, f899_1, and_true, true_and, or_true, true_or, implies_true, upn, reduceIte, Nat.reduceEqDiff, ne_eq, not_false_eq_true, upc]) <;> first | omega | assumption))
  replace hr : REL m899 := hr.of (by simp only [f899_0, f899_1, and_true, true_and, or_true, true_or, implies_true, upn, reduceIte, Nat.reduceEqDiff, ne_eq, not_false_eq_true, upc]) (by simp only [f899_0, f899_1, and_true, true_and, or_true, true_or, implies_true, upn, reduceIte, Nat.reduceEqDiff, ne_eq, not_false_eq_true, upc]) (by simp only [f899_0, f899_1, and_true, true_and, or_true, true_or, implies_true, upn, reduceIte, Nat.reduceEqDiff, ne_eq, not_false_eq_true, upc]) (by simp only [f899_0, f899_1, and_true, true_and, or_true, true_or, implies_true, upn, reduceIte, Nat.reduceEqDiff, ne_eq, not_false_eq_true, upc]) (by simp only [f899_0, f899_1, and_true, true_and, or_true, true_or, implies_true, upn, reduceIte, Nat.reduceEqDiff, ne_eq, not_false_eq_true, upc]) (by simp only [f899_0, f899_1, and_true, true_and, or_true, true_or, implies_true, upn, reduceIte, Nat.reduceEqDiff, ne_eq, not_false_eq_true, upc]) (by simp only [f899_0, f899_1, and_true, true_and, or_true, true_or, implies_true, upn, reduceIte, Nat.reduceEqDiff, ne_eq, not_false_eq_true, upc]) (by simp only [f899_0, f899_1, and_true, true_and, or_true, true_or, implies_true, upn, reduceIte, Nat.reduceEqDiff, ne_eq, not_false_eq_true, upc])
  obtain ⟨⟨a1, a2, a3, a4, a5, a6, a7, a8, a9, a10, a11, a12, a13, a14⟩, ⟨b1, b2, b3, b4, b5, b6, b7, b8, b9, b10⟩⟩ := id h
  refine Z_pop1 hk rfl dL_law_902 ?_
  refine Z_goto hk (tgt := 1084) dL_law_903 (by decide) ?_
  exact J ad m899 hA h hr
set_option maxRecDepth 10000 in
set_option maxHeartbeats 4000000 in
theorem law_906 {κ : Kp} {δ : Dp} {Q : State → Prop} (hk : okK κ δ cL_law R_law 4 ret room_1) (hz : NS δ) {ad : Nat → Nat} {M : Mem} (hA : okA δ ad) (h : Inv M) (hr : REL M) {b Ln : Nat} {xs : Nat → Int32} (hX : va_X b Ln xs κ.2.2.2.2.1 κ.2.2.2.2.1.heap) (hbl : b < κ.2.2.2.2.1.heap.size) (hbA : b < δ.2.2.1) (hLn : Ln ≤ 3072) {i : Int} (hi : 0 ≤ i ∧ i + 6 ≤ Ln) (J : ∀ (ad : Nat → Nat) (M : Mem), okA δ ad → Inv M → REL M → Zj κ δ ad rs Q 4 (121, 121, 16318) 1084 [some (.ref b), some (.ref (ad 0)), some (.ref (ad 48)), some (iv i)] [] M) : Zj κ δ ad rs Q 4 (121, 121, 16318) 906 [some (.ref b), some (.ref (ad 0)), some (.ref (ad 48)), some (iv i)] [] M := by
  obtain ⟨⟨a1, a2, a3, a4, a5, a6, a7, a8, a9, a10, a11, a12, a13, a14⟩, ⟨b1, b2, b3, b4, b5, b6, b7, b8, b9, b10⟩⟩ := id h
  refine Z_aload1 hk dL_law_906 ?_
  refine Z_aload0 hk dL_law_907 ?_
  refine Z_iload3 hk dL_law_908 ?_
  refine Z_iconst hk dL_law_909 ?_
  refine Z_iadd hk dL_law_910 ?_
  refine Z_sld hk hX hbl hbA hLn (by omega) (by omega) dL_law_911 (fun v911 e911 u911 w911 => ?_)
  refine Z_aload0 hk dL_law_912 ?_
  refine Z_iload3 hk dL_law_913 ?_
  refine Z_iconst hk dL_law_914 ?_
  refine Z_iadd hk dL_law_915 ?_
  refine Z_sld hk hX hbl hbA hLn (by omega) (by omega) dL_law_916 (fun v916 e916 u916 w916 => ?_)
  refine Z_aload0 hk dL_law_917 ?_
  refine Z_iload3 hk dL_law_918 ?_
  refine Z_iconst hk dL_law_919 ?_
  refine Z_iadd hk dL_law_920 ?_
  refine Z_sld hk hX hbl hbA hLn (by omega) (by omega) dL_law_921 (fun v921 e921 u921 w921 => ?_)
  refine Z_LVi hk (c_X8_scored κ.2.1 δ ad _ hA v911 v916 v921 (by first | omega | assumption) (by first | omega | assumption) (by first | omega | assumption) (by first | omega | assumption) (by first | omega | assumption) (by first | omega | assumption) (by first | omega | assumption)) ov_X8_scored ml_L_104 dL_law_922 rfl ⟨by decide, by decide⟩ ob_0.1 (by decide) (by decide) rfl (Nat.le_of_ble_eq_true rfl) ⟨by decide, by decide⟩ (fun r922 m922 p922 => ?_)
  obtain ⟨p922, f922_0, f922_1⟩ := p922
  replace h : Inv m922 := by
    refine ⟨⟨?_, ?_, ?_, ?_, ?_, ?_, ?_, ?_, ?_, ?_, ?_, ?_, ?_, ?_⟩, h.2.of (fun c hc => by apply f922_0 <;> omega)⟩ <;> (try simp only [f922_0, f922_1, and_true, true_and, or_true, true_or, implies_true, upn, reduceIte, Nat.reduceEqDiff, ne_eq, not_false_eq_true, upc]) <;> first | omega | assumption
  replace hr : REL m922 := hr.of (by simp only [f922_0, f922_1, and_true, true_and, or_true, true_or, implies_true, upn, reduceIte, Nat.reduceEqDiff, ne_eq, not_false_eq_true, upc]) (by simp only [f922_0, f922_1, and_true, true_and, or_true, true_or, implies_true, upn, reduceIte, Nat.reduceEqDiff, ne_eq, not_false_eq_true, upc]) (by simp only [f922_0, f922_1, and_true, true_and, or_true, true_or, implies_true, upn, reduceIte, Nat.reduceEqDiff, ne_eq, not_false_eq_true, upc]) (by simp only [f922_0, f922_1, and_true, true_and, or_true, true_or, implies_true, upn, reduceIte, Nat.reduceEqDiff, ne_eq, not_false_eq_true, upc]) (by simp only [f922_0, f922_1, and_true, true_and, or_true, true_or, implies_true, upn, reduceIte, Nat.reduceEqDiff, ne_eq, not_false_eq_true, upc]) (by simp only [f922_0, f922_1, and_true, true_and, or_true, true_or, implies_true, upn, reduceIte, Nat.reduceEqDiff, ne_eq, not_false_eq_true, upc]) (by simp only [f922_0, f922_1, and_true, true_and, or_true, true_or, implies_true, upn, reduceIte, Nat.reduceEqDiff, ne_eq, not_false_eq_true, upc]) (by simp only [f922_0, f922_1, and_true, true_and, or_true, true_or, implies_true, upn, reduceIte, Nat.reduceEqDiff, ne_eq, not_false_eq_true, upc])
  obtain ⟨⟨a1, a2, a3, a4, a5, a6, a7, a8, a9, a10, a11, a12, a13, a14⟩, ⟨b1, b2, b3, b4, b5, b6, b7, b8, b9, b10⟩⟩ := id h
  refine Z_pop1 hk rfl dL_law_925 ?_
  refine Z_aload2 hk dL_law_926 ?_
  refine Z_aload0 hk dL_law_927 ?_
  refine Z_iload3 hk dL_law_928 ?_
  refine Z_iconst hk dL_law_929 ?_
  refine Z_iadd hk dL_law_930 ?_
  refine Z_sld hk hX hbl hbA hLn (by omega) (by omega) dL_law_931 (fun v931 e931 u931 w931 => ?_)
  refine Z_aload0 hk dL_law_932 ?_
  refine Z_iload3 hk dL_law_933 ?_
  refine Z_iconst hk dL_law_934 ?_
  refine Z_iadd hk dL_law_935 ?_
  refine Z_sld hk hX hbl hbA hLn (by omega) (by omega) dL_law_936 (fun v936 e936 u936 w936 => ?_)
  refine Z_aload0 hk dL_law_937 ?_
  refine Z_iload3 hk dL_law_938 ?_
  refine Z_iconst hk dL_law_939 ?_
  refine Z_iadd hk dL_law_940 ?_
  refine Z_sld hk hX hbl hbA hLn (by omega) (by omega) dL_law_941 (fun v941 e941 u941 w941 => ?_)
  refine Z_LVi hk (c_X9_scored κ.2.1 δ ad _ hA v931 v936 v941 (by first | omega | assumption) (by first | omega | assumption) (by first | omega | assumption) (by first | omega | assumption) (by first | omega | assumption)) ov_X9_scored ml_L_107 dL_law_942 rfl ⟨by decide, by decide⟩ ob_48.1 (by decide) (by decide) rfl (Nat.le_of_ble_eq_true rfl) ⟨by decide, by decide⟩ (fun r942 m942 p942 => ?_)
  obtain ⟨p942, f942_0, f942_1⟩ := p942
  replace h : Inv m942 := by
    refine ⟨h.1.of (fun c hc => by apply f942_0 <;> omega), ⟨?_, ?_, ?_, ?_, ?_, ?_, ?_, ?_, ?_, ?_⟩⟩ <;> (first | (exact NK.same b4 (by simp only [f942_0, f942_1, and_true, true_and, or_true, true_or, implies_true, upn, reduceIte, Nat.reduceEqDiff, ne_eq, not_false_eq_true, upc]) (by simp only [f942_0, f942_1, and_true, true_and, or_true, true_or, implies_true, upn, reduceIte, Nat.reduceEqDiff, ne_eq, not_false_eq_true, upc]) (by simp only [f942_0, f942_1, and_true, true_and, or_true, true_or, implies_true, upn, reduceIte, Nat.reduceEqDiff, ne_eq, not_false_eq_true, upc])) | (fail) | ((try simp only [f942_0, f942_1, and_true, true_and, or_true, true_or, implies_true, upn, reduceIte, Nat.reduceEqDiff, ne_eq, not_false_eq_true, upc]) <;> first | omega | assumption))
  replace hr : REL m942 := hr.of (by simp only [f942_0, f942_1, and_true, true_and, or_true, true_or, implies_true, upn, reduceIte, Nat.reduceEqDiff, ne_eq, not_false_eq_true, upc]) (by simp only [f942_0, f942_1, and_true, true_and, or_true, true_or, implies_true, upn, reduceIte, Nat.reduceEqDiff, ne_eq, not_false_eq_true, upc]) (by simp only [f942_0, f942_1, and_true, true_and, or_true, true_or, implies_true, upn, reduceIte, Nat.reduceEqDiff, ne_eq, not_false_eq_true, upc]) (by simp only [f942_0, f942_1, and_true, true_and, or_true, true_or, implies_true, upn, reduceIte, Nat.reduceEqDiff, ne_eq, not_false_eq_true, upc]) (by simp only [f942_0, f942_1, and_true, true_and, or_true, true_or, implies_true, upn, reduceIte, Nat.reduceEqDiff, ne_eq, not_false_eq_true, upc]) (by simp only [f942_0, f942_1, and_true, true_and, or_true, true_or, implies_true, upn, reduceIte, Nat.reduceEqDiff, ne_eq, not_false_eq_true, upc]) (by simp only [f942_0, f942_1, and_true, true_and, or_true, true_or, implies_true, upn, reduceIte, Nat.reduceEqDiff, ne_eq, not_false_eq_true, upc]) (by simp only [f942_0, f942_1, and_true, true_and, or_true, true_or, implies_true, upn, reduceIte, Nat.reduceEqDiff, ne_eq, not_false_eq_true, upc])
  obtain ⟨⟨a1, a2, a3, a4, a5, a6, a7, a8, a9, a10, a11, a12, a13, a14⟩, ⟨b1, b2, b3, b4, b5, b6, b7, b8, b9, b10⟩⟩ := id h
  refine Z_pop1 hk rfl dL_law_945 ?_
  refine Z_goto hk (tgt := 1084) dL_law_946 (by decide) ?_
  exact J ad m942 hA h hr
set_option maxRecDepth 10000 in
set_option maxHeartbeats 4000000 in
theorem law_949 {κ : Kp} {δ : Dp} {Q : State → Prop} (hk : okK κ δ cL_law R_law 4 ret room_1) (hz : NS δ) {ad : Nat → Nat} {M : Mem} (hA : okA δ ad) (h : Inv M) (hr : REL M) {b Ln : Nat} {xs : Nat → Int32} (hX : va_X b Ln xs κ.2.2.2.2.1 κ.2.2.2.2.1.heap) (hbl : b < κ.2.2.2.2.1.heap.size) (hbA : b < δ.2.2.1) (hLn : Ln ≤ 3072) {i : Int} (hi : 0 ≤ i ∧ i + 6 ≤ Ln) (J : ∀ (ad : Nat → Nat) (M : Mem), okA δ ad → Inv M → REL M → Zj κ δ ad rs Q 4 (121, 121, 16318) 1084 [some (.ref b), some (.ref (ad 0)), some (.ref (ad 48)), some (iv i)] [] M) : Zj κ δ ad rs Q 4 (121, 121, 16318) 949 [some (.ref b), some (.ref (ad 0)), some (.ref (ad 48)), some (iv i)] [] M := by
  obtain ⟨⟨a1, a2, a3, a4, a5, a6, a7, a8, a9, a10, a11, a12, a13, a14⟩, ⟨b1, b2, b3, b4, b5, b6, b7, b8, b9, b10⟩⟩ := id h
  refine Z_aload1 hk dL_law_949 ?_
  refine Z_aload0 hk dL_law_950 ?_
  refine Z_iload3 hk dL_law_951 ?_
  refine Z_iconst hk dL_law_952 ?_
  refine Z_iadd hk dL_law_953 ?_
  refine Z_sld hk hX hbl hbA hLn (by omega) (by omega) dL_law_954 (fun v954 e954 u954 w954 => ?_)
  refine Z_LVi hk (c_X8_claim κ.2.1 δ ad _ hA v954 hz (by first | omega | assumption) (by first | omega | assumption) (by first | omega | assumption) (by first | omega | assumption) (by first | omega | assumption) (by first | omega | assumption) (by first | omega | assumption) (by first | omega | assumption)) ov_X8_claim ml_L_108 dL_law_955 rfl ⟨by decide, by decide⟩ ob_0.1 (by decide) (by decide) rfl (Nat.le_of_ble_eq_true rfl) ⟨by decide, by decide⟩ (fun r955 m955 p955 => ?_)
  obtain ⟨p955, f955_0, f955_1, f955_2, f955_3⟩ := p955
  replace h : Inv m955 := by
    refine ⟨⟨?_, ?_, ?_, ?_, ?_, ?_, ?_, ?_, ?_, ?_, ?_, ?_, ?_, ?_⟩, h.2.of (fun c hc => by apply f955_0 <;> omega)⟩ <;> (try simp only [f955_0, f955_1, f955_2, f955_3, and_true, true_and, or_true, true_or, implies_true, upn, reduceIte, Nat.reduceEqDiff, ne_eq, not_false_eq_true, upc]) <;> first | omega | assumption
  replace hr : REL m955 := hr.of (by simp only [f955_0, f955_1, f955_2, f955_3, and_true, true_and, or_true, true_or, implies_true, upn, reduceIte, Nat.reduceEqDiff, ne_eq, not_false_eq_true, upc]) (by simp only [f955_0, f955_1, f955_2, f955_3, and_true, true_and, or_true, true_or, implies_true, upn, reduceIte, Nat.reduceEqDiff, ne_eq, not_false_eq_true, upc]) (by simp only [f955_0, f955_1, f955_2, f955_3, and_true, true_and, or_true, true_or, implies_true, upn, reduceIte, Nat.reduceEqDiff, ne_eq, not_false_eq_true, upc]) (by simp only [f955_0, f955_1, f955_2, f955_3, and_true, true_and, or_true, true_or, implies_true, upn, reduceIte, Nat.reduceEqDiff, ne_eq, not_false_eq_true, upc]) (by simp only [f955_0, f955_1, f955_2, f955_3, and_true, true_and, or_true, true_or, implies_true, upn, reduceIte, Nat.reduceEqDiff, ne_eq, not_false_eq_true, upc]) (by simp only [f955_0, f955_1, f955_2, f955_3, and_true, true_and, or_true, true_or, implies_true, upn, reduceIte, Nat.reduceEqDiff, ne_eq, not_false_eq_true, upc]) (by simp only [f955_0, f955_1, f955_2, f955_3, and_true, true_and, or_true, true_or, implies_true, upn, reduceIte, Nat.reduceEqDiff, ne_eq, not_false_eq_true, upc]) (by simp only [f955_0, f955_1, f955_2, f955_3, and_true, true_and, or_true, true_or, implies_true, upn, reduceIte, Nat.reduceEqDiff, ne_eq, not_false_eq_true, upc])
  obtain ⟨⟨a1, a2, a3, a4, a5, a6, a7, a8, a9, a10, a11, a12, a13, a14⟩, ⟨b1, b2, b3, b4, b5, b6, b7, b8, b9, b10⟩⟩ := id h
  refine Z_pop1 hk rfl dL_law_958 ?_
  refine Z_aload2 hk dL_law_959 ?_
  refine Z_aload0 hk dL_law_960 ?_
  refine Z_iload3 hk dL_law_961 ?_
  refine Z_iconst hk dL_law_962 ?_
  refine Z_iadd hk dL_law_963 ?_
  refine Z_sld hk hX hbl hbA hLn (by omega) (by omega) dL_law_964 (fun v964 e964 u964 w964 => ?_)
  refine Z_LVi hk (c_X9_claim κ.2.1 δ ad _ hA v964 (by first | omega | assumption) (by first | omega | assumption) (by first | omega | assumption) (by first | omega | assumption) (by first | omega | assumption) (by first | omega | assumption) (by first | omega | assumption)) ov_X9_claim ml_L_111 dL_law_965 rfl ⟨by decide, by decide⟩ ob_48.1 (by decide) (by decide) rfl (Nat.le_of_ble_eq_true rfl) ⟨by decide, by decide⟩ (fun r965 m965 p965 => ?_)
  obtain ⟨p965, f965_0, f965_1⟩ := p965
  replace h : Inv m965 := by
    refine ⟨h.1.of (fun c hc => by apply f965_0 <;> omega), ⟨?_, ?_, ?_, ?_, ?_, ?_, ?_, ?_, ?_, ?_⟩⟩ <;> (first | (exact NK.same b4 (by simp only [f965_0, f965_1, and_true, true_and, or_true, true_or, implies_true, upn, reduceIte, Nat.reduceEqDiff, ne_eq, not_false_eq_true, upc]) (by simp only [f965_0, f965_1, and_true, true_and, or_true, true_or, implies_true, upn, reduceIte, Nat.reduceEqDiff, ne_eq, not_false_eq_true, upc]) (by simp only [f965_0, f965_1, and_true, true_and, or_true, true_or, implies_true, upn, reduceIte, Nat.reduceEqDiff, ne_eq, not_false_eq_true, upc])) | (fail) | ((try simp only [f965_0, f965_1, and_true, true_and, or_true, true_or, implies_true, upn, reduceIte, Nat.reduceEqDiff, ne_eq, not_false_eq_true, upc]) <;> first | omega | assumption))
  replace hr : REL m965 := hr.of (by simp only [f965_0, f965_1, and_true, true_and, or_true, true_or, implies_true, upn, reduceIte, Nat.reduceEqDiff, ne_eq, not_false_eq_true, upc]) (by simp only [f965_0, f965_1, and_true, true_and, or_true, true_or, implies_true, upn, reduceIte, Nat.reduceEqDiff, ne_eq, not_false_eq_true, upc]) (by simp only [f965_0, f965_1, and_true, true_and, or_true, true_or, implies_true, upn, reduceIte, Nat.reduceEqDiff, ne_eq, not_false_eq_true, upc]) (by simp only [f965_0, f965_1, and_true, true_and, or_true, true_or, implies_true, upn, reduceIte, Nat.reduceEqDiff, ne_eq, not_false_eq_true, upc]) (by simp only [f965_0, f965_1, and_true, true_and, or_true, true_or, implies_true, upn, reduceIte, Nat.reduceEqDiff, ne_eq, not_false_eq_true, upc]) (by simp only [f965_0, f965_1, and_true, true_and, or_true, true_or, implies_true, upn, reduceIte, Nat.reduceEqDiff, ne_eq, not_false_eq_true, upc]) (by simp only [f965_0, f965_1, and_true, true_and, or_true, true_or, implies_true, upn, reduceIte, Nat.reduceEqDiff, ne_eq, not_false_eq_true, upc]) (by simp only [f965_0, f965_1, and_true, true_and, or_true, true_or, implies_true, upn, reduceIte, Nat.reduceEqDiff, ne_eq, not_false_eq_true, upc])
  obtain ⟨⟨a1, a2, a3, a4, a5, a6, a7, a8, a9, a10, a11, a12, a13, a14⟩, ⟨b1, b2, b3, b4, b5, b6, b7, b8, b9, b10⟩⟩ := id h
  refine Z_pop1 hk rfl dL_law_968 ?_
  refine Z_goto hk (tgt := 1084) dL_law_969 (by decide) ?_
  exact J ad m965 hA h hr
set_option maxRecDepth 10000 in
set_option maxHeartbeats 4000000 in
theorem law_972 {κ : Kp} {δ : Dp} {Q : State → Prop} (hk : okK κ δ cL_law R_law 4 ret room_1) (hz : NS δ) {ad : Nat → Nat} {M : Mem} (hA : okA δ ad) (h : Inv M) (hr : REL M) {b Ln : Nat} {xs : Nat → Int32} (hX : va_X b Ln xs κ.2.2.2.2.1 κ.2.2.2.2.1.heap) (hbl : b < κ.2.2.2.2.1.heap.size) (hbA : b < δ.2.2.1) (hLn : Ln ≤ 3072) {i : Int} (hi : 0 ≤ i ∧ i + 6 ≤ Ln) (J : ∀ (ad : Nat → Nat) (M : Mem), okA δ ad → Inv M → REL M → Zj κ δ ad rs Q 4 (121, 121, 16318) 1084 [some (.ref b), some (.ref (ad 0)), some (.ref (ad 48)), some (iv i)] [] M) : Zj κ δ ad rs Q 4 (121, 121, 16318) 972 [some (.ref b), some (.ref (ad 0)), some (.ref (ad 48)), some (iv i)] [] M := by
  obtain ⟨⟨a1, a2, a3, a4, a5, a6, a7, a8, a9, a10, a11, a12, a13, a14⟩, ⟨b1, b2, b3, b4, b5, b6, b7, b8, b9, b10⟩⟩ := id h
  refine Z_aload1 hk dL_law_972 ?_
  refine Z_aload0 hk dL_law_973 ?_
  refine Z_iload3 hk dL_law_974 ?_
  refine Z_iconst hk dL_law_975 ?_
  refine Z_iadd hk dL_law_976 ?_
  refine Z_sld hk hX hbl hbA hLn (by omega) (by omega) dL_law_977 (fun v977 e977 u977 w977 => ?_)
  refine Z_aload0 hk dL_law_978 ?_
  refine Z_iload3 hk dL_law_979 ?_
  refine Z_iconst hk dL_law_980 ?_
  refine Z_iadd hk dL_law_981 ?_
  refine Z_sld hk hX hbl hbA hLn (by omega) (by omega) dL_law_982 (fun v982 e982 u982 w982 => ?_)
  refine Z_LVi hk (c_X8_orders_g κ.2.1 δ ad _ hA v977 v982 hz (by first | omega | assumption) (by first | omega | assumption)) ov_X8_orders ml_L_112 dL_law_983 rfl ⟨by decide, by decide⟩ ob_0.1 (by decide) (by decide) rfl (Nat.le_of_ble_eq_true rfl) ⟨by decide, by decide⟩ (fun r983 m983 p983 => ?_)
  obtain ⟨p983, f983_0, f983_1, f983_2, f983_3, f983_4⟩ := p983
  replace h : Inv m983 := by
    refine ⟨⟨?_, ?_, ?_, ?_, ?_, ?_, ?_, ?_, ?_, ?_, ?_, ?_, ?_, ?_⟩, h.2.of (fun c hc => by apply f983_0 <;> omega)⟩ <;> (try simp only [f983_0, f983_1, and_true, true_and, or_true, true_or, implies_true, upn, reduceIte, Nat.reduceEqDiff, ne_eq, not_false_eq_true, upc]) <;> first | omega | assumption | exact f983_2 a13 | exact f983_3 a13 | exact f983_4 a13 | exact f983_2 a14 | exact f983_3 a14 | exact f983_4 a14
  obtain ⟨⟨a1, a2, a3, a4, a5, a6, a7, a8, a9, a10, a11, a12, a13, a14⟩, ⟨b1, b2, b3, b4, b5, b6, b7, b8, b9, b10⟩⟩ := id h
  refine Z_pop1 hk rfl dL_law_986 ?_
  refine Z_aload2 hk dL_law_987 ?_
  refine Z_aload0 hk dL_law_988 ?_
  refine Z_iload3 hk dL_law_989 ?_
  refine Z_iconst hk dL_law_990 ?_
  refine Z_iadd hk dL_law_991 ?_
  refine Z_sld hk hX hbl hbA hLn (by omega) (by omega) dL_law_992 (fun v992 e992 u992 w992 => ?_)
  refine Z_aload0 hk dL_law_993 ?_
  refine Z_iload3 hk dL_law_994 ?_
  refine Z_iconst hk dL_law_995 ?_
  refine Z_iadd hk dL_law_996 ?_
  refine Z_sld hk hX hbl hbA hLn (by omega) (by omega) dL_law_997 (fun v997 e997 u997 w997 => ?_)
  refine Z_LVi hk (c_X9_orders_g κ.2.1 δ ad _ hA v992 v997 (by first | omega | assumption) (by first | omega | assumption) (by first | omega | assumption)) ov_X9_orders ml_L_115 dL_law_998 rfl ⟨by decide, by decide⟩ ob_48.1 (by decide) (by decide) rfl (Nat.le_of_ble_eq_true rfl) ⟨by decide, by decide⟩ (fun r998 m998 p998 => ?_)
  obtain ⟨p998, f998_0, f998_1, f998_2, f998_3⟩ := p998
  replace h : Inv m998 := by
    refine ⟨h.1.of (fun c hc => by apply f998_0 <;> omega), ⟨?_, ?_, ?_, ?_, ?_, ?_, ?_, ?_, ?_, ?_⟩⟩ <;> (first | (exact NK.same b4 (by simp only [f998_0, f998_1, and_true, true_and, or_true, true_or, implies_true, upn, reduceIte, Nat.reduceEqDiff, ne_eq, not_false_eq_true, upc]) (by simp only [f998_0, f998_1, and_true, true_and, or_true, true_or, implies_true, upn, reduceIte, Nat.reduceEqDiff, ne_eq, not_false_eq_true, upc]) (by simp only [f998_0, f998_1, and_true, true_and, or_true, true_or, implies_true, upn, reduceIte, Nat.reduceEqDiff, ne_eq, not_false_eq_true, upc])) | (fail) | ((try simp only [f998_0, f998_1, and_true, true_and, or_true, true_or, implies_true, upn, reduceIte, Nat.reduceEqDiff, ne_eq, not_false_eq_true, upc]) <;> first | omega | assumption))
  rw [show v992 = v977 from by rw [e992, e977], show v997 = v982 from by rw [e997, e982]] at f998_3
  replace hr : REL m998 := REL_orders hr f983_4 f998_3 (by apply f998_0 <;> decide) (by apply f998_0 <;> decide) (by apply f998_0 <;> decide) (by apply f998_0 <;> decide)
  obtain ⟨⟨a1, a2, a3, a4, a5, a6, a7, a8, a9, a10, a11, a12, a13, a14⟩, ⟨b1, b2, b3, b4, b5, b6, b7, b8, b9, b10⟩⟩ := id h
  refine Z_pop1 hk rfl dL_law_1001 ?_
  refine Z_goto hk (tgt := 1084) dL_law_1002 (by decide) ?_
  exact J ad m998 hA h hr
set_option maxRecDepth 10000 in
set_option maxHeartbeats 4000000 in
theorem law_1005 {κ : Kp} {δ : Dp} {Q : State → Prop} (hk : okK κ δ cL_law R_law 4 ret room_1) (hz : NS δ) {ad : Nat → Nat} {M : Mem} (hA : okA δ ad) (h : Inv M) (hr : REL M) {b Ln : Nat} {xs : Nat → Int32} (hX : va_X b Ln xs κ.2.2.2.2.1 κ.2.2.2.2.1.heap) (hbl : b < κ.2.2.2.2.1.heap.size) (hbA : b < δ.2.2.1) (hLn : Ln ≤ 3072) {i : Int} (hi : 0 ≤ i ∧ i + 6 ≤ Ln) (J : ∀ (ad : Nat → Nat) (M : Mem), okA δ ad → Inv M → REL M → Zj κ δ ad rs Q 4 (121, 121, 16318) 1084 [some (.ref b), some (.ref (ad 0)), some (.ref (ad 48)), some (iv i)] [] M) : Zj κ δ ad rs Q 4 (121, 121, 16318) 1005 [some (.ref b), some (.ref (ad 0)), some (.ref (ad 48)), some (iv i)] [] M := by
  obtain ⟨⟨a1, a2, a3, a4, a5, a6, a7, a8, a9, a10, a11, a12, a13, a14⟩, ⟨b1, b2, b3, b4, b5, b6, b7, b8, b9, b10⟩⟩ := id h
  refine Z_aload1 hk dL_law_1005 ?_
  refine Z_aload0 hk dL_law_1006 ?_
  refine Z_iload3 hk dL_law_1007 ?_
  refine Z_iconst hk dL_law_1008 ?_
  refine Z_iadd hk dL_law_1009 ?_
  refine Z_sld hk hX hbl hbA hLn (by omega) (by omega) dL_law_1010 (fun v1010 e1010 u1010 w1010 => ?_)
  refine Z_aload0 hk dL_law_1011 ?_
  refine Z_iload3 hk dL_law_1012 ?_
  refine Z_iconst hk dL_law_1013 ?_
  refine Z_iadd hk dL_law_1014 ?_
  refine Z_sld hk hX hbl hbA hLn (by omega) (by omega) dL_law_1015 (fun v1015 e1015 u1015 w1015 => ?_)
  refine Z_LVi hk (c_X8_served κ.2.1 δ ad _ hA v1010 v1015 (by first | omega | assumption) (by first | omega | assumption) (by first | omega | assumption)) ov_X8_served ml_L_116 dL_law_1016 rfl ⟨by decide, by decide⟩ ob_0.1 (by decide) (by decide) rfl (Nat.le_of_ble_eq_true rfl) ⟨by decide, by decide⟩ (fun r1016 m1016 p1016 => ?_)
  obtain ⟨rfl, p1016⟩ := p1016
  refine Z_pop1 hk rfl dL_law_1019 ?_
  refine Z_aload2 hk dL_law_1020 ?_
  refine Z_aload0 hk dL_law_1021 ?_
  refine Z_iload3 hk dL_law_1022 ?_
  refine Z_iconst hk dL_law_1023 ?_
  refine Z_iadd hk dL_law_1024 ?_
  refine Z_sld hk hX hbl hbA hLn (by omega) (by omega) dL_law_1025 (fun v1025 e1025 u1025 w1025 => ?_)
  refine Z_aload0 hk dL_law_1026 ?_
  refine Z_iload3 hk dL_law_1027 ?_
  refine Z_iconst hk dL_law_1028 ?_
  refine Z_iadd hk dL_law_1029 ?_
  refine Z_sld hk hX hbl hbA hLn (by omega) (by omega) dL_law_1030 (fun v1030 e1030 u1030 w1030 => ?_)
  refine Z_LVi hk (c_X9_served κ.2.1 δ ad _ hA v1025 v1030 (by first | omega | assumption) (by first | omega | assumption) (by first | omega | assumption)) ov_X9_served ml_L_119 dL_law_1031 rfl ⟨by decide, by decide⟩ ob_48.1 (by decide) (by decide) rfl (Nat.le_of_ble_eq_true rfl) ⟨by decide, by decide⟩ (fun r1031 m1031 p1031 => ?_)
  obtain ⟨rfl, p1031⟩ := p1031
  refine Z_pop1 hk rfl dL_law_1034 ?_
  refine Z_goto hk (tgt := 1084) dL_law_1035 (by decide) ?_
  exact J ad M hA h hr
set_option maxRecDepth 10000 in
set_option maxHeartbeats 4000000 in
theorem law_1038 {κ : Kp} {δ : Dp} {Q : State → Prop} (hk : okK κ δ cL_law R_law 4 ret room_1) (hz : NS δ) {ad : Nat → Nat} {M : Mem} (hA : okA δ ad) (h : Inv M) (hr : REL M) {b Ln : Nat} {xs : Nat → Int32} (hX : va_X b Ln xs κ.2.2.2.2.1 κ.2.2.2.2.1.heap) (hbl : b < κ.2.2.2.2.1.heap.size) (hbA : b < δ.2.2.1) (hLn : Ln ≤ 3072) {i : Int} (hi : 0 ≤ i ∧ i + 6 ≤ Ln) (J : ∀ (ad : Nat → Nat) (M : Mem), okA δ ad → Inv M → REL M → Zj κ δ ad rs Q 4 (121, 121, 16318) 1084 [some (.ref b), some (.ref (ad 0)), some (.ref (ad 48)), some (iv i)] [] M) : Zj κ δ ad rs Q 4 (121, 121, 16318) 1038 [some (.ref b), some (.ref (ad 0)), some (.ref (ad 48)), some (iv i)] [] M := by
  obtain ⟨⟨a1, a2, a3, a4, a5, a6, a7, a8, a9, a10, a11, a12, a13, a14⟩, ⟨b1, b2, b3, b4, b5, b6, b7, b8, b9, b10⟩⟩ := id h
  refine Z_aload1 hk dL_law_1038 ?_
  refine Z_aload0 hk dL_law_1039 ?_
  refine Z_iload3 hk dL_law_1040 ?_
  refine Z_iconst hk dL_law_1041 ?_
  refine Z_iadd hk dL_law_1042 ?_
  refine Z_sld hk hX hbl hbA hLn (by omega) (by omega) dL_law_1043 (fun v1043 e1043 u1043 w1043 => ?_)
  refine Z_LVi hk (c_X8_serves_f κ.2.1 δ ad _ hA v1043 (by first | omega | assumption) (by first | omega | assumption) (by first | omega | assumption) (by first | omega | assumption)) ov_X8_serves ml_L_120 dL_law_1044 rfl ⟨by decide, by decide⟩ ob_0.1 (by decide) (by decide) rfl (Nat.le_of_ble_eq_true rfl) ⟨by decide, by decide⟩ (fun r1044 m1044 p1044 => ?_)
  obtain ⟨p1044, f1044_0, f1044_1, f1044_2, f1044_3, f1044_4⟩ := p1044
  replace h : Inv m1044 := by
    refine ⟨⟨?_, ?_, ?_, ?_, ?_, ?_, ?_, ?_, ?_, ?_, ?_, ?_, ?_, ?_⟩, h.2.of (fun c hc => by apply f1044_0 <;> omega)⟩ <;> (try simp only [f1044_0, f1044_1, and_true, true_and, or_true, true_or, implies_true, upn, reduceIte, Nat.reduceEqDiff, ne_eq, not_false_eq_true, upc]) <;> first | omega | assumption | exact f1044_2 a13 | exact f1044_3 a13 | exact f1044_4 a13 | exact f1044_2 a14 | exact f1044_3 a14 | exact f1044_4 a14
  obtain ⟨⟨a1, a2, a3, a4, a5, a6, a7, a8, a9, a10, a11, a12, a13, a14⟩, ⟨b1, b2, b3, b4, b5, b6, b7, b8, b9, b10⟩⟩ := id h
  refine Z_aload2 hk dL_law_1047 ?_
  refine Z_aload0 hk dL_law_1048 ?_
  refine Z_iload3 hk dL_law_1049 ?_
  refine Z_iconst hk dL_law_1050 ?_
  refine Z_iadd hk dL_law_1051 ?_
  refine Z_sld hk hX hbl hbA hLn (by omega) (by omega) dL_law_1052 (fun v1052 e1052 u1052 w1052 => ?_)
  refine Z_LVi hk (c_X9_serves_f κ.2.1 δ ad _ hA v1052 (by first | omega | assumption) (by first | omega | assumption) (by first | omega | assumption)) ov_X9_serves ml_L_123 dL_law_1053 rfl ⟨by decide, by decide⟩ ob_48.1 (by decide) (by decide) rfl (Nat.le_of_ble_eq_true rfl) ⟨by decide, by decide⟩ (fun r1053 m1053 p1053 => ?_)
  obtain ⟨p1053, f1053_0, f1053_1, f1053_2, f1053_3⟩ := p1053
  replace h : Inv m1053 := by
    refine ⟨h.1.of (fun c hc => by apply f1053_0 <;> omega), ⟨?_, ?_, ?_, ?_, ?_, ?_, ?_, ?_, ?_, ?_⟩⟩ <;> (first | (exact NK.same b4 (by simp only [f1053_0, f1053_1, and_true, true_and, or_true, true_or, implies_true, upn, reduceIte, Nat.reduceEqDiff, ne_eq, not_false_eq_true, upc]) (by simp only [f1053_0, f1053_1, and_true, true_and, or_true, true_or, implies_true, upn, reduceIte, Nat.reduceEqDiff, ne_eq, not_false_eq_true, upc]) (by simp only [f1053_0, f1053_1, and_true, true_and, or_true, true_or, implies_true, upn, reduceIte, Nat.reduceEqDiff, ne_eq, not_false_eq_true, upc])) | (fail) | ((try simp only [f1053_0, f1053_1, and_true, true_and, or_true, true_or, implies_true, upn, reduceIte, Nat.reduceEqDiff, ne_eq, not_false_eq_true, upc]) <;> first | omega | assumption))
  rw [show v1052 = v1043 from by rw [e1052, e1043]] at f1053_3
  have hsv := REL_serves hr f1044_4 (by apply f1044_0 <;> decide) (by apply f1044_0 <;> decide) f1053_3 (by apply f1053_0 <;> decide) (by apply f1053_0 <;> decide) (by apply f1053_0 <;> decide) (by apply f1053_0 <;> decide)
  replace hr : REL m1053 := hsv.1
  obtain ⟨⟨a1, a2, a3, a4, a5, a6, a7, a8, a9, a10, a11, a12, a13, a14⟩, ⟨b1, b2, b3, b4, b5, b6, b7, b8, b9, b10⟩⟩ := id h
  have ecm := hsv.2.1
  have gcm := hsv.2.2
  refine Z_icmp_eq hk (tgt := 1084) dL_law_1056 (by decide) (by omega) (by omega) (by omega) (by omega) (fun hcm => ?_) (fun hcm => ?_)
  · exact J ad m1053 hA h hr
  · exact absurd ecm hcm
set_option maxRecDepth 10000 in
set_option maxHeartbeats 4000000 in
theorem law_1061 {κ : Kp} {δ : Dp} {Q : State → Prop} (hk : okK κ δ cL_law R_law 4 ret room_1) (hz : NS δ) {ad : Nat → Nat} {M : Mem} (hA : okA δ ad) (h : Inv M) (hr : REL M) {b Ln : Nat} {xs : Nat → Int32} (hX : va_X b Ln xs κ.2.2.2.2.1 κ.2.2.2.2.1.heap) (hbl : b < κ.2.2.2.2.1.heap.size) (hbA : b < δ.2.2.1) (hLn : Ln ≤ 3072) {i : Int} (hi : 0 ≤ i ∧ i + 6 ≤ Ln) (J : ∀ (ad : Nat → Nat) (M : Mem), okA δ ad → Inv M → REL M → Zj κ δ ad rs Q 4 (121, 121, 16318) 1084 [some (.ref b), some (.ref (ad 0)), some (.ref (ad 48)), some (iv i)] [] M) : Zj κ δ ad rs Q 4 (121, 121, 16318) 1061 [some (.ref b), some (.ref (ad 0)), some (.ref (ad 48)), some (iv i)] [] M := by
  obtain ⟨⟨a1, a2, a3, a4, a5, a6, a7, a8, a9, a10, a11, a12, a13, a14⟩, ⟨b1, b2, b3, b4, b5, b6, b7, b8, b9, b10⟩⟩ := id h
  refine Z_aload1 hk dL_law_1061 ?_
  refine Z_aload0 hk dL_law_1062 ?_
  refine Z_iload3 hk dL_law_1063 ?_
  refine Z_iconst hk dL_law_1064 ?_
  refine Z_iadd hk dL_law_1065 ?_
  refine Z_sld hk hX hbl hbA hLn (by omega) (by omega) dL_law_1066 (fun v1066 e1066 u1066 w1066 => ?_)
  refine Z_LVi hk (c_X8_all κ.2.1 δ ad _ hA v1066 (by first | omega | assumption) (by first | omega | assumption) (by first | omega | assumption) (by first | omega | assumption)) ov_X8_all ml_L_124 dL_law_1067 rfl ⟨by decide, by decide⟩ ob_0.1 (by decide) (by decide) rfl (Nat.le_of_ble_eq_true rfl) ⟨by decide, by decide⟩ (fun r1067 m1067 p1067 => ?_)
  obtain ⟨rfl, p1067⟩ := p1067
  refine Z_pop1 hk rfl dL_law_1070 ?_
  refine Z_aload2 hk dL_law_1071 ?_
  refine Z_aload0 hk dL_law_1072 ?_
  refine Z_iload3 hk dL_law_1073 ?_
  refine Z_iconst hk dL_law_1074 ?_
  refine Z_iadd hk dL_law_1075 ?_
  refine Z_sld hk hX hbl hbA hLn (by omega) (by omega) dL_law_1076 (fun v1076 e1076 u1076 w1076 => ?_)
  refine Z_LVi hk (c_X9_all κ.2.1 δ ad _ hA v1076 (by first | omega | assumption) (by first | omega | assumption)) ov_X9_all ml_L_127 dL_law_1077 rfl ⟨by decide, by decide⟩ ob_48.1 (by decide) (by decide) rfl (Nat.le_of_ble_eq_true rfl) ⟨by decide, by decide⟩ (fun r1077 m1077 p1077 => ?_)
  obtain ⟨rfl, p1077⟩ := p1077
  refine Z_pop1 hk rfl dL_law_1080 ?_
  refine Z_goto hk (tgt := 1084) dL_law_1081 (by decide) ?_
  exact J ad M hA h hr
