/-! the law, call by call (printed by wip/whole/m15.py) -/
set_option maxHeartbeats 4000000 in
set_option maxRecDepth 100000 in
/-- channels -/
theorem lw_k0 {p : Program} {e : Env} {s : State} {m : MethodId} {below : List Frame} {meth : Method} {c : Code} (l : Launch) {b L : Nat} {xs : Nat → Int32} {G : va_G} {t : gT} {b0 d i : Nat} (C0 : LC p s m c b L xs G t b0 d) (hi : i + 5 ≤ L) {z : Nat → Int32} {gr : Nat → Nat} {sl bc : Nat} {bk : Nat → Nat → Int32} {kp : Nat → Bool} {im : Nat → Nat → Int32} {H : Heap} {locs : List Loc} (h0 : LI s G t b0 d (z, gr, sl, bc, bk, kp, im) H locs) (K : LK p l e s m below meth c b G t b0 d i) {ls : Array Slot} (hl : lv_has ls 4 [(0, .ref b), (1, .ref b0), (2, .ref d), (3, .int (nI i))]) : LW p l e s m below meth c b H locs ls 136 := by
  obtain ⟨hx, hb, hml, hown, hts, hX, hbl, hK, hb0, hd, hL⟩ := C0
  obtain ⟨hPX, hPM, hS2, hS, hZ⟩ := h0
  obtain ⟨⟨hz, hg, hg2, hsl, hbc, hwb, hwi⟩, hcn⟩ := id hS2
  refine lv_aload_n hx hb dL_law_136 rfl (lv_at hl 1 rfl) ?_
  refine lv_aload_n hx hb dL_law_137 rfl (lv_at hl 0 rfl) ?_
  refine lv_iload_n hx hb dL_law_138 rfl (lv_at hl 3 rfl) ?_
  refine lv_iconst (v := nI 1) hx hb dL_law_139 (by decide) ?_
  refine r_iaddN hx hb dL_law_140 ?_
  refine r_sld hx hb hX hbl hS (i + 1) (by omega) hL dL_law_141 ?_
  refine r_mVi (av := [.int (xs (i + 1))]) (c_X3_channels l G t b0 z gr sl bc bk kp im hz  (xs (i + 1))) ⟨hx, hb, hml, hown, hts⟩ (cwV 1 hts gL_law_X3_channels rfl rfl rfl (by decide +kernel) ⟨Nat.le_of_ble_eq_true rfl, Nat.le_of_ble_eq_true rfl⟩) mv_K ⟨hK, hPX⟩ (at_recv hK (PX_o hPX) rfl) rfl hl (Nat.le_of_ble_eq_true rfl) ⟨Nat.le_refl _, Nat.le_refl _⟩ rfl dL_law_142 hS (fun q h => Nat.le_trans hb0 h.1) (fun r1 H locs hP hz9 hk hS => ?_)
  obtain ⟨e1, hPX⟩ := hP
  have hPM := PM_keptA hPM hk (fun q h1 h2 h3 => by have h4 := h3.2; omega)
  have hZ := ZS_kept hZ (fun q h1 h2 => hk q h1 (fun h3 => h2 (Nat.le_trans hb0 h3.1)))
  refine r_top (y := rChannels (xs (i + 1))) e1 ?_
  refine lv_aload_n hx hb dL_law_145 rfl (lv_at hl 2 rfl) ?_
  refine lv_aload_n hx hb dL_law_146 rfl (lv_at hl 0 rfl) ?_
  refine lv_iload_n hx hb dL_law_147 rfl (lv_at hl 3 rfl) ?_
  refine lv_iconst (v := nI 1) hx hb dL_law_148 (by decide) ?_
  refine r_iaddN hx hb dL_law_149 ?_
  refine r_sld hx hb hX hbl hS (i + 1) (by omega) hL dL_law_150 ?_
  obtain ⟨fs4, hM0⟩ := PM_o hPM
  refine r_mVi (av := [.int (xs (i + 1))]) (c_X4_channels l G t d z gr sl bc bk kp im hz (xs (i + 1))) ⟨hx, hb, hml, hown, hts⟩ (cwV 1 hts gL_law_X4_channels rfl rfl rfl (by decide +kernel) ⟨Nat.le_of_ble_eq_true rfl, Nat.le_of_ble_eq_true rfl⟩) mv_K ⟨hK, hPM⟩ (at_recv hK hM0 rfl) rfl hl (Nat.le_of_ble_eq_true rfl) ⟨Nat.le_refl _, Nat.le_refl _⟩ rfl dL_law_151 hS (fun q h => by have h1 := h.1; show s.heap.size ≤ q; omega) (fun r2 H locs hP hz9 hk hS => ?_)
  obtain ⟨e2, hPM⟩ := hP
  have hPX := PX_keptA hPX hk (fun q h1 h2 h3 => by have h4 := h3.1; omega)
  have hZ := ZS_kept hZ (fun q h1 h2 => hk q h1 (fun h3 => h2 (by have h4 := h3.1; show s.heap.size ≤ q; omega)))
  refine r_top (y := rChannels (xs (i + 1))) e2 ?_
  refine lv_icmp_eq (tgt := 832) hx hb dL_law_154 (by decide) (fun _ => ?_) (fun c9 => absurd rfl c9)
  exact K _ _ _ _ ⟨hPX, hPM, S2_channels hS2, hS, hZ⟩ hl

set_option maxHeartbeats 4000000 in
set_option maxRecDepth 100000 in
/-- user -/
theorem lw_k1 {p : Program} {e : Env} {s : State} {m : MethodId} {below : List Frame} {meth : Method} {c : Code} (l : Launch) {b L : Nat} {xs : Nat → Int32} {G : va_G} {t : gT} {b0 d i : Nat} (C0 : LC p s m c b L xs G t b0 d) (hi : i + 5 ≤ L) {z : Nat → Int32} {gr : Nat → Nat} {sl bc : Nat} {bk : Nat → Nat → Int32} {kp : Nat → Bool} {im : Nat → Nat → Int32} {H : Heap} {locs : List Loc} (h0 : LI s G t b0 d (z, gr, sl, bc, bk, kp, im) H locs) (K : LK p l e s m below meth c b G t b0 d i) {ls : Array Slot} (hl : lv_has ls 4 [(0, .ref b), (1, .ref b0), (2, .ref d), (3, .int (nI i))]) : LW p l e s m below meth c b H locs ls 159 := by
  obtain ⟨hx, hb, hml, hown, hts, hX, hbl, hK, hb0, hd, hL⟩ := C0
  obtain ⟨hPX, hPM, hS2, hS, hZ⟩ := h0
  obtain ⟨⟨hz, hg, hg2, hsl, hbc, hwb, hwi⟩, hcn⟩ := id hS2
  refine lv_aload_n hx hb dL_law_159 rfl (lv_at hl 1 rfl) ?_
  refine lv_aload_n hx hb dL_law_160 rfl (lv_at hl 0 rfl) ?_
  refine lv_iload_n hx hb dL_law_161 rfl (lv_at hl 3 rfl) ?_
  refine lv_iconst (v := nI 1) hx hb dL_law_162 (by decide) ?_
  refine r_iaddN hx hb dL_law_163 ?_
  refine r_sld hx hb hX hbl hS (i + 1) (by omega) hL dL_law_164 ?_
  refine lv_aload_n hx hb dL_law_165 rfl (lv_at hl 0 rfl) ?_
  refine lv_iload_n hx hb dL_law_166 rfl (lv_at hl 3 rfl) ?_
  refine lv_iconst (v := nI 2) hx hb dL_law_167 (by decide) ?_
  refine r_iaddN hx hb dL_law_168 ?_
  refine r_sld hx hb hX hbl hS (i + 2) (by omega) hL dL_law_169 ?_
  refine lv_aload_n hx hb dL_law_170 rfl (lv_at hl 0 rfl) ?_
  refine lv_iload_n hx hb dL_law_171 rfl (lv_at hl 3 rfl) ?_
  refine lv_iconst (v := nI 3) hx hb dL_law_172 (by decide) ?_
  refine r_iaddN hx hb dL_law_173 ?_
  refine r_sld hx hb hX hbl hS (i + 3) (by omega) hL dL_law_174 ?_
  refine lv_aload_n hx hb dL_law_175 rfl (lv_at hl 0 rfl) ?_
  refine lv_iload_n hx hb dL_law_176 rfl (lv_at hl 3 rfl) ?_
  refine lv_iconst (v := nI 4) hx hb dL_law_177 (by decide) ?_
  refine r_iaddN hx hb dL_law_178 ?_
  refine r_sld hx hb hX hbl hS (i + 4) (by omega) hL dL_law_179 ?_
  refine r_mVi (av := [.int (xs (i + 1)), .int (xs (i + 2)), .int (xs (i + 3)), .int (xs (i + 4))]) (c_X3_user l G t b0 z gr sl bc bk kp im hz hbc s.heap.size (xs (i + 1)) (xs (i + 2)) (xs (i + 3)) (xs (i + 4))) ⟨hx, hb, hml, hown, hts⟩ (cwV 4 hts gL_law_X3_user rfl rfl rfl (by decide +kernel) ⟨Nat.le_of_ble_eq_true rfl, Nat.le_of_ble_eq_true rfl⟩) mv_KZ ⟨hK, hZ, hPX⟩ (at_recv hK (PX_o hPX) rfl) rfl hl (Nat.le_of_ble_eq_true rfl) ⟨Nat.le_refl _, Nat.le_refl _⟩ rfl dL_law_180 hS (fun q h => Nat.le_trans hb0 h.1) (fun r1 H locs hP hz9 hk hS => ?_)
  obtain ⟨e1, hPX⟩ := hP
  have hPM := PM_keptA hPM hk (fun q h1 h2 h3 => by have h4 := h3.2; omega)
  have hZ := ZS_kept hZ (fun q h1 h2 => hk q h1 (fun h3 => h2 (Nat.le_trans hb0 h3.1)))
  refine r_top (y := rUser (xs (i + 1)) (xs (i + 2)) (xs (i + 3)) (xs (i + 4)) z) e1 ?_
  refine lv_aload_n hx hb dL_law_183 rfl (lv_at hl 2 rfl) ?_
  refine lv_aload_n hx hb dL_law_184 rfl (lv_at hl 0 rfl) ?_
  refine lv_iload_n hx hb dL_law_185 rfl (lv_at hl 3 rfl) ?_
  refine lv_iconst (v := nI 1) hx hb dL_law_186 (by decide) ?_
  refine r_iaddN hx hb dL_law_187 ?_
  refine r_sld hx hb hX hbl hS (i + 1) (by omega) hL dL_law_188 ?_
  refine lv_aload_n hx hb dL_law_189 rfl (lv_at hl 0 rfl) ?_
  refine lv_iload_n hx hb dL_law_190 rfl (lv_at hl 3 rfl) ?_
  refine lv_iconst (v := nI 2) hx hb dL_law_191 (by decide) ?_
  refine r_iaddN hx hb dL_law_192 ?_
  refine r_sld hx hb hX hbl hS (i + 2) (by omega) hL dL_law_193 ?_
  refine lv_aload_n hx hb dL_law_194 rfl (lv_at hl 0 rfl) ?_
  refine lv_iload_n hx hb dL_law_195 rfl (lv_at hl 3 rfl) ?_
  refine lv_iconst (v := nI 3) hx hb dL_law_196 (by decide) ?_
  refine r_iaddN hx hb dL_law_197 ?_
  refine r_sld hx hb hX hbl hS (i + 3) (by omega) hL dL_law_198 ?_
  refine lv_aload_n hx hb dL_law_199 rfl (lv_at hl 0 rfl) ?_
  refine lv_iload_n hx hb dL_law_200 rfl (lv_at hl 3 rfl) ?_
  refine lv_iconst (v := nI 4) hx hb dL_law_201 (by decide) ?_
  refine r_iaddN hx hb dL_law_202 ?_
  refine r_sld hx hb hX hbl hS (i + 4) (by omega) hL dL_law_203 ?_
  obtain ⟨fs4, hM0⟩ := PM_o hPM
  refine r_mVi (av := [.int (xs (i + 1)), .int (xs (i + 2)), .int (xs (i + 3)), .int (xs (i + 4))]) (c_X4_user l G t d z gr sl bc bk kp im hz hbc (xs (i + 1)) (xs (i + 2)) (xs (i + 3)) (xs (i + 4))) ⟨hx, hb, hml, hown, hts⟩ (cwV 4 hts gL_law_X4_user rfl rfl rfl (by decide +kernel) ⟨Nat.le_of_ble_eq_true rfl, Nat.le_of_ble_eq_true rfl⟩) mv_K ⟨hK, hPM⟩ (at_recv hK hM0 rfl) rfl hl (Nat.le_of_ble_eq_true rfl) ⟨Nat.le_refl _, Nat.le_refl _⟩ rfl dL_law_204 hS (fun q h => by have h1 := h.1; show s.heap.size ≤ q; omega) (fun r2 H locs hP hz9 hk hS => ?_)
  obtain ⟨e2, hPM⟩ := hP
  have hPX := PX_keptA hPX hk (fun q h1 h2 h3 => by have h4 := h3.1; omega)
  have hZ := ZS_kept hZ (fun q h1 h2 => hk q h1 (fun h3 => h2 (by have h4 := h3.1; show s.heap.size ≤ q; omega)))
  refine r_top (y := rUser (xs (i + 1)) (xs (i + 2)) (xs (i + 3)) (xs (i + 4)) z) e2 ?_
  refine lv_icmp_eq (tgt := 832) hx hb dL_law_207 (by decide) (fun _ => ?_) (fun c9 => absurd rfl c9)
  exact K _ _ _ _ ⟨hPX, hPM, S2_user hS2, hS, hZ⟩ hl

set_option maxHeartbeats 4000000 in
set_option maxRecDepth 100000 in
/-- open -/
theorem lw_k2 {p : Program} {e : Env} {s : State} {m : MethodId} {below : List Frame} {meth : Method} {c : Code} (l : Launch) {b L : Nat} {xs : Nat → Int32} {G : va_G} {t : gT} {b0 d i : Nat} (C0 : LC p s m c b L xs G t b0 d) (hi : i + 5 ≤ L) {z : Nat → Int32} {gr : Nat → Nat} {sl bc : Nat} {bk : Nat → Nat → Int32} {kp : Nat → Bool} {im : Nat → Nat → Int32} {H : Heap} {locs : List Loc} (h0 : LI s G t b0 d (z, gr, sl, bc, bk, kp, im) H locs) (K : LK p l e s m below meth c b G t b0 d i) {ls : Array Slot} (hl : lv_has ls 4 [(0, .ref b), (1, .ref b0), (2, .ref d), (3, .int (nI i))]) : LW p l e s m below meth c b H locs ls 212 := by
  obtain ⟨hx, hb, hml, hown, hts, hX, hbl, hK, hb0, hd, hL⟩ := C0
  obtain ⟨hPX, hPM, hS2, hS, hZ⟩ := h0
  obtain ⟨⟨hz, hg, hg2, hsl, hbc, hwb, hwi⟩, hcn⟩ := id hS2
  refine lv_aload_n hx hb dL_law_212 rfl (lv_at hl 1 rfl) ?_
  refine lv_aload_n hx hb dL_law_213 rfl (lv_at hl 0 rfl) ?_
  refine lv_iload_n hx hb dL_law_214 rfl (lv_at hl 3 rfl) ?_
  refine lv_iconst (v := nI 1) hx hb dL_law_215 (by decide) ?_
  refine r_iaddN hx hb dL_law_216 ?_
  refine r_sld hx hb hX hbl hS (i + 1) (by omega) hL dL_law_217 ?_
  refine lv_aload_n hx hb dL_law_218 rfl (lv_at hl 0 rfl) ?_
  refine lv_iload_n hx hb dL_law_219 rfl (lv_at hl 3 rfl) ?_
  refine lv_iconst (v := nI 2) hx hb dL_law_220 (by decide) ?_
  refine r_iaddN hx hb dL_law_221 ?_
  refine r_sld hx hb hX hbl hS (i + 2) (by omega) hL dL_law_222 ?_
  refine r_mVi (av := [.int (xs (i + 1)), .int (xs (i + 2))]) (c_X3_open l G t b0 z gr sl bc bk kp im hz hbc (xs (i + 1)) (xs (i + 2))) ⟨hx, hb, hml, hown, hts⟩ (cwV 2 hts gL_law_X3_open rfl rfl rfl (by decide +kernel) ⟨Nat.le_of_ble_eq_true rfl, Nat.le_of_ble_eq_true rfl⟩) mv_K ⟨hK, hPX⟩ (at_recv hK (PX_o hPX) rfl) rfl hl (Nat.le_of_ble_eq_true rfl) ⟨Nat.le_refl _, Nat.le_refl _⟩ rfl dL_law_223 hS (fun q h => Nat.le_trans hb0 h.1) (fun r1 H locs hP hz9 hk hS => ?_)
  obtain ⟨e1, hPX⟩ := hP
  have hPM := PM_keptA hPM hk (fun q h1 h2 h3 => by have h4 := h3.2; omega)
  have hZ := ZS_kept hZ (fun q h1 h2 => hk q h1 (fun h3 => h2 (Nat.le_trans hb0 h3.1)))
  refine r_top (y := rOpen (xs (i + 1)) (xs (i + 2)) z) e1 ?_
  refine lv_aload_n hx hb dL_law_226 rfl (lv_at hl 2 rfl) ?_
  refine lv_aload_n hx hb dL_law_227 rfl (lv_at hl 0 rfl) ?_
  refine lv_iload_n hx hb dL_law_228 rfl (lv_at hl 3 rfl) ?_
  refine lv_iconst (v := nI 1) hx hb dL_law_229 (by decide) ?_
  refine r_iaddN hx hb dL_law_230 ?_
  refine r_sld hx hb hX hbl hS (i + 1) (by omega) hL dL_law_231 ?_
  refine lv_aload_n hx hb dL_law_232 rfl (lv_at hl 0 rfl) ?_
  refine lv_iload_n hx hb dL_law_233 rfl (lv_at hl 3 rfl) ?_
  refine lv_iconst (v := nI 2) hx hb dL_law_234 (by decide) ?_
  refine r_iaddN hx hb dL_law_235 ?_
  refine r_sld hx hb hX hbl hS (i + 2) (by omega) hL dL_law_236 ?_
  obtain ⟨fs4, hM0⟩ := PM_o hPM
  refine r_mVi (av := [.int (xs (i + 1)), .int (xs (i + 2))]) (c_X4_open l G t d z gr sl bc bk kp im hz hbc (xs (i + 1)) (xs (i + 2))) ⟨hx, hb, hml, hown, hts⟩ (cwV 2 hts gL_law_X4_open rfl rfl rfl (by decide +kernel) ⟨Nat.le_of_ble_eq_true rfl, Nat.le_of_ble_eq_true rfl⟩) mv_K ⟨hK, hPM⟩ (at_recv hK hM0 rfl) rfl hl (Nat.le_of_ble_eq_true rfl) ⟨Nat.le_refl _, Nat.le_refl _⟩ rfl dL_law_237 hS (fun q h => by have h1 := h.1; show s.heap.size ≤ q; omega) (fun r2 H locs hP hz9 hk hS => ?_)
  obtain ⟨e2, hPM⟩ := hP
  have hPX := PX_keptA hPX hk (fun q h1 h2 h3 => by have h4 := h3.1; omega)
  have hZ := ZS_kept hZ (fun q h1 h2 => hk q h1 (fun h3 => h2 (by have h4 := h3.1; show s.heap.size ≤ q; omega)))
  refine r_top (y := rOpen (xs (i + 1)) (xs (i + 2)) z) e2 ?_
  refine lv_icmp_eq (tgt := 832) hx hb dL_law_240 (by decide) (fun _ => ?_) (fun c9 => absurd rfl c9)
  exact K _ _ _ _ ⟨hPX, hPM, S2_open hS2, hS, hZ⟩ hl

set_option maxHeartbeats 4000000 in
set_option maxRecDepth 100000 in
/-- set -/
theorem lw_k3 {p : Program} {e : Env} {s : State} {m : MethodId} {below : List Frame} {meth : Method} {c : Code} (l : Launch) {b L : Nat} {xs : Nat → Int32} {G : va_G} {t : gT} {b0 d i : Nat} (C0 : LC p s m c b L xs G t b0 d) (hi : i + 5 ≤ L) {z : Nat → Int32} {gr : Nat → Nat} {sl bc : Nat} {bk : Nat → Nat → Int32} {kp : Nat → Bool} {im : Nat → Nat → Int32} {H : Heap} {locs : List Loc} (h0 : LI s G t b0 d (z, gr, sl, bc, bk, kp, im) H locs) (K : LK p l e s m below meth c b G t b0 d i) {ls : Array Slot} (hl : lv_has ls 4 [(0, .ref b), (1, .ref b0), (2, .ref d), (3, .int (nI i))]) : LW p l e s m below meth c b H locs ls 245 := by
  obtain ⟨hx, hb, hml, hown, hts, hX, hbl, hK, hb0, hd, hL⟩ := C0
  obtain ⟨hPX, hPM, hS2, hS, hZ⟩ := h0
  obtain ⟨⟨hz, hg, hg2, hsl, hbc, hwb, hwi⟩, hcn⟩ := id hS2
  refine lv_aload_n hx hb dL_law_245 rfl (lv_at hl 1 rfl) ?_
  refine lv_aload_n hx hb dL_law_246 rfl (lv_at hl 0 rfl) ?_
  refine lv_iload_n hx hb dL_law_247 rfl (lv_at hl 3 rfl) ?_
  refine lv_iconst (v := nI 1) hx hb dL_law_248 (by decide) ?_
  refine r_iaddN hx hb dL_law_249 ?_
  refine r_sld hx hb hX hbl hS (i + 1) (by omega) hL dL_law_250 ?_
  refine lv_aload_n hx hb dL_law_251 rfl (lv_at hl 0 rfl) ?_
  refine lv_iload_n hx hb dL_law_252 rfl (lv_at hl 3 rfl) ?_
  refine lv_iconst (v := nI 2) hx hb dL_law_253 (by decide) ?_
  refine r_iaddN hx hb dL_law_254 ?_
  refine r_sld hx hb hX hbl hS (i + 2) (by omega) hL dL_law_255 ?_
  refine lv_aload_n hx hb dL_law_256 rfl (lv_at hl 0 rfl) ?_
  refine lv_iload_n hx hb dL_law_257 rfl (lv_at hl 3 rfl) ?_
  refine lv_iconst (v := nI 3) hx hb dL_law_258 (by decide) ?_
  refine r_iaddN hx hb dL_law_259 ?_
  refine r_sld hx hb hX hbl hS (i + 3) (by omega) hL dL_law_260 ?_
  refine r_mVi (av := [.int (xs (i + 1)), .int (xs (i + 2)), .int (xs (i + 3))]) (c_X3_set l G t b0 z gr sl bc bk kp im hz hbc s.heap.size (xs (i + 1)) (xs (i + 2)) (xs (i + 3))) ⟨hx, hb, hml, hown, hts⟩ (cwV 3 hts gL_law_X3_set rfl rfl rfl (by decide +kernel) ⟨Nat.le_of_ble_eq_true rfl, Nat.le_of_ble_eq_true rfl⟩) mv_KZ ⟨hK, hZ, hPX⟩ (at_recv hK (PX_o hPX) rfl) rfl hl (Nat.le_of_ble_eq_true rfl) ⟨Nat.le_refl _, Nat.le_refl _⟩ rfl dL_law_261 hS (fun q h => Nat.le_trans hb0 h.1) (fun r1 H locs hP hz9 hk hS => ?_)
  obtain ⟨e1, hPX⟩ := hP
  have hPM := PM_keptA hPM hk (fun q h1 h2 h3 => by have h4 := h3.2; omega)
  have hZ := ZS_kept hZ (fun q h1 h2 => hk q h1 (fun h3 => h2 (Nat.le_trans hb0 h3.1)))
  refine r_top (y := rSet (xs (i + 1)) (xs (i + 2)) (xs (i + 3)) z) e1 ?_
  refine lv_aload_n hx hb dL_law_264 rfl (lv_at hl 2 rfl) ?_
  refine lv_aload_n hx hb dL_law_265 rfl (lv_at hl 0 rfl) ?_
  refine lv_iload_n hx hb dL_law_266 rfl (lv_at hl 3 rfl) ?_
  refine lv_iconst (v := nI 1) hx hb dL_law_267 (by decide) ?_
  refine r_iaddN hx hb dL_law_268 ?_
  refine r_sld hx hb hX hbl hS (i + 1) (by omega) hL dL_law_269 ?_
  refine lv_aload_n hx hb dL_law_270 rfl (lv_at hl 0 rfl) ?_
  refine lv_iload_n hx hb dL_law_271 rfl (lv_at hl 3 rfl) ?_
  refine lv_iconst (v := nI 2) hx hb dL_law_272 (by decide) ?_
  refine r_iaddN hx hb dL_law_273 ?_
  refine r_sld hx hb hX hbl hS (i + 2) (by omega) hL dL_law_274 ?_
  refine lv_aload_n hx hb dL_law_275 rfl (lv_at hl 0 rfl) ?_
  refine lv_iload_n hx hb dL_law_276 rfl (lv_at hl 3 rfl) ?_
  refine lv_iconst (v := nI 3) hx hb dL_law_277 (by decide) ?_
  refine r_iaddN hx hb dL_law_278 ?_
  refine r_sld hx hb hX hbl hS (i + 3) (by omega) hL dL_law_279 ?_
  obtain ⟨fs4, hM0⟩ := PM_o hPM
  refine r_mVi (av := [.int (xs (i + 1)), .int (xs (i + 2)), .int (xs (i + 3))]) (c_X4_set l G t d z gr sl bc bk kp im hz hbc (xs (i + 1)) (xs (i + 2)) (xs (i + 3))) ⟨hx, hb, hml, hown, hts⟩ (cwV 3 hts gL_law_X4_set rfl rfl rfl (by decide +kernel) ⟨Nat.le_of_ble_eq_true rfl, Nat.le_of_ble_eq_true rfl⟩) mv_K ⟨hK, hPM⟩ (at_recv hK hM0 rfl) rfl hl (Nat.le_of_ble_eq_true rfl) ⟨Nat.le_refl _, Nat.le_refl _⟩ rfl dL_law_280 hS (fun q h => by have h1 := h.1; show s.heap.size ≤ q; omega) (fun r2 H locs hP hz9 hk hS => ?_)
  obtain ⟨e2, hPM⟩ := hP
  have hPX := PX_keptA hPX hk (fun q h1 h2 h3 => by have h4 := h3.1; omega)
  have hZ := ZS_kept hZ (fun q h1 h2 => hk q h1 (fun h3 => h2 (by have h4 := h3.1; show s.heap.size ≤ q; omega)))
  refine r_top (y := rSet (xs (i + 1)) (xs (i + 2)) (xs (i + 3)) z) e2 ?_
  refine lv_icmp_eq (tgt := 832) hx hb dL_law_283 (by decide) (fun _ => ?_) (fun c9 => absurd rfl c9)
  exact K _ _ _ _ ⟨hPX, hPM, S2_set hS2, hS, hZ⟩ hl

set_option maxHeartbeats 4000000 in
set_option maxRecDepth 100000 in
/-- shut -/
theorem lw_k4 {p : Program} {e : Env} {s : State} {m : MethodId} {below : List Frame} {meth : Method} {c : Code} (l : Launch) {b L : Nat} {xs : Nat → Int32} {G : va_G} {t : gT} {b0 d i : Nat} (C0 : LC p s m c b L xs G t b0 d) (hi : i + 5 ≤ L) {z : Nat → Int32} {gr : Nat → Nat} {sl bc : Nat} {bk : Nat → Nat → Int32} {kp : Nat → Bool} {im : Nat → Nat → Int32} {H : Heap} {locs : List Loc} (h0 : LI s G t b0 d (z, gr, sl, bc, bk, kp, im) H locs) (K : LK p l e s m below meth c b G t b0 d i) {ls : Array Slot} (hl : lv_has ls 4 [(0, .ref b), (1, .ref b0), (2, .ref d), (3, .int (nI i))]) : LW p l e s m below meth c b H locs ls 288 := by
  obtain ⟨hx, hb, hml, hown, hts, hX, hbl, hK, hb0, hd, hL⟩ := C0
  obtain ⟨hPX, hPM, hS2, hS, hZ⟩ := h0
  obtain ⟨⟨hz, hg, hg2, hsl, hbc, hwb, hwi⟩, hcn⟩ := id hS2
  refine lv_aload_n hx hb dL_law_288 rfl (lv_at hl 1 rfl) ?_
  refine lv_aload_n hx hb dL_law_289 rfl (lv_at hl 0 rfl) ?_
  refine lv_iload_n hx hb dL_law_290 rfl (lv_at hl 3 rfl) ?_
  refine lv_iconst (v := nI 1) hx hb dL_law_291 (by decide) ?_
  refine r_iaddN hx hb dL_law_292 ?_
  refine r_sld hx hb hX hbl hS (i + 1) (by omega) hL dL_law_293 ?_
  refine lv_aload_n hx hb dL_law_294 rfl (lv_at hl 0 rfl) ?_
  refine lv_iload_n hx hb dL_law_295 rfl (lv_at hl 3 rfl) ?_
  refine lv_iconst (v := nI 2) hx hb dL_law_296 (by decide) ?_
  refine r_iaddN hx hb dL_law_297 ?_
  refine r_sld hx hb hX hbl hS (i + 2) (by omega) hL dL_law_298 ?_
  refine lv_aload_n hx hb dL_law_299 rfl (lv_at hl 0 rfl) ?_
  refine lv_iload_n hx hb dL_law_300 rfl (lv_at hl 3 rfl) ?_
  refine lv_iconst (v := nI 3) hx hb dL_law_301 (by decide) ?_
  refine r_iaddN hx hb dL_law_302 ?_
  refine r_sld hx hb hX hbl hS (i + 3) (by omega) hL dL_law_303 ?_
  refine lv_aload_n hx hb dL_law_304 rfl (lv_at hl 0 rfl) ?_
  refine lv_iload_n hx hb dL_law_305 rfl (lv_at hl 3 rfl) ?_
  refine lv_iconst (v := nI 4) hx hb dL_law_306 (by decide) ?_
  refine r_iaddN hx hb dL_law_307 ?_
  refine r_sld hx hb hX hbl hS (i + 4) (by omega) hL dL_law_308 ?_
  refine r_mVi (av := [.int (xs (i + 1)), .int (xs (i + 2)), .int (xs (i + 3)), .int (xs (i + 4))]) (c_X3_shut l G t b0 z gr sl bc bk kp im hz hbc (xs (i + 1)) (xs (i + 2)) (xs (i + 3)) (xs (i + 4))) ⟨hx, hb, hml, hown, hts⟩ (cwV 4 hts gL_law_X3_shut rfl rfl rfl (by decide +kernel) ⟨Nat.le_of_ble_eq_true rfl, Nat.le_of_ble_eq_true rfl⟩) mv_K ⟨hK, hPX⟩ (at_recv hK (PX_o hPX) rfl) rfl hl (Nat.le_of_ble_eq_true rfl) ⟨Nat.le_refl _, Nat.le_refl _⟩ rfl dL_law_309 hS (fun q h => Nat.le_trans hb0 h.1) (fun r1 H locs hP hz9 hk hS => ?_)
  obtain ⟨e1, hPX⟩ := hP
  have hPM := PM_keptA hPM hk (fun q h1 h2 h3 => by have h4 := h3.2; omega)
  have hZ := ZS_kept hZ (fun q h1 h2 => hk q h1 (fun h3 => h2 (Nat.le_trans hb0 h3.1)))
  refine r_top (y := rShut (xs (i + 1)) (xs (i + 2)) (xs (i + 3)) (xs (i + 4)) z) e1 ?_
  refine lv_aload_n hx hb dL_law_312 rfl (lv_at hl 2 rfl) ?_
  refine lv_aload_n hx hb dL_law_313 rfl (lv_at hl 0 rfl) ?_
  refine lv_iload_n hx hb dL_law_314 rfl (lv_at hl 3 rfl) ?_
  refine lv_iconst (v := nI 1) hx hb dL_law_315 (by decide) ?_
  refine r_iaddN hx hb dL_law_316 ?_
  refine r_sld hx hb hX hbl hS (i + 1) (by omega) hL dL_law_317 ?_
  refine lv_aload_n hx hb dL_law_318 rfl (lv_at hl 0 rfl) ?_
  refine lv_iload_n hx hb dL_law_319 rfl (lv_at hl 3 rfl) ?_
  refine lv_iconst (v := nI 2) hx hb dL_law_320 (by decide) ?_
  refine r_iaddN hx hb dL_law_321 ?_
  refine r_sld hx hb hX hbl hS (i + 2) (by omega) hL dL_law_322 ?_
  refine lv_aload_n hx hb dL_law_323 rfl (lv_at hl 0 rfl) ?_
  refine lv_iload_n hx hb dL_law_324 rfl (lv_at hl 3 rfl) ?_
  refine lv_iconst (v := nI 3) hx hb dL_law_325 (by decide) ?_
  refine r_iaddN hx hb dL_law_326 ?_
  refine r_sld hx hb hX hbl hS (i + 3) (by omega) hL dL_law_327 ?_
  refine lv_aload_n hx hb dL_law_328 rfl (lv_at hl 0 rfl) ?_
  refine lv_iload_n hx hb dL_law_329 rfl (lv_at hl 3 rfl) ?_
  refine lv_iconst (v := nI 4) hx hb dL_law_330 (by decide) ?_
  refine r_iaddN hx hb dL_law_331 ?_
  refine r_sld hx hb hX hbl hS (i + 4) (by omega) hL dL_law_332 ?_
  obtain ⟨fs4, hM0⟩ := PM_o hPM
  refine r_mVi (av := [.int (xs (i + 1)), .int (xs (i + 2)), .int (xs (i + 3)), .int (xs (i + 4))]) (c_X4_shut l G t d z gr sl bc bk kp im hz hbc (xs (i + 1)) (xs (i + 2)) (xs (i + 3)) (xs (i + 4))) ⟨hx, hb, hml, hown, hts⟩ (cwV 4 hts gL_law_X4_shut rfl rfl rfl (by decide +kernel) ⟨Nat.le_of_ble_eq_true rfl, Nat.le_of_ble_eq_true rfl⟩) mv_K ⟨hK, hPM⟩ (at_recv hK hM0 rfl) rfl hl (Nat.le_of_ble_eq_true rfl) ⟨Nat.le_refl _, Nat.le_refl _⟩ rfl dL_law_333 hS (fun q h => by have h1 := h.1; show s.heap.size ≤ q; omega) (fun r2 H locs hP hz9 hk hS => ?_)
  obtain ⟨e2, hPM⟩ := hP
  have hPX := PX_keptA hPX hk (fun q h1 h2 h3 => by have h4 := h3.1; omega)
  have hZ := ZS_kept hZ (fun q h1 h2 => hk q h1 (fun h3 => h2 (by have h4 := h3.1; show s.heap.size ≤ q; omega)))
  refine r_top (y := rShut (xs (i + 1)) (xs (i + 2)) (xs (i + 3)) (xs (i + 4)) z) e2 ?_
  refine lv_icmp_eq (tgt := 832) hx hb dL_law_336 (by decide) (fun _ => ?_) (fun c9 => absurd rfl c9)
  exact K _ _ _ _ ⟨hPX, hPM, S2_shut hS2, hS, hZ⟩ hl

set_option maxHeartbeats 4000000 in
set_option maxRecDepth 100000 in
/-- drift -/
theorem lw_k5 {p : Program} {e : Env} {s : State} {m : MethodId} {below : List Frame} {meth : Method} {c : Code} (l : Launch) {b L : Nat} {xs : Nat → Int32} {G : va_G} {t : gT} {b0 d i : Nat} (C0 : LC p s m c b L xs G t b0 d) (hi : i + 5 ≤ L) {z : Nat → Int32} {gr : Nat → Nat} {sl bc : Nat} {bk : Nat → Nat → Int32} {kp : Nat → Bool} {im : Nat → Nat → Int32} {H : Heap} {locs : List Loc} (h0 : LI s G t b0 d (z, gr, sl, bc, bk, kp, im) H locs) (K : LK p l e s m below meth c b G t b0 d i) {ls : Array Slot} (hl : lv_has ls 4 [(0, .ref b), (1, .ref b0), (2, .ref d), (3, .int (nI i))]) : LW p l e s m below meth c b H locs ls 341 := by
  obtain ⟨hx, hb, hml, hown, hts, hX, hbl, hK, hb0, hd, hL⟩ := C0
  obtain ⟨hPX, hPM, hS2, hS, hZ⟩ := h0
  obtain ⟨⟨hz, hg, hg2, hsl, hbc, hwb, hwi⟩, hcn⟩ := id hS2
  refine lv_aload_n hx hb dL_law_341 rfl (lv_at hl 1 rfl) ?_
  refine lv_aload_n hx hb dL_law_342 rfl (lv_at hl 0 rfl) ?_
  refine lv_iload_n hx hb dL_law_343 rfl (lv_at hl 3 rfl) ?_
  refine lv_iconst (v := nI 1) hx hb dL_law_344 (by decide) ?_
  refine r_iaddN hx hb dL_law_345 ?_
  refine r_sld hx hb hX hbl hS (i + 1) (by omega) hL dL_law_346 ?_
  refine r_mVi (av := [.int (xs (i + 1))]) (c_X3_drift l G t b0 z gr sl bc bk kp im hz hbc (xs (i + 1))) ⟨hx, hb, hml, hown, hts⟩ (cwV 1 hts gL_law_X3_drift rfl rfl rfl (by decide +kernel) ⟨Nat.le_of_ble_eq_true rfl, Nat.le_of_ble_eq_true rfl⟩) mv_K ⟨hK, hPX⟩ (at_recv hK (PX_o hPX) rfl) rfl hl (Nat.le_of_ble_eq_true rfl) ⟨Nat.le_refl _, Nat.le_refl _⟩ rfl dL_law_347 hS (fun q h => Nat.le_trans hb0 h.1) (fun r1 H locs hP hz9 hk hS => ?_)
  obtain ⟨e1, hPX⟩ := hP
  have hPM := PM_keptA hPM hk (fun q h1 h2 h3 => by have h4 := h3.2; omega)
  have hZ := ZS_kept hZ (fun q h1 h2 => hk q h1 (fun h3 => h2 (Nat.le_trans hb0 h3.1)))
  refine r_top (y := rDrift (xs (i + 1)) z) e1 ?_
  refine lv_aload_n hx hb dL_law_350 rfl (lv_at hl 2 rfl) ?_
  refine lv_aload_n hx hb dL_law_351 rfl (lv_at hl 0 rfl) ?_
  refine lv_iload_n hx hb dL_law_352 rfl (lv_at hl 3 rfl) ?_
  refine lv_iconst (v := nI 1) hx hb dL_law_353 (by decide) ?_
  refine r_iaddN hx hb dL_law_354 ?_
  refine r_sld hx hb hX hbl hS (i + 1) (by omega) hL dL_law_355 ?_
  obtain ⟨fs4, hM0⟩ := PM_o hPM
  refine r_mVi (av := [.int (xs (i + 1))]) (c_X4_drift l G t d z gr sl bc bk kp im hz hbc (xs (i + 1))) ⟨hx, hb, hml, hown, hts⟩ (cwV 1 hts gL_law_X4_drift rfl rfl rfl (by decide +kernel) ⟨Nat.le_of_ble_eq_true rfl, Nat.le_of_ble_eq_true rfl⟩) mv_K ⟨hK, hPM⟩ (at_recv hK hM0 rfl) rfl hl (Nat.le_of_ble_eq_true rfl) ⟨Nat.le_refl _, Nat.le_refl _⟩ rfl dL_law_356 hS (fun q h => by have h1 := h.1; show s.heap.size ≤ q; omega) (fun r2 H locs hP hz9 hk hS => ?_)
  obtain ⟨e2, hPM⟩ := hP
  have hPX := PX_keptA hPX hk (fun q h1 h2 h3 => by have h4 := h3.1; omega)
  have hZ := ZS_kept hZ (fun q h1 h2 => hk q h1 (fun h3 => h2 (by have h4 := h3.1; show s.heap.size ≤ q; omega)))
  refine r_top (y := rDrift (xs (i + 1)) z) e2 ?_
  refine lv_icmp_eq (tgt := 832) hx hb dL_law_359 (by decide) (fun _ => ?_) (fun c9 => absurd rfl c9)
  exact K _ _ _ _ ⟨hPX, hPM, S2_drift hS2, hS, hZ⟩ hl

set_option maxHeartbeats 4000000 in
set_option maxRecDepth 100000 in
/-- undo -/
theorem lw_k6 {p : Program} {e : Env} {s : State} {m : MethodId} {below : List Frame} {meth : Method} {c : Code} (l : Launch) {b L : Nat} {xs : Nat → Int32} {G : va_G} {t : gT} {b0 d i : Nat} (C0 : LC p s m c b L xs G t b0 d) (hi : i + 5 ≤ L) {z : Nat → Int32} {gr : Nat → Nat} {sl bc : Nat} {bk : Nat → Nat → Int32} {kp : Nat → Bool} {im : Nat → Nat → Int32} {H : Heap} {locs : List Loc} (h0 : LI s G t b0 d (z, gr, sl, bc, bk, kp, im) H locs) (K : LK p l e s m below meth c b G t b0 d i) {ls : Array Slot} (hl : lv_has ls 4 [(0, .ref b), (1, .ref b0), (2, .ref d), (3, .int (nI i))]) : LW p l e s m below meth c b H locs ls 364 := by
  obtain ⟨hx, hb, hml, hown, hts, hX, hbl, hK, hb0, hd, hL⟩ := C0
  obtain ⟨hPX, hPM, hS2, hS, hZ⟩ := h0
  obtain ⟨⟨hz, hg, hg2, hsl, hbc, hwb, hwi⟩, hcn⟩ := id hS2
  refine lv_aload_n hx hb dL_law_364 rfl (lv_at hl 1 rfl) ?_
  refine r_mVi (av := []) (c_X3_undo l G t b0 z gr sl bc bk kp im hz hbc hwb ) ⟨hx, hb, hml, hown, hts⟩ (cwV 0 hts gL_law_X3_undo rfl rfl rfl (by decide +kernel) ⟨Nat.le_of_ble_eq_true rfl, Nat.le_of_ble_eq_true rfl⟩) mv_K ⟨hK, hPX⟩ (at_recv hK (PX_o hPX) rfl) rfl hl (Nat.le_of_ble_eq_true rfl) ⟨Nat.le_refl _, Nat.le_refl _⟩ rfl dL_law_365 hS (fun q h => Nat.le_trans hb0 h.1) (fun r1 H locs hP hz9 hk hS => ?_)
  obtain ⟨e1, hPX⟩ := hP
  have hPM := PM_keptA hPM hk (fun q h1 h2 h3 => by have h4 := h3.2; omega)
  have hZ := ZS_kept hZ (fun q h1 h2 => hk q h1 (fun h3 => h2 (Nat.le_trans hb0 h3.1)))
  refine r_top (y := rUndo bc) e1 ?_
  refine lv_aload_n hx hb dL_law_368 rfl (lv_at hl 2 rfl) ?_
  obtain ⟨fs4, hM0⟩ := PM_o hPM
  refine r_mVi (av := []) (c_X4_undo l G t d z gr sl bc bk kp im hz hbc hwb hcn ) ⟨hx, hb, hml, hown, hts⟩ (cwV 0 hts gL_law_X4_undo rfl rfl rfl (by decide +kernel) ⟨Nat.le_of_ble_eq_true rfl, Nat.le_of_ble_eq_true rfl⟩) mv_K ⟨hK, hPM⟩ (at_recv hK hM0 rfl) rfl hl (Nat.le_of_ble_eq_true rfl) ⟨Nat.le_refl _, Nat.le_refl _⟩ rfl dL_law_369 hS (fun q h => by have h1 := h.1; show s.heap.size ≤ q; omega) (fun r2 H locs hP hz9 hk hS => ?_)
  obtain ⟨e2, hPM⟩ := hP
  have hPX := PX_keptA hPX hk (fun q h1 h2 h3 => by have h4 := h3.1; omega)
  have hZ := ZS_kept hZ (fun q h1 h2 => hk q h1 (fun h3 => h2 (by have h4 := h3.1; show s.heap.size ≤ q; omega)))
  refine r_top (y := rUndo bc) e2 ?_
  refine lv_icmp_eq (tgt := 832) hx hb dL_law_372 (by decide) (fun _ => ?_) (fun c9 => absurd rfl c9)
  exact K _ _ _ _ ⟨hPX, hPM, S2_undo hS2, hS, hZ⟩ hl

set_option maxHeartbeats 4000000 in
set_option maxRecDepth 100000 in
/-- told -/
theorem lw_k7 {p : Program} {e : Env} {s : State} {m : MethodId} {below : List Frame} {meth : Method} {c : Code} (l : Launch) {b L : Nat} {xs : Nat → Int32} {G : va_G} {t : gT} {b0 d i : Nat} (C0 : LC p s m c b L xs G t b0 d) (hi : i + 5 ≤ L) {z : Nat → Int32} {gr : Nat → Nat} {sl bc : Nat} {bk : Nat → Nat → Int32} {kp : Nat → Bool} {im : Nat → Nat → Int32} {H : Heap} {locs : List Loc} (h0 : LI s G t b0 d (z, gr, sl, bc, bk, kp, im) H locs) (K : LK p l e s m below meth c b G t b0 d i) {ls : Array Slot} (hl : lv_has ls 4 [(0, .ref b), (1, .ref b0), (2, .ref d), (3, .int (nI i))]) : LW p l e s m below meth c b H locs ls 377 := by
  obtain ⟨hx, hb, hml, hown, hts, hX, hbl, hK, hb0, hd, hL⟩ := C0
  obtain ⟨hPX, hPM, hS2, hS, hZ⟩ := h0
  obtain ⟨⟨hz, hg, hg2, hsl, hbc, hwb, hwi⟩, hcn⟩ := id hS2
  refine lv_aload_n hx hb dL_law_377 rfl (lv_at hl 1 rfl) ?_
  refine lv_aload_n hx hb dL_law_378 rfl (lv_at hl 0 rfl) ?_
  refine lv_iload_n hx hb dL_law_379 rfl (lv_at hl 3 rfl) ?_
  refine lv_iconst (v := nI 1) hx hb dL_law_380 (by decide) ?_
  refine r_iaddN hx hb dL_law_381 ?_
  refine r_sld hx hb hX hbl hS (i + 1) (by omega) hL dL_law_382 ?_
  refine r_cV (av := [.int (xs (i + 1))]) (c_X3_told l G t b0 z gr sl bc bk kp im hz hg (xs (i + 1))) ⟨hx, hb, hml, hown, hts⟩ (cwV 1 hts gL_law_X3_told rfl rfl rfl (by decide +kernel) ⟨Nat.le_of_ble_eq_true rfl, Nat.le_of_ble_eq_true rfl⟩) mv_K ⟨hK, hPX⟩ (at_recv hK (PX_o hPX) rfl) rfl hl (Nat.le_of_ble_eq_true rfl) ⟨Nat.le_refl _, Nat.le_refl _⟩ rfl dL_law_383 (fun r1 hr1 => ?_)
  subst hr1
  refine lv_aload_n hx hb dL_law_386 rfl (lv_at hl 2 rfl) ?_
  refine lv_aload_n hx hb dL_law_387 rfl (lv_at hl 0 rfl) ?_
  refine lv_iload_n hx hb dL_law_388 rfl (lv_at hl 3 rfl) ?_
  refine lv_iconst (v := nI 1) hx hb dL_law_389 (by decide) ?_
  refine r_iaddN hx hb dL_law_390 ?_
  refine r_sld hx hb hX hbl hS (i + 1) (by omega) hL dL_law_391 ?_
  obtain ⟨fs4, hM0⟩ := PM_o hPM
  refine r_cV (av := [.int (xs (i + 1))]) (c_X4_told l G t d z gr sl bc bk kp im hz hg (xs (i + 1))) ⟨hx, hb, hml, hown, hts⟩ (cwV 1 hts gL_law_X4_told rfl rfl rfl (by decide +kernel) ⟨Nat.le_of_ble_eq_true rfl, Nat.le_of_ble_eq_true rfl⟩) mv_K ⟨hK, hPM⟩ (at_recv hK hM0 rfl) rfl hl (Nat.le_of_ble_eq_true rfl) ⟨Nat.le_refl _, Nat.le_refl _⟩ rfl dL_law_392 (fun r2 hr2 => ?_)
  subst hr2
  refine lv_icmp_eq (tgt := 832) hx hb dL_law_395 (by decide) (fun _ => ?_) (fun c9 => absurd rfl c9)
  exact K _ _ _ _ ⟨hPX, hPM, hS2, hS, hZ⟩ hl
