section LC
variable {p : Program} {l : Launch} {e : Env} {s : State} {m : MethodId} {below : List Frame} {meth : Method} {c : Code} {H : Heap} {locs : List Loc} {Q : State → Prop} {pc : Nat} {ls : Array Slot} {rest : List Value} {D : va_G} {cy : Nat → ClassId} {ad : Nat → Nat → Nat} {b L cells slots : Nat} {xs : Nat → Int32} {μ μ1 : mM}
/-- the law's frame at a call: script, class, reference, index -/
def lw_F (b : Nat) (ad : Nat → Nat → Nat) (x3 : Int32) (ls : Array Slot) : Prop := lv_has ls 4 [(0, .ref b), (1, .ref (ad 7 0)), (2, .ref (ad 8 0)), (3, .int x3)]
def lw_in (x3 : Int32) (L : Nat) : Prop := vp_in (x3 + 1) L ∧ vp_in (x3 + 2) L ∧ vp_in (x3 + 3) L
set_option maxRecDepth 20000 in
theorem lc_told {x3 : Int32} (C : lw_C p s m c b L xs ad D cy) (hF : lw_F b ad x3 ls) (hin : lw_in x3 L) (hI : Inv μ) (hP : va_P D vwCl (mm_wl ad cy μ) H) (hS : va_S (fun q => s.heap.size ≤ q) s.heap H locs) (hc1 : cells ≤ 600000) (hc2 : slots ≤ 7302250)
    (kk : ∀ (μ2 : mM) (H2 : Heap) (locs2 : List Loc), Inv μ2 → va_P D vwCl (mm_wl ad cy μ2) H2 → va_S (fun q => s.heap.size ≤ q) s.heap H2 locs2 → W p l e room_1 s m #[Value.ref b] below meth c H2 locs2 cells slots Q (F0 m 755 ls [])) : W p l e room_1 s m #[Value.ref b] below meth c H locs cells slots Q (F0 m 140 ls []) := by
  obtain ⟨r, μ1, μ2, h1, h2, h3⟩ := k_told (xs (x3 + 1).toNatClampNeg) μ hI
  refine lv_aload_n C.1 C.2.1 dL_law_140 rfl (lv_at hF 1 rfl) ?_
  refine lr_arg (jn := 1) C (lv_at hF 0 rfl) (lv_at hF 3 rfl) hS (by decide) hin.1 dL_law_141 dL_law_142 dL_law_143 dL_law_144 dL_law_145 ?_
  refine lr_call (as := [xs (x3 + 1).toNatClampNeg]) (rest := []) (w1 := 320) (w2 := 321) (w3 := 322) C (List.mem_of_getElem? (i := 0) rfl) (k_X7_told l) h1 hP hS hF.1 (Nat.le_of_ble_eq_true rfl) hc1 hc2 dL_law_146 (fun H1 locs1 hP1 hS1 => ?_)
  refine lv_aload_n C.1 C.2.1 dL_law_149 rfl (lv_at hF 2 rfl) ?_
  refine lr_arg (jn := 1) C (lv_at hF 0 rfl) (lv_at hF 3 rfl) hS1 (by decide) hin.1 dL_law_150 dL_law_151 dL_law_152 dL_law_153 dL_law_154 ?_
  refine lr_call (as := [xs (x3 + 1).toNatClampNeg]) (rest := [Value.int r]) (w1 := 734) (w2 := 735) (w3 := 736) C (List.mem_of_getElem? (i := 1) rfl) (k_X8_told l) h2 hP1 hS1 hF.1 (Nat.le_of_ble_eq_true rfl) hc1 hc2 dL_law_155 (fun H2 locs2 hP2 hS2 => ?_)
  exact lv_icmp_eq (tgt := 755) C.1 C.2.1 dL_law_158 (by decide) (fun _ => kk μ2 H2 locs2 h3 hP2 hS2) (fun hne => absurd rfl hne)
set_option maxRecDepth 20000 in
theorem lc_shaftAt {x3 : Int32} (C : lw_C p s m c b L xs ad D cy) (hF : lw_F b ad x3 ls) (hin : lw_in x3 L) (hI : Inv μ) (hP : va_P D vwCl (mm_wl ad cy μ) H) (hS : va_S (fun q => s.heap.size ≤ q) s.heap H locs) (hc1 : cells ≤ 600000) (hc2 : slots ≤ 7302250)
    (kk : ∀ (μ2 : mM) (H2 : Heap) (locs2 : List Loc), Inv μ2 → va_P D vwCl (mm_wl ad cy μ2) H2 → va_S (fun q => s.heap.size ≤ q) s.heap H2 locs2 → W p l e room_1 s m #[Value.ref b] below meth c H2 locs2 cells slots Q (F0 m 755 ls [])) : W p l e room_1 s m #[Value.ref b] below meth c H locs cells slots Q (F0 m 163 ls []) := by
  obtain ⟨r, μ1, μ2, h1, h2, h3⟩ := k_shaftAt (xs (x3 + 1).toNatClampNeg) (xs (x3 + 2).toNatClampNeg) μ hI
  refine lv_aload_n C.1 C.2.1 dL_law_163 rfl (lv_at hF 1 rfl) ?_
  refine lr_arg (jn := 1) C (lv_at hF 0 rfl) (lv_at hF 3 rfl) hS (by decide) hin.1 dL_law_164 dL_law_165 dL_law_166 dL_law_167 dL_law_168 ?_
  refine lr_arg (jn := 2) C (lv_at hF 0 rfl) (lv_at hF 3 rfl) hS (by decide) hin.2.1 dL_law_169 dL_law_170 dL_law_171 dL_law_172 dL_law_173 ?_
  refine lr_call (as := [xs (x3 + 1).toNatClampNeg, xs (x3 + 2).toNatClampNeg]) (rest := []) (w1 := 445) (w2 := 446) (w3 := 447) C (List.mem_of_getElem? (i := 2) rfl) (k_X7_shaftAt l) h1 hP hS hF.1 (Nat.le_of_ble_eq_true rfl) hc1 hc2 dL_law_174 (fun H1 locs1 hP1 hS1 => ?_)
  refine lv_aload_n C.1 C.2.1 dL_law_177 rfl (lv_at hF 2 rfl) ?_
  refine lr_arg (jn := 1) C (lv_at hF 0 rfl) (lv_at hF 3 rfl) hS1 (by decide) hin.1 dL_law_178 dL_law_179 dL_law_180 dL_law_181 dL_law_182 ?_
  refine lr_arg (jn := 2) C (lv_at hF 0 rfl) (lv_at hF 3 rfl) hS1 (by decide) hin.2.1 dL_law_183 dL_law_184 dL_law_185 dL_law_186 dL_law_187 ?_
  refine lr_call (as := [xs (x3 + 1).toNatClampNeg, xs (x3 + 2).toNatClampNeg]) (rest := [Value.int r]) (w1 := 798) (w2 := 799) (w3 := 800) C (List.mem_of_getElem? (i := 3) rfl) (k_X8_shaftAt l) h2 hP1 hS1 hF.1 (Nat.le_of_ble_eq_true rfl) hc1 hc2 dL_law_188 (fun H2 locs2 hP2 hS2 => ?_)
  exact lv_icmp_eq (tgt := 755) C.1 C.2.1 dL_law_191 (by decide) (fun _ => kk μ2 H2 locs2 h3 hP2 hS2) (fun hne => absurd rfl hne)
set_option maxRecDepth 20000 in
theorem lc_boreAt {x3 : Int32} (C : lw_C p s m c b L xs ad D cy) (hF : lw_F b ad x3 ls) (hin : lw_in x3 L) (hI : Inv μ) (hP : va_P D vwCl (mm_wl ad cy μ) H) (hS : va_S (fun q => s.heap.size ≤ q) s.heap H locs) (hc1 : cells ≤ 600000) (hc2 : slots ≤ 7302250)
    (kk : ∀ (μ2 : mM) (H2 : Heap) (locs2 : List Loc), Inv μ2 → va_P D vwCl (mm_wl ad cy μ2) H2 → va_S (fun q => s.heap.size ≤ q) s.heap H2 locs2 → W p l e room_1 s m #[Value.ref b] below meth c H2 locs2 cells slots Q (F0 m 755 ls [])) : W p l e room_1 s m #[Value.ref b] below meth c H locs cells slots Q (F0 m 196 ls []) := by
  obtain ⟨r, μ1, μ2, h1, h2, h3⟩ := k_boreAt (xs (x3 + 1).toNatClampNeg) (xs (x3 + 2).toNatClampNeg) μ hI
  refine lv_aload_n C.1 C.2.1 dL_law_196 rfl (lv_at hF 1 rfl) ?_
  refine lr_arg (jn := 1) C (lv_at hF 0 rfl) (lv_at hF 3 rfl) hS (by decide) hin.1 dL_law_197 dL_law_198 dL_law_199 dL_law_200 dL_law_201 ?_
  refine lr_arg (jn := 2) C (lv_at hF 0 rfl) (lv_at hF 3 rfl) hS (by decide) hin.2.1 dL_law_202 dL_law_203 dL_law_204 dL_law_205 dL_law_206 ?_
  refine lr_call (as := [xs (x3 + 1).toNatClampNeg, xs (x3 + 2).toNatClampNeg]) (rest := []) (w1 := 459) (w2 := 460) (w3 := 461) C (List.mem_of_getElem? (i := 4) rfl) (k_X7_boreAt l) h1 hP hS hF.1 (Nat.le_of_ble_eq_true rfl) hc1 hc2 dL_law_207 (fun H1 locs1 hP1 hS1 => ?_)
  refine lv_aload_n C.1 C.2.1 dL_law_210 rfl (lv_at hF 2 rfl) ?_
  refine lr_arg (jn := 1) C (lv_at hF 0 rfl) (lv_at hF 3 rfl) hS1 (by decide) hin.1 dL_law_211 dL_law_212 dL_law_213 dL_law_214 dL_law_215 ?_
  refine lr_arg (jn := 2) C (lv_at hF 0 rfl) (lv_at hF 3 rfl) hS1 (by decide) hin.2.1 dL_law_216 dL_law_217 dL_law_218 dL_law_219 dL_law_220 ?_
  refine lr_call (as := [xs (x3 + 1).toNatClampNeg, xs (x3 + 2).toNatClampNeg]) (rest := [Value.int r]) (w1 := 815) (w2 := 816) (w3 := 817) C (List.mem_of_getElem? (i := 5) rfl) (k_X8_boreAt l) h2 hP1 hS1 hF.1 (Nat.le_of_ble_eq_true rfl) hc1 hc2 dL_law_221 (fun H2 locs2 hP2 hS2 => ?_)
  exact lv_icmp_eq (tgt := 755) C.1 C.2.1 dL_law_224 (by decide) (fun _ => kk μ2 H2 locs2 h3 hP2 hS2) (fun hne => absurd rfl hne)
set_option maxRecDepth 20000 in
theorem lc_gradeAt {x3 : Int32} (C : lw_C p s m c b L xs ad D cy) (hF : lw_F b ad x3 ls) (hin : lw_in x3 L) (hI : Inv μ) (hP : va_P D vwCl (mm_wl ad cy μ) H) (hS : va_S (fun q => s.heap.size ≤ q) s.heap H locs) (hc1 : cells ≤ 600000) (hc2 : slots ≤ 7302250)
    (kk : ∀ (μ2 : mM) (H2 : Heap) (locs2 : List Loc), Inv μ2 → va_P D vwCl (mm_wl ad cy μ2) H2 → va_S (fun q => s.heap.size ≤ q) s.heap H2 locs2 → W p l e room_1 s m #[Value.ref b] below meth c H2 locs2 cells slots Q (F0 m 755 ls [])) : W p l e room_1 s m #[Value.ref b] below meth c H locs cells slots Q (F0 m 229 ls []) := by
  obtain ⟨r, μ1, μ2, h1, h2, h3⟩ := k_gradeAt (xs (x3 + 1).toNatClampNeg) (xs (x3 + 2).toNatClampNeg) μ hI
  refine lv_aload_n C.1 C.2.1 dL_law_229 rfl (lv_at hF 1 rfl) ?_
  refine lr_arg (jn := 1) C (lv_at hF 0 rfl) (lv_at hF 3 rfl) hS (by decide) hin.1 dL_law_230 dL_law_231 dL_law_232 dL_law_233 dL_law_234 ?_
  refine lr_arg (jn := 2) C (lv_at hF 0 rfl) (lv_at hF 3 rfl) hS (by decide) hin.2.1 dL_law_235 dL_law_236 dL_law_237 dL_law_238 dL_law_239 ?_
  refine lr_call (as := [xs (x3 + 1).toNatClampNeg, xs (x3 + 2).toNatClampNeg]) (rest := []) (w1 := 469) (w2 := 470) (w3 := 471) C (List.mem_of_getElem? (i := 6) rfl) (k_X7_gradeAt l) h1 hP hS hF.1 (Nat.le_of_ble_eq_true rfl) hc1 hc2 dL_law_240 (fun H1 locs1 hP1 hS1 => ?_)
  refine lv_aload_n C.1 C.2.1 dL_law_243 rfl (lv_at hF 2 rfl) ?_
  refine lr_arg (jn := 1) C (lv_at hF 0 rfl) (lv_at hF 3 rfl) hS1 (by decide) hin.1 dL_law_244 dL_law_245 dL_law_246 dL_law_247 dL_law_248 ?_
  refine lr_arg (jn := 2) C (lv_at hF 0 rfl) (lv_at hF 3 rfl) hS1 (by decide) hin.2.1 dL_law_249 dL_law_250 dL_law_251 dL_law_252 dL_law_253 ?_
  refine lr_call (as := [xs (x3 + 1).toNatClampNeg, xs (x3 + 2).toNatClampNeg]) (rest := [Value.int r]) (w1 := 835) (w2 := 836) (w3 := 837) C (List.mem_of_getElem? (i := 7) rfl) (k_X8_gradeAt l) h2 hP1 hS1 hF.1 (Nat.le_of_ble_eq_true rfl) hc1 hc2 dL_law_254 (fun H2 locs2 hP2 hS2 => ?_)
  exact lv_icmp_eq (tgt := 755) C.1 C.2.1 dL_law_257 (by decide) (fun _ => kk μ2 H2 locs2 h3 hP2 hS2) (fun hne => absurd rfl hne)
set_option maxRecDepth 20000 in
theorem lc_sort {x3 : Int32} (C : lw_C p s m c b L xs ad D cy) (hF : lw_F b ad x3 ls) (hin : lw_in x3 L) (hI : Inv μ) (hP : va_P D vwCl (mm_wl ad cy μ) H) (hS : va_S (fun q => s.heap.size ≤ q) s.heap H locs) (hc1 : cells ≤ 600000) (hc2 : slots ≤ 7302250)
    (kk : ∀ (μ2 : mM) (H2 : Heap) (locs2 : List Loc), Inv μ2 → va_P D vwCl (mm_wl ad cy μ2) H2 → va_S (fun q => s.heap.size ≤ q) s.heap H2 locs2 → W p l e room_1 s m #[Value.ref b] below meth c H2 locs2 cells slots Q (F0 m 755 ls [])) : W p l e room_1 s m #[Value.ref b] below meth c H locs cells slots Q (F0 m 262 ls []) := by
  obtain ⟨r, μ1, μ2, h1, h2, h3⟩ := k_sort (xs (x3 + 1).toNatClampNeg) (xs (x3 + 2).toNatClampNeg) μ hI
  refine lv_aload_n C.1 C.2.1 dL_law_262 rfl (lv_at hF 1 rfl) ?_
  refine lr_arg (jn := 1) C (lv_at hF 0 rfl) (lv_at hF 3 rfl) hS (by decide) hin.1 dL_law_263 dL_law_264 dL_law_265 dL_law_266 dL_law_267 ?_
  refine lr_arg (jn := 2) C (lv_at hF 0 rfl) (lv_at hF 3 rfl) hS (by decide) hin.2.1 dL_law_268 dL_law_269 dL_law_270 dL_law_271 dL_law_272 ?_
  refine lr_call (as := [xs (x3 + 1).toNatClampNeg, xs (x3 + 2).toNatClampNeg]) (rest := []) (w1 := 477) (w2 := 478) (w3 := 479) C (List.mem_of_getElem? (i := 8) rfl) (k_X7_sort l) h1 hP hS hF.1 (Nat.le_of_ble_eq_true rfl) hc1 hc2 dL_law_273 (fun H1 locs1 hP1 hS1 => ?_)
  refine lv_aload_n C.1 C.2.1 dL_law_276 rfl (lv_at hF 2 rfl) ?_
  refine lr_arg (jn := 1) C (lv_at hF 0 rfl) (lv_at hF 3 rfl) hS1 (by decide) hin.1 dL_law_277 dL_law_278 dL_law_279 dL_law_280 dL_law_281 ?_
  refine lr_arg (jn := 2) C (lv_at hF 0 rfl) (lv_at hF 3 rfl) hS1 (by decide) hin.2.1 dL_law_282 dL_law_283 dL_law_284 dL_law_285 dL_law_286 ?_
  refine lr_call (as := [xs (x3 + 1).toNatClampNeg, xs (x3 + 2).toNatClampNeg]) (rest := [Value.int r]) (w1 := 847) (w2 := 848) (w3 := 849) C (List.mem_of_getElem? (i := 9) rfl) (k_X8_sort l) h2 hP1 hS1 hF.1 (Nat.le_of_ble_eq_true rfl) hc1 hc2 dL_law_287 (fun H2 locs2 hP2 hS2 => ?_)
  exact lv_icmp_eq (tgt := 755) C.1 C.2.1 dL_law_290 (by decide) (fun _ => kk μ2 H2 locs2 h3 hP2 hS2) (fun hne => absurd rfl hne)
set_option maxRecDepth 20000 in
theorem lc_find {x3 : Int32} (C : lw_C p s m c b L xs ad D cy) (hF : lw_F b ad x3 ls) (hin : lw_in x3 L) (hI : Inv μ) (hP : va_P D vwCl (mm_wl ad cy μ) H) (hS : va_S (fun q => s.heap.size ≤ q) s.heap H locs) (hc1 : cells ≤ 600000) (hc2 : slots ≤ 7302250)
    (kk : ∀ (μ2 : mM) (H2 : Heap) (locs2 : List Loc), Inv μ2 → va_P D vwCl (mm_wl ad cy μ2) H2 → va_S (fun q => s.heap.size ≤ q) s.heap H2 locs2 → W p l e room_1 s m #[Value.ref b] below meth c H2 locs2 cells slots Q (F0 m 755 ls [])) : W p l e room_1 s m #[Value.ref b] below meth c H locs cells slots Q (F0 m 295 ls []) := by
  obtain ⟨r, μ1, μ2, h1, h2, h3⟩ := k_find (xs (x3 + 1).toNatClampNeg) (xs (x3 + 2).toNatClampNeg) μ hI
  refine lv_aload_n C.1 C.2.1 dL_law_295 rfl (lv_at hF 1 rfl) ?_
  refine lr_arg (jn := 1) C (lv_at hF 0 rfl) (lv_at hF 3 rfl) hS (by decide) hin.1 dL_law_296 dL_law_297 dL_law_298 dL_law_299 dL_law_300 ?_
  refine lr_arg (jn := 2) C (lv_at hF 0 rfl) (lv_at hF 3 rfl) hS (by decide) hin.2.1 dL_law_301 dL_law_302 dL_law_303 dL_law_304 dL_law_305 ?_
  refine lr_call (as := [xs (x3 + 1).toNatClampNeg, xs (x3 + 2).toNatClampNeg]) (rest := []) (w1 := 485) (w2 := 486) (w3 := 487) C (List.mem_of_getElem? (i := 10) rfl) (k_X7_find l) h1 hP hS hF.1 (Nat.le_of_ble_eq_true rfl) hc1 hc2 dL_law_306 (fun H1 locs1 hP1 hS1 => ?_)
  refine lv_aload_n C.1 C.2.1 dL_law_309 rfl (lv_at hF 2 rfl) ?_
  refine lr_arg (jn := 1) C (lv_at hF 0 rfl) (lv_at hF 3 rfl) hS1 (by decide) hin.1 dL_law_310 dL_law_311 dL_law_312 dL_law_313 dL_law_314 ?_
  refine lr_arg (jn := 2) C (lv_at hF 0 rfl) (lv_at hF 3 rfl) hS1 (by decide) hin.2.1 dL_law_315 dL_law_316 dL_law_317 dL_law_318 dL_law_319 ?_
  refine lr_call (as := [xs (x3 + 1).toNatClampNeg, xs (x3 + 2).toNatClampNeg]) (rest := [Value.int r]) (w1 := 851) (w2 := 852) (w3 := 853) C (List.mem_of_getElem? (i := 11) rfl) (k_X8_find l) h2 hP1 hS1 hF.1 (Nat.le_of_ble_eq_true rfl) hc1 hc2 dL_law_320 (fun H2 locs2 hP2 hS2 => ?_)
  exact lv_icmp_eq (tgt := 755) C.1 C.2.1 dL_law_323 (by decide) (fun _ => kk μ2 H2 locs2 h3 hP2 hS2) (fun hne => absurd rfl hne)
set_option maxRecDepth 20000 in
theorem lc_shaft {x3 : Int32} (C : lw_C p s m c b L xs ad D cy) (hF : lw_F b ad x3 ls) (hin : lw_in x3 L) (hI : Inv μ) (hP : va_P D vwCl (mm_wl ad cy μ) H) (hS : va_S (fun q => s.heap.size ≤ q) s.heap H locs) (hc1 : cells ≤ 600000) (hc2 : slots ≤ 7302250)
    (kk : ∀ (μ2 : mM) (H2 : Heap) (locs2 : List Loc), Inv μ2 → va_P D vwCl (mm_wl ad cy μ2) H2 → va_S (fun q => s.heap.size ≤ q) s.heap H2 locs2 → W p l e room_1 s m #[Value.ref b] below meth c H2 locs2 cells slots Q (F0 m 755 ls [])) : W p l e room_1 s m #[Value.ref b] below meth c H locs cells slots Q (F0 m 328 ls []) := by
  obtain ⟨r, μ1, μ2, h1, h2, h3⟩ := k_shaft (xs (x3 + 1).toNatClampNeg) (xs (x3 + 2).toNatClampNeg) μ hI
  refine lv_aload_n C.1 C.2.1 dL_law_328 rfl (lv_at hF 1 rfl) ?_
  refine lr_arg (jn := 1) C (lv_at hF 0 rfl) (lv_at hF 3 rfl) hS (by decide) hin.1 dL_law_329 dL_law_330 dL_law_331 dL_law_332 dL_law_333 ?_
  refine lr_arg (jn := 2) C (lv_at hF 0 rfl) (lv_at hF 3 rfl) hS (by decide) hin.2.1 dL_law_334 dL_law_335 dL_law_336 dL_law_337 dL_law_338 ?_
  refine lr_call (as := [xs (x3 + 1).toNatClampNeg, xs (x3 + 2).toNatClampNeg]) (rest := []) (w1 := 492) (w2 := 493) (w3 := 494) C (List.mem_of_getElem? (i := 12) rfl) (k_X7_shaft l) h1 hP hS hF.1 (Nat.le_of_ble_eq_true rfl) hc1 hc2 dL_law_339 (fun H1 locs1 hP1 hS1 => ?_)
  refine lv_aload_n C.1 C.2.1 dL_law_342 rfl (lv_at hF 2 rfl) ?_
  refine lr_arg (jn := 1) C (lv_at hF 0 rfl) (lv_at hF 3 rfl) hS1 (by decide) hin.1 dL_law_343 dL_law_344 dL_law_345 dL_law_346 dL_law_347 ?_
  refine lr_arg (jn := 2) C (lv_at hF 0 rfl) (lv_at hF 3 rfl) hS1 (by decide) hin.2.1 dL_law_348 dL_law_349 dL_law_350 dL_law_351 dL_law_352 ?_
  refine lr_call (as := [xs (x3 + 1).toNatClampNeg, xs (x3 + 2).toNatClampNeg]) (rest := [Value.int r]) (w1 := 856) (w2 := 857) (w3 := 858) C (List.mem_of_getElem? (i := 13) rfl) (k_X8_shaft l) h2 hP1 hS1 hF.1 (Nat.le_of_ble_eq_true rfl) hc1 hc2 dL_law_353 (fun H2 locs2 hP2 hS2 => ?_)
  exact lv_icmp_eq (tgt := 755) C.1 C.2.1 dL_law_356 (by decide) (fun _ => kk μ2 H2 locs2 h3 hP2 hS2) (fun hne => absurd rfl hne)
set_option maxRecDepth 20000 in
theorem lc_bore {x3 : Int32} (C : lw_C p s m c b L xs ad D cy) (hF : lw_F b ad x3 ls) (hin : lw_in x3 L) (hI : Inv μ) (hP : va_P D vwCl (mm_wl ad cy μ) H) (hS : va_S (fun q => s.heap.size ≤ q) s.heap H locs) (hc1 : cells ≤ 600000) (hc2 : slots ≤ 7302250)
    (kk : ∀ (μ2 : mM) (H2 : Heap) (locs2 : List Loc), Inv μ2 → va_P D vwCl (mm_wl ad cy μ2) H2 → va_S (fun q => s.heap.size ≤ q) s.heap H2 locs2 → W p l e room_1 s m #[Value.ref b] below meth c H2 locs2 cells slots Q (F0 m 755 ls [])) : W p l e room_1 s m #[Value.ref b] below meth c H locs cells slots Q (F0 m 361 ls []) := by
  obtain ⟨r, μ1, μ2, h1, h2, h3⟩ := k_bore (xs (x3 + 1).toNatClampNeg) μ hI
  refine lv_aload_n C.1 C.2.1 dL_law_361 rfl (lv_at hF 1 rfl) ?_
  refine lr_arg (jn := 1) C (lv_at hF 0 rfl) (lv_at hF 3 rfl) hS (by decide) hin.1 dL_law_362 dL_law_363 dL_law_364 dL_law_365 dL_law_366 ?_
  refine lr_call (as := [xs (x3 + 1).toNatClampNeg]) (rest := []) (w1 := 528) (w2 := 529) (w3 := 530) C (List.mem_of_getElem? (i := 14) rfl) (k_X7_bore l) h1 hP hS hF.1 (Nat.le_of_ble_eq_true rfl) hc1 hc2 dL_law_367 (fun H1 locs1 hP1 hS1 => ?_)
  refine lv_aload_n C.1 C.2.1 dL_law_370 rfl (lv_at hF 2 rfl) ?_
  refine lr_arg (jn := 1) C (lv_at hF 0 rfl) (lv_at hF 3 rfl) hS1 (by decide) hin.1 dL_law_371 dL_law_372 dL_law_373 dL_law_374 dL_law_375 ?_
  refine lr_call (as := [xs (x3 + 1).toNatClampNeg]) (rest := [Value.int r]) (w1 := 881) (w2 := 882) (w3 := 883) C (List.mem_of_getElem? (i := 15) rfl) (k_X8_bore l) h2 hP1 hS1 hF.1 (Nat.le_of_ble_eq_true rfl) hc1 hc2 dL_law_376 (fun H2 locs2 hP2 hS2 => ?_)
  exact lv_icmp_eq (tgt := 755) C.1 C.2.1 dL_law_379 (by decide) (fun _ => kk μ2 H2 locs2 h3 hP2 hS2) (fun hne => absurd rfl hne)
set_option maxRecDepth 20000 in
theorem lc_takeShaft {x3 : Int32} (C : lw_C p s m c b L xs ad D cy) (hF : lw_F b ad x3 ls) (hin : lw_in x3 L) (hI : Inv μ) (hP : va_P D vwCl (mm_wl ad cy μ) H) (hS : va_S (fun q => s.heap.size ≤ q) s.heap H locs) (hc1 : cells ≤ 600000) (hc2 : slots ≤ 7302250)
    (kk : ∀ (μ2 : mM) (H2 : Heap) (locs2 : List Loc), Inv μ2 → va_P D vwCl (mm_wl ad cy μ2) H2 → va_S (fun q => s.heap.size ≤ q) s.heap H2 locs2 → W p l e room_1 s m #[Value.ref b] below meth c H2 locs2 cells slots Q (F0 m 755 ls [])) : W p l e room_1 s m #[Value.ref b] below meth c H locs cells slots Q (F0 m 384 ls []) := by
  obtain ⟨r, μ1, μ2, h1, h2, h3⟩ := k_takeShaft (xs (x3 + 1).toNatClampNeg) μ hI
  refine lv_aload_n C.1 C.2.1 dL_law_384 rfl (lv_at hF 1 rfl) ?_
  refine lr_arg (jn := 1) C (lv_at hF 0 rfl) (lv_at hF 3 rfl) hS (by decide) hin.1 dL_law_385 dL_law_386 dL_law_387 dL_law_388 dL_law_389 ?_
  refine lr_call (as := [xs (x3 + 1).toNatClampNeg]) (rest := []) (w1 := 532) (w2 := 533) (w3 := 534) C (List.mem_of_getElem? (i := 16) rfl) (k_X7_takeShaft l) h1 hP hS hF.1 (Nat.le_of_ble_eq_true rfl) hc1 hc2 dL_law_390 (fun H1 locs1 hP1 hS1 => ?_)
  refine lv_aload_n C.1 C.2.1 dL_law_393 rfl (lv_at hF 2 rfl) ?_
  refine lr_arg (jn := 1) C (lv_at hF 0 rfl) (lv_at hF 3 rfl) hS1 (by decide) hin.1 dL_law_394 dL_law_395 dL_law_396 dL_law_397 dL_law_398 ?_
  refine lr_call (as := [xs (x3 + 1).toNatClampNeg]) (rest := [Value.int r]) (w1 := 885) (w2 := 886) (w3 := 887) C (List.mem_of_getElem? (i := 17) rfl) (k_X8_takeShaft l) h2 hP1 hS1 hF.1 (Nat.le_of_ble_eq_true rfl) hc1 hc2 dL_law_399 (fun H2 locs2 hP2 hS2 => ?_)
  exact lv_icmp_eq (tgt := 755) C.1 C.2.1 dL_law_402 (by decide) (fun _ => kk μ2 H2 locs2 h3 hP2 hS2) (fun hne => absurd rfl hne)
set_option maxRecDepth 20000 in
theorem lc_takeBore {x3 : Int32} (C : lw_C p s m c b L xs ad D cy) (hF : lw_F b ad x3 ls) (hin : lw_in x3 L) (hI : Inv μ) (hP : va_P D vwCl (mm_wl ad cy μ) H) (hS : va_S (fun q => s.heap.size ≤ q) s.heap H locs) (hc1 : cells ≤ 600000) (hc2 : slots ≤ 7302250)
    (kk : ∀ (μ2 : mM) (H2 : Heap) (locs2 : List Loc), Inv μ2 → va_P D vwCl (mm_wl ad cy μ2) H2 → va_S (fun q => s.heap.size ≤ q) s.heap H2 locs2 → W p l e room_1 s m #[Value.ref b] below meth c H2 locs2 cells slots Q (F0 m 755 ls [])) : W p l e room_1 s m #[Value.ref b] below meth c H locs cells slots Q (F0 m 407 ls []) := by
  obtain ⟨r, μ1, μ2, h1, h2, h3⟩ := k_takeBore (xs (x3 + 1).toNatClampNeg) μ hI
  refine lv_aload_n C.1 C.2.1 dL_law_407 rfl (lv_at hF 1 rfl) ?_
  refine lr_arg (jn := 1) C (lv_at hF 0 rfl) (lv_at hF 3 rfl) hS (by decide) hin.1 dL_law_408 dL_law_409 dL_law_410 dL_law_411 dL_law_412 ?_
  refine lr_call (as := [xs (x3 + 1).toNatClampNeg]) (rest := []) (w1 := 540) (w2 := 541) (w3 := 542) C (List.mem_of_getElem? (i := 18) rfl) (k_X7_takeBore l) h1 hP hS hF.1 (Nat.le_of_ble_eq_true rfl) hc1 hc2 dL_law_413 (fun H1 locs1 hP1 hS1 => ?_)
  refine lv_aload_n C.1 C.2.1 dL_law_416 rfl (lv_at hF 2 rfl) ?_
  refine lr_arg (jn := 1) C (lv_at hF 0 rfl) (lv_at hF 3 rfl) hS1 (by decide) hin.1 dL_law_417 dL_law_418 dL_law_419 dL_law_420 dL_law_421 ?_
  refine lr_call (as := [xs (x3 + 1).toNatClampNeg]) (rest := [Value.int r]) (w1 := 893) (w2 := 894) (w3 := 895) C (List.mem_of_getElem? (i := 19) rfl) (k_X8_takeBore l) h2 hP1 hS1 hF.1 (Nat.le_of_ble_eq_true rfl) hc1 hc2 dL_law_422 (fun H2 locs2 hP2 hS2 => ?_)
  exact lv_icmp_eq (tgt := 755) C.1 C.2.1 dL_law_425 (by decide) (fun _ => kk μ2 H2 locs2 h3 hP2 hS2) (fun hne => absurd rfl hne)
set_option maxRecDepth 20000 in
theorem lc_grade {x3 : Int32} (C : lw_C p s m c b L xs ad D cy) (hF : lw_F b ad x3 ls) (hin : lw_in x3 L) (hI : Inv μ) (hP : va_P D vwCl (mm_wl ad cy μ) H) (hS : va_S (fun q => s.heap.size ≤ q) s.heap H locs) (hc1 : cells ≤ 600000) (hc2 : slots ≤ 7302250)
    (kk : ∀ (μ2 : mM) (H2 : Heap) (locs2 : List Loc), Inv μ2 → va_P D vwCl (mm_wl ad cy μ2) H2 → va_S (fun q => s.heap.size ≤ q) s.heap H2 locs2 → W p l e room_1 s m #[Value.ref b] below meth c H2 locs2 cells slots Q (F0 m 755 ls [])) : W p l e room_1 s m #[Value.ref b] below meth c H locs cells slots Q (F0 m 430 ls []) := by
  obtain ⟨r, μ1, μ2, h1, h2, h3⟩ := k_grade (xs (x3 + 1).toNatClampNeg) (xs (x3 + 2).toNatClampNeg) (xs (x3 + 3).toNatClampNeg) μ hI
  refine lv_aload_n C.1 C.2.1 dL_law_430 rfl (lv_at hF 1 rfl) ?_
  refine lr_arg (jn := 1) C (lv_at hF 0 rfl) (lv_at hF 3 rfl) hS (by decide) hin.1 dL_law_431 dL_law_432 dL_law_433 dL_law_434 dL_law_435 ?_
  refine lr_arg (jn := 2) C (lv_at hF 0 rfl) (lv_at hF 3 rfl) hS (by decide) hin.2.1 dL_law_436 dL_law_437 dL_law_438 dL_law_439 dL_law_440 ?_
  refine lr_arg (jn := 3) C (lv_at hF 0 rfl) (lv_at hF 3 rfl) hS (by decide) hin.2.2 dL_law_441 dL_law_442 dL_law_443 dL_law_444 dL_law_445 ?_
  refine lr_call (as := [xs (x3 + 1).toNatClampNeg, xs (x3 + 2).toNatClampNeg, xs (x3 + 3).toNatClampNeg]) (rest := []) (w1 := 548) (w2 := 549) (w3 := 550) C (List.mem_of_getElem? (i := 20) rfl) (k_X7_grade l) h1 hP hS hF.1 (Nat.le_of_ble_eq_true rfl) hc1 hc2 dL_law_446 (fun H1 locs1 hP1 hS1 => ?_)
  refine lv_aload_n C.1 C.2.1 dL_law_449 rfl (lv_at hF 2 rfl) ?_
  refine lr_arg (jn := 1) C (lv_at hF 0 rfl) (lv_at hF 3 rfl) hS1 (by decide) hin.1 dL_law_450 dL_law_451 dL_law_452 dL_law_453 dL_law_454 ?_
  refine lr_arg (jn := 2) C (lv_at hF 0 rfl) (lv_at hF 3 rfl) hS1 (by decide) hin.2.1 dL_law_455 dL_law_456 dL_law_457 dL_law_458 dL_law_459 ?_
  refine lr_arg (jn := 3) C (lv_at hF 0 rfl) (lv_at hF 3 rfl) hS1 (by decide) hin.2.2 dL_law_460 dL_law_461 dL_law_462 dL_law_463 dL_law_464 ?_
  refine lr_call (as := [xs (x3 + 1).toNatClampNeg, xs (x3 + 2).toNatClampNeg, xs (x3 + 3).toNatClampNeg]) (rest := [Value.int r]) (w1 := 901) (w2 := 902) (w3 := 903) C (List.mem_of_getElem? (i := 21) rfl) (k_X8_grade l) h2 hP1 hS1 hF.1 (Nat.le_of_ble_eq_true rfl) hc1 hc2 dL_law_465 (fun H2 locs2 hP2 hS2 => ?_)
  exact lv_icmp_eq (tgt := 755) C.1 C.2.1 dL_law_468 (by decide) (fun _ => kk μ2 H2 locs2 h3 hP2 hS2) (fun hne => absurd rfl hne)
set_option maxRecDepth 20000 in
theorem lc_putAway {x3 : Int32} (C : lw_C p s m c b L xs ad D cy) (hF : lw_F b ad x3 ls) (hin : lw_in x3 L) (hI : Inv μ) (hP : va_P D vwCl (mm_wl ad cy μ) H) (hS : va_S (fun q => s.heap.size ≤ q) s.heap H locs) (hc1 : cells ≤ 600000) (hc2 : slots ≤ 7302250)
    (kk : ∀ (μ2 : mM) (H2 : Heap) (locs2 : List Loc), Inv μ2 → va_P D vwCl (mm_wl ad cy μ2) H2 → va_S (fun q => s.heap.size ≤ q) s.heap H2 locs2 → W p l e room_1 s m #[Value.ref b] below meth c H2 locs2 cells slots Q (F0 m 755 ls [])) : W p l e room_1 s m #[Value.ref b] below meth c H locs cells slots Q (F0 m 473 ls []) := by
  obtain ⟨r, μ1, μ2, h1, h2, h3⟩ := k_putAway  μ hI
  refine lv_aload_n C.1 C.2.1 dL_law_473 rfl (lv_at hF 1 rfl) ?_
  refine lr_call (as := []) (rest := []) (w1 := 552) (w2 := 553) (w3 := 554) C (List.mem_of_getElem? (i := 22) rfl) (k_X7_putAway l) h1 hP hS hF.1 (Nat.le_of_ble_eq_true rfl) hc1 hc2 dL_law_474 (fun H1 locs1 hP1 hS1 => ?_)
  refine lv_aload_n C.1 C.2.1 dL_law_477 rfl (lv_at hF 2 rfl) ?_
  refine lr_call (as := []) (rest := [Value.int r]) (w1 := 906) (w2 := 907) (w3 := 908) C (List.mem_of_getElem? (i := 23) rfl) (k_X8_putAway l) h2 hP1 hS1 hF.1 (Nat.le_of_ble_eq_true rfl) hc1 hc2 dL_law_478 (fun H2 locs2 hP2 hS2 => ?_)
  exact lv_icmp_eq (tgt := 755) C.1 C.2.1 dL_law_481 (by decide) (fun _ => kk μ2 H2 locs2 h3 hP2 hS2) (fun hne => absurd rfl hne)
set_option maxRecDepth 20000 in
theorem lc_batch {x3 : Int32} (C : lw_C p s m c b L xs ad D cy) (hF : lw_F b ad x3 ls) (hin : lw_in x3 L) (hI : Inv μ) (hP : va_P D vwCl (mm_wl ad cy μ) H) (hS : va_S (fun q => s.heap.size ≤ q) s.heap H locs) (hc1 : cells ≤ 600000) (hc2 : slots ≤ 7302250)
    (kk : ∀ (μ2 : mM) (H2 : Heap) (locs2 : List Loc), Inv μ2 → va_P D vwCl (mm_wl ad cy μ2) H2 → va_S (fun q => s.heap.size ≤ q) s.heap H2 locs2 → W p l e room_1 s m #[Value.ref b] below meth c H2 locs2 cells slots Q (F0 m 755 ls [])) : W p l e room_1 s m #[Value.ref b] below meth c H locs cells slots Q (F0 m 486 ls []) := by
  obtain ⟨r, μ1, μ2, h1, h2, h3⟩ := k_batch (xs (x3 + 1).toNatClampNeg) μ hI
  refine lv_aload_n C.1 C.2.1 dL_law_486 rfl (lv_at hF 1 rfl) ?_
  refine lr_arg (jn := 1) C (lv_at hF 0 rfl) (lv_at hF 3 rfl) hS (by decide) hin.1 dL_law_487 dL_law_488 dL_law_489 dL_law_490 dL_law_491 ?_
  refine lr_call (as := [xs (x3 + 1).toNatClampNeg]) (rest := []) (w1 := 557) (w2 := 558) (w3 := 559) C (List.mem_of_getElem? (i := 24) rfl) (k_X7_batch l) h1 hP hS hF.1 (Nat.le_of_ble_eq_true rfl) hc1 hc2 dL_law_492 (fun H1 locs1 hP1 hS1 => ?_)
  refine lv_aload_n C.1 C.2.1 dL_law_495 rfl (lv_at hF 2 rfl) ?_
  refine lr_arg (jn := 1) C (lv_at hF 0 rfl) (lv_at hF 3 rfl) hS1 (by decide) hin.1 dL_law_496 dL_law_497 dL_law_498 dL_law_499 dL_law_500 ?_
  refine lr_call (as := [xs (x3 + 1).toNatClampNeg]) (rest := [Value.int r]) (w1 := 911) (w2 := 912) (w3 := 913) C (List.mem_of_getElem? (i := 25) rfl) (k_X8_batch l) h2 hP1 hS1 hF.1 (Nat.le_of_ble_eq_true rfl) hc1 hc2 dL_law_501 (fun H2 locs2 hP2 hS2 => ?_)
  exact lv_icmp_eq (tgt := 755) C.1 C.2.1 dL_law_504 (by decide) (fun _ => kk μ2 H2 locs2 h3 hP2 hS2) (fun hne => absurd rfl hne)
set_option maxRecDepth 20000 in
theorem lc_clear {x3 : Int32} (C : lw_C p s m c b L xs ad D cy) (hF : lw_F b ad x3 ls) (hin : lw_in x3 L) (hI : Inv μ) (hP : va_P D vwCl (mm_wl ad cy μ) H) (hS : va_S (fun q => s.heap.size ≤ q) s.heap H locs) (hc1 : cells ≤ 600000) (hc2 : slots ≤ 7302250)
    (kk : ∀ (μ2 : mM) (H2 : Heap) (locs2 : List Loc), Inv μ2 → va_P D vwCl (mm_wl ad cy μ2) H2 → va_S (fun q => s.heap.size ≤ q) s.heap H2 locs2 → W p l e room_1 s m #[Value.ref b] below meth c H2 locs2 cells slots Q (F0 m 755 ls [])) : W p l e room_1 s m #[Value.ref b] below meth c H locs cells slots Q (F0 m 509 ls []) := by
  obtain ⟨r, μ1, μ2, h1, h2, h3⟩ := k_clear  μ hI
  refine lv_aload_n C.1 C.2.1 dL_law_509 rfl (lv_at hF 1 rfl) ?_
  refine lr_call (as := []) (rest := []) (w1 := 569) (w2 := 570) (w3 := 571) C (List.mem_of_getElem? (i := 26) rfl) (k_X7_clear l) h1 hP hS hF.1 (Nat.le_of_ble_eq_true rfl) hc1 hc2 dL_law_510 (fun H1 locs1 hP1 hS1 => ?_)
  refine lv_aload_n C.1 C.2.1 dL_law_513 rfl (lv_at hF 2 rfl) ?_
  refine lr_call (as := []) (rest := [Value.int r]) (w1 := 924) (w2 := 925) (w3 := 926) C (List.mem_of_getElem? (i := 27) rfl) (k_X8_clear l) h2 hP1 hS1 hF.1 (Nat.le_of_ble_eq_true rfl) hc1 hc2 dL_law_514 (fun H2 locs2 hP2 hS2 => ?_)
  exact lv_icmp_eq (tgt := 755) C.1 C.2.1 dL_law_517 (by decide) (fun _ => kk μ2 H2 locs2 h3 hP2 hS2) (fun hne => absurd rfl hne)
set_option maxRecDepth 20000 in
theorem lc_undo {x3 : Int32} (C : lw_C p s m c b L xs ad D cy) (hF : lw_F b ad x3 ls) (hin : lw_in x3 L) (hI : Inv μ) (hP : va_P D vwCl (mm_wl ad cy μ) H) (hS : va_S (fun q => s.heap.size ≤ q) s.heap H locs) (hc1 : cells ≤ 600000) (hc2 : slots ≤ 7302250)
    (kk : ∀ (μ2 : mM) (H2 : Heap) (locs2 : List Loc), Inv μ2 → va_P D vwCl (mm_wl ad cy μ2) H2 → va_S (fun q => s.heap.size ≤ q) s.heap H2 locs2 → W p l e room_1 s m #[Value.ref b] below meth c H2 locs2 cells slots Q (F0 m 755 ls [])) : W p l e room_1 s m #[Value.ref b] below meth c H locs cells slots Q (F0 m 522 ls []) := by
  obtain ⟨r, μ1, μ2, h1, h2, h3⟩ := k_undo (xs (x3 + 1).toNatClampNeg) μ hI
  refine lv_aload_n C.1 C.2.1 dL_law_522 rfl (lv_at hF 1 rfl) ?_
  refine lr_arg (jn := 1) C (lv_at hF 0 rfl) (lv_at hF 3 rfl) hS (by decide) hin.1 dL_law_523 dL_law_524 dL_law_525 dL_law_526 dL_law_527 ?_
  refine lr_call (as := [xs (x3 + 1).toNatClampNeg]) (rest := []) (w1 := 581) (w2 := 582) (w3 := 583) C (List.mem_of_getElem? (i := 28) rfl) (k_X7_undo l) h1 hP hS hF.1 (Nat.le_of_ble_eq_true rfl) hc1 hc2 dL_law_528 (fun H1 locs1 hP1 hS1 => ?_)
  refine lv_aload_n C.1 C.2.1 dL_law_531 rfl (lv_at hF 2 rfl) ?_
  refine lr_arg (jn := 1) C (lv_at hF 0 rfl) (lv_at hF 3 rfl) hS1 (by decide) hin.1 dL_law_532 dL_law_533 dL_law_534 dL_law_535 dL_law_536 ?_
  refine lr_call (as := [xs (x3 + 1).toNatClampNeg]) (rest := [Value.int r]) (w1 := 928) (w2 := 929) (w3 := 930) C (List.mem_of_getElem? (i := 29) rfl) (k_X8_undo l) h2 hP1 hS1 hF.1 (Nat.le_of_ble_eq_true rfl) hc1 hc2 dL_law_537 (fun H2 locs2 hP2 hS2 => ?_)
  exact lv_icmp_eq (tgt := 755) C.1 C.2.1 dL_law_540 (by decide) (fun _ => kk μ2 H2 locs2 h3 hP2 hS2) (fun hne => absurd rfl hne)
set_option maxRecDepth 20000 in
theorem lc_crowd {x3 : Int32} (C : lw_C p s m c b L xs ad D cy) (hF : lw_F b ad x3 ls) (hin : lw_in x3 L) (hI : Inv μ) (hP : va_P D vwCl (mm_wl ad cy μ) H) (hS : va_S (fun q => s.heap.size ≤ q) s.heap H locs) (hc1 : cells ≤ 600000) (hc2 : slots ≤ 7302250)
    (kk : ∀ (μ2 : mM) (H2 : Heap) (locs2 : List Loc), Inv μ2 → va_P D vwCl (mm_wl ad cy μ2) H2 → va_S (fun q => s.heap.size ≤ q) s.heap H2 locs2 → W p l e room_1 s m #[Value.ref b] below meth c H2 locs2 cells slots Q (F0 m 755 ls [])) : W p l e room_1 s m #[Value.ref b] below meth c H locs cells slots Q (F0 m 545 ls []) := by
  obtain ⟨r, μ1, μ2, h1, h2, h3⟩ := k_crowd (xs (x3 + 1).toNatClampNeg) μ hI
  refine lv_aload_n C.1 C.2.1 dL_law_545 rfl (lv_at hF 1 rfl) ?_
  refine lr_arg (jn := 1) C (lv_at hF 0 rfl) (lv_at hF 3 rfl) hS (by decide) hin.1 dL_law_546 dL_law_547 dL_law_548 dL_law_549 dL_law_550 ?_
  refine lr_call (as := [xs (x3 + 1).toNatClampNeg]) (rest := []) (w1 := 592) (w2 := 593) (w3 := 594) C (List.mem_of_getElem? (i := 30) rfl) (k_X7_crowd l) h1 hP hS hF.1 (Nat.le_of_ble_eq_true rfl) hc1 hc2 dL_law_551 (fun H1 locs1 hP1 hS1 => ?_)
  refine lv_aload_n C.1 C.2.1 dL_law_554 rfl (lv_at hF 2 rfl) ?_
  refine lr_arg (jn := 1) C (lv_at hF 0 rfl) (lv_at hF 3 rfl) hS1 (by decide) hin.1 dL_law_555 dL_law_556 dL_law_557 dL_law_558 dL_law_559 ?_
  refine lr_call (as := [xs (x3 + 1).toNatClampNeg]) (rest := [Value.int r]) (w1 := 933) (w2 := 934) (w3 := 935) C (List.mem_of_getElem? (i := 31) rfl) (k_X8_crowd l) h2 hP1 hS1 hF.1 (Nat.le_of_ble_eq_true rfl) hc1 hc2 dL_law_560 (fun H2 locs2 hP2 hS2 => ?_)
  exact lv_icmp_eq (tgt := 755) C.1 C.2.1 dL_law_563 (by decide) (fun _ => kk μ2 H2 locs2 h3 hP2 hS2) (fun hne => absurd rfl hne)
set_option maxRecDepth 20000 in
theorem lc_boxes {x3 : Int32} (C : lw_C p s m c b L xs ad D cy) (hF : lw_F b ad x3 ls) (hin : lw_in x3 L) (hI : Inv μ) (hP : va_P D vwCl (mm_wl ad cy μ) H) (hS : va_S (fun q => s.heap.size ≤ q) s.heap H locs) (hc1 : cells ≤ 600000) (hc2 : slots ≤ 7302250)
    (kk : ∀ (μ2 : mM) (H2 : Heap) (locs2 : List Loc), Inv μ2 → va_P D vwCl (mm_wl ad cy μ2) H2 → va_S (fun q => s.heap.size ≤ q) s.heap H2 locs2 → W p l e room_1 s m #[Value.ref b] below meth c H2 locs2 cells slots Q (F0 m 755 ls [])) : W p l e room_1 s m #[Value.ref b] below meth c H locs cells slots Q (F0 m 568 ls []) := by
  obtain ⟨r, μ1, μ2, h1, h2, h3⟩ := k_boxes (xs (x3 + 1).toNatClampNeg) μ hI
  refine lv_aload_n C.1 C.2.1 dL_law_568 rfl (lv_at hF 1 rfl) ?_
  refine lr_arg (jn := 1) C (lv_at hF 0 rfl) (lv_at hF 3 rfl) hS (by decide) hin.1 dL_law_569 dL_law_570 dL_law_571 dL_law_572 dL_law_573 ?_
  refine lr_call (as := [xs (x3 + 1).toNatClampNeg]) (rest := []) (w1 := 612) (w2 := 613) (w3 := 614) C (List.mem_of_getElem? (i := 32) rfl) (k_X7_boxes l) h1 hP hS hF.1 (Nat.le_of_ble_eq_true rfl) hc1 hc2 dL_law_574 (fun H1 locs1 hP1 hS1 => ?_)
  refine lv_aload_n C.1 C.2.1 dL_law_577 rfl (lv_at hF 2 rfl) ?_
  refine lr_arg (jn := 1) C (lv_at hF 0 rfl) (lv_at hF 3 rfl) hS1 (by decide) hin.1 dL_law_578 dL_law_579 dL_law_580 dL_law_581 dL_law_582 ?_
  refine lr_call (as := [xs (x3 + 1).toNatClampNeg]) (rest := [Value.int r]) (w1 := 945) (w2 := 946) (w3 := 947) C (List.mem_of_getElem? (i := 33) rfl) (k_X8_boxes l) h2 hP1 hS1 hF.1 (Nat.le_of_ble_eq_true rfl) hc1 hc2 dL_law_583 (fun H2 locs2 hP2 hS2 => ?_)
  exact lv_icmp_eq (tgt := 755) C.1 C.2.1 dL_law_586 (by decide) (fun _ => kk μ2 H2 locs2 h3 hP2 hS2) (fun hne => absurd rfl hne)
set_option maxRecDepth 20000 in
theorem lc_withBore {x3 : Int32} (C : lw_C p s m c b L xs ad D cy) (hF : lw_F b ad x3 ls) (hin : lw_in x3 L) (hI : Inv μ) (hP : va_P D vwCl (mm_wl ad cy μ) H) (hS : va_S (fun q => s.heap.size ≤ q) s.heap H locs) (hc1 : cells ≤ 600000) (hc2 : slots ≤ 7302250)
    (kk : ∀ (μ2 : mM) (H2 : Heap) (locs2 : List Loc), Inv μ2 → va_P D vwCl (mm_wl ad cy μ2) H2 → va_S (fun q => s.heap.size ≤ q) s.heap H2 locs2 → W p l e room_1 s m #[Value.ref b] below meth c H2 locs2 cells slots Q (F0 m 755 ls [])) : W p l e room_1 s m #[Value.ref b] below meth c H locs cells slots Q (F0 m 591 ls []) := by
  obtain ⟨r, μ1, μ2, h1, h2, h3⟩ := k_withBore (xs (x3 + 1).toNatClampNeg) μ hI
  refine lv_aload_n C.1 C.2.1 dL_law_591 rfl (lv_at hF 1 rfl) ?_
  refine lr_arg (jn := 1) C (lv_at hF 0 rfl) (lv_at hF 3 rfl) hS (by decide) hin.1 dL_law_592 dL_law_593 dL_law_594 dL_law_595 dL_law_596 ?_
  refine lr_call (as := [xs (x3 + 1).toNatClampNeg]) (rest := []) (w1 := 641) (w2 := 642) (w3 := 643) C (List.mem_of_getElem? (i := 34) rfl) (k_X7_withBore l) h1 hP hS hF.1 (Nat.le_of_ble_eq_true rfl) hc1 hc2 dL_law_597 (fun H1 locs1 hP1 hS1 => ?_)
  refine lv_aload_n C.1 C.2.1 dL_law_600 rfl (lv_at hF 2 rfl) ?_
  refine lr_arg (jn := 1) C (lv_at hF 0 rfl) (lv_at hF 3 rfl) hS1 (by decide) hin.1 dL_law_601 dL_law_602 dL_law_603 dL_law_604 dL_law_605 ?_
  refine lr_call (as := [xs (x3 + 1).toNatClampNeg]) (rest := [Value.int r]) (w1 := 966) (w2 := 967) (w3 := 968) C (List.mem_of_getElem? (i := 35) rfl) (k_X8_withBore l) h2 hP1 hS1 hF.1 (Nat.le_of_ble_eq_true rfl) hc1 hc2 dL_law_606 (fun H2 locs2 hP2 hS2 => ?_)
  exact lv_icmp_eq (tgt := 755) C.1 C.2.1 dL_law_609 (by decide) (fun _ => kk μ2 H2 locs2 h3 hP2 hS2) (fun hne => absurd rfl hne)
set_option maxRecDepth 20000 in
theorem lc_see {x3 : Int32} (C : lw_C p s m c b L xs ad D cy) (hF : lw_F b ad x3 ls) (hin : lw_in x3 L) (hI : Inv μ) (hP : va_P D vwCl (mm_wl ad cy μ) H) (hS : va_S (fun q => s.heap.size ≤ q) s.heap H locs) (hc1 : cells ≤ 600000) (hc2 : slots ≤ 7302250)
    (kk : ∀ (μ2 : mM) (H2 : Heap) (locs2 : List Loc), Inv μ2 → va_P D vwCl (mm_wl ad cy μ2) H2 → va_S (fun q => s.heap.size ≤ q) s.heap H2 locs2 → W p l e room_1 s m #[Value.ref b] below meth c H2 locs2 cells slots Q (F0 m 755 ls [])) : W p l e room_1 s m #[Value.ref b] below meth c H locs cells slots Q (F0 m 614 ls []) := by
  obtain ⟨r, μ1, μ2, h1, h2, h3⟩ := k_see (xs (x3 + 1).toNatClampNeg) (xs (x3 + 2).toNatClampNeg) (if xs (x3 + 3).toNatClampNeg = 0 then 0 else 1) (by split <;> simp) μ hI
  refine lv_aload_n C.1 C.2.1 dL_law_614 rfl (lv_at hF 1 rfl) ?_
  refine lr_arg (jn := 1) C (lv_at hF 0 rfl) (lv_at hF 3 rfl) hS (by decide) hin.1 dL_law_615 dL_law_616 dL_law_617 dL_law_618 dL_law_619 ?_
  refine lr_arg (jn := 2) C (lv_at hF 0 rfl) (lv_at hF 3 rfl) hS (by decide) hin.2.1 dL_law_620 dL_law_621 dL_law_622 dL_law_623 dL_law_624 ?_
  refine lr_arg (jn := 3) C (lv_at hF 0 rfl) (lv_at hF 3 rfl) hS (by decide) hin.2.2 dL_law_625 dL_law_626 dL_law_627 dL_law_628 dL_law_629 ?_
  refine lr_bool C dL_law_630 dL_law_633 dL_law_634 dL_law_637 ?_
  refine lr_call (as := [xs (x3 + 1).toNatClampNeg, xs (x3 + 2).toNatClampNeg, (if xs (x3 + 3).toNatClampNeg = 0 then 0 else 1)]) (rest := []) (w1 := 646) (w2 := 647) (w3 := 648) C (List.mem_of_getElem? (i := 36) rfl) (k_X7_see l) h1 hP hS hF.1 (Nat.le_of_ble_eq_true rfl) hc1 hc2 dL_law_638 (fun H1 locs1 hP1 hS1 => ?_)
  refine lv_aload_n C.1 C.2.1 dL_law_641 rfl (lv_at hF 2 rfl) ?_
  refine lr_arg (jn := 1) C (lv_at hF 0 rfl) (lv_at hF 3 rfl) hS1 (by decide) hin.1 dL_law_642 dL_law_643 dL_law_644 dL_law_645 dL_law_646 ?_
  refine lr_arg (jn := 2) C (lv_at hF 0 rfl) (lv_at hF 3 rfl) hS1 (by decide) hin.2.1 dL_law_647 dL_law_648 dL_law_649 dL_law_650 dL_law_651 ?_
  refine lr_arg (jn := 3) C (lv_at hF 0 rfl) (lv_at hF 3 rfl) hS1 (by decide) hin.2.2 dL_law_652 dL_law_653 dL_law_654 dL_law_655 dL_law_656 ?_
  refine lr_bool C dL_law_657 dL_law_660 dL_law_661 dL_law_664 ?_
  refine lr_call (as := [xs (x3 + 1).toNatClampNeg, xs (x3 + 2).toNatClampNeg, (if xs (x3 + 3).toNatClampNeg = 0 then 0 else 1)]) (rest := [Value.int r]) (w1 := 970) (w2 := 971) (w3 := 972) C (List.mem_of_getElem? (i := 37) rfl) (k_X8_see l) h2 hP1 hS1 hF.1 (Nat.le_of_ble_eq_true rfl) hc1 hc2 dL_law_665 (fun H2 locs2 hP2 hS2 => ?_)
  exact lv_icmp_eq (tgt := 755) C.1 C.2.1 dL_law_668 (by decide) (fun _ => kk μ2 H2 locs2 h3 hP2 hS2) (fun hne => absurd rfl hne)
set_option maxRecDepth 20000 in
theorem lc_forget {x3 : Int32} (C : lw_C p s m c b L xs ad D cy) (hF : lw_F b ad x3 ls) (hin : lw_in x3 L) (hI : Inv μ) (hP : va_P D vwCl (mm_wl ad cy μ) H) (hS : va_S (fun q => s.heap.size ≤ q) s.heap H locs) (hc1 : cells ≤ 600000) (hc2 : slots ≤ 7302250)
    (kk : ∀ (μ2 : mM) (H2 : Heap) (locs2 : List Loc), Inv μ2 → va_P D vwCl (mm_wl ad cy μ2) H2 → va_S (fun q => s.heap.size ≤ q) s.heap H2 locs2 → W p l e room_1 s m #[Value.ref b] below meth c H2 locs2 cells slots Q (F0 m 755 ls [])) : W p l e room_1 s m #[Value.ref b] below meth c H locs cells slots Q (F0 m 673 ls []) := by
  obtain ⟨r, μ1, μ2, h1, h2, h3⟩ := k_forget  μ hI
  refine lv_aload_n C.1 C.2.1 dL_law_673 rfl (lv_at hF 1 rfl) ?_
  refine lr_call (as := []) (rest := []) (w1 := 655) (w2 := 656) (w3 := 657) C (List.mem_of_getElem? (i := 38) rfl) (k_X7_forget l) h1 hP hS hF.1 (Nat.le_of_ble_eq_true rfl) hc1 hc2 dL_law_674 (fun H1 locs1 hP1 hS1 => ?_)
  refine lv_aload_n C.1 C.2.1 dL_law_677 rfl (lv_at hF 2 rfl) ?_
  refine lr_call (as := []) (rest := [Value.int r]) (w1 := 974) (w2 := 975) (w3 := 976) C (List.mem_of_getElem? (i := 39) rfl) (k_X8_forget l) h2 hP1 hS1 hF.1 (Nat.le_of_ble_eq_true rfl) hc1 hc2 dL_law_678 (fun H2 locs2 hP2 hS2 => ?_)
  exact lv_icmp_eq (tgt := 755) C.1 C.2.1 dL_law_681 (by decide) (fun _ => kk μ2 H2 locs2 h3 hP2 hS2) (fun hne => absurd rfl hne)
set_option maxRecDepth 20000 in
theorem lc_seed {x3 : Int32} (C : lw_C p s m c b L xs ad D cy) (hF : lw_F b ad x3 ls) (hin : lw_in x3 L) (hI : Inv μ) (hP : va_P D vwCl (mm_wl ad cy μ) H) (hS : va_S (fun q => s.heap.size ≤ q) s.heap H locs) (hc1 : cells ≤ 600000) (hc2 : slots ≤ 7302250)
    (kk : ∀ (μ2 : mM) (H2 : Heap) (locs2 : List Loc), Inv μ2 → va_P D vwCl (mm_wl ad cy μ2) H2 → va_S (fun q => s.heap.size ≤ q) s.heap H2 locs2 → W p l e room_1 s m #[Value.ref b] below meth c H2 locs2 cells slots Q (F0 m 755 ls [])) : W p l e room_1 s m #[Value.ref b] below meth c H locs cells slots Q (F0 m 686 ls []) := by
  obtain ⟨r, μ1, μ2, h1, h2, h3⟩ := k_seed (xs (x3 + 1).toNatClampNeg) μ hI
  refine lv_aload_n C.1 C.2.1 dL_law_686 rfl (lv_at hF 1 rfl) ?_
  refine lr_arg (jn := 1) C (lv_at hF 0 rfl) (lv_at hF 3 rfl) hS (by decide) hin.1 dL_law_687 dL_law_688 dL_law_689 dL_law_690 dL_law_691 ?_
  refine lr_call (as := [xs (x3 + 1).toNatClampNeg]) (rest := []) (w1 := 659) (w2 := 660) (w3 := 661) C (List.mem_of_getElem? (i := 40) rfl) (k_X7_seed l) h1 hP hS hF.1 (Nat.le_of_ble_eq_true rfl) hc1 hc2 dL_law_692 (fun H1 locs1 hP1 hS1 => ?_)
  refine lv_aload_n C.1 C.2.1 dL_law_695 rfl (lv_at hF 2 rfl) ?_
  refine lr_arg (jn := 1) C (lv_at hF 0 rfl) (lv_at hF 3 rfl) hS1 (by decide) hin.1 dL_law_696 dL_law_697 dL_law_698 dL_law_699 dL_law_700 ?_
  refine lr_call (as := [xs (x3 + 1).toNatClampNeg]) (rest := [Value.int r]) (w1 := 978) (w2 := 979) (w3 := 980) C (List.mem_of_getElem? (i := 41) rfl) (k_X8_seed l) h2 hP1 hS1 hF.1 (Nat.le_of_ble_eq_true rfl) hc1 hc2 dL_law_701 (fun H2 locs2 hP2 hS2 => ?_)
  exact lv_icmp_eq (tgt := 755) C.1 C.2.1 dL_law_704 (by decide) (fun _ => kk μ2 H2 locs2 h3 hP2 hS2) (fun hne => absurd rfl hne)
set_option maxRecDepth 20000 in
theorem lc_keep {x3 : Int32} (C : lw_C p s m c b L xs ad D cy) (hF : lw_F b ad x3 ls) (hin : lw_in x3 L) (hI : Inv μ) (hP : va_P D vwCl (mm_wl ad cy μ) H) (hS : va_S (fun q => s.heap.size ≤ q) s.heap H locs) (hc1 : cells ≤ 600000) (hc2 : slots ≤ 7302250)
    (kk : ∀ (μ2 : mM) (H2 : Heap) (locs2 : List Loc), Inv μ2 → va_P D vwCl (mm_wl ad cy μ2) H2 → va_S (fun q => s.heap.size ≤ q) s.heap H2 locs2 → W p l e room_1 s m #[Value.ref b] below meth c H2 locs2 cells slots Q (F0 m 755 ls [])) : W p l e room_1 s m #[Value.ref b] below meth c H locs cells slots Q (F0 m 709 ls []) := by
  obtain ⟨r, μ1, μ2, h1, h2, h3⟩ := k_keep (xs (x3 + 1).toNatClampNeg) μ hI
  refine lv_aload_n C.1 C.2.1 dL_law_709 rfl (lv_at hF 1 rfl) ?_
  refine lr_arg (jn := 1) C (lv_at hF 0 rfl) (lv_at hF 3 rfl) hS (by decide) hin.1 dL_law_710 dL_law_711 dL_law_712 dL_law_713 dL_law_714 ?_
  refine lr_call (as := [xs (x3 + 1).toNatClampNeg]) (rest := []) (w1 := 663) (w2 := 664) (w3 := 665) C (List.mem_of_getElem? (i := 42) rfl) (k_X7_keep l) h1 hP hS hF.1 (Nat.le_of_ble_eq_true rfl) hc1 hc2 dL_law_715 (fun H1 locs1 hP1 hS1 => ?_)
  refine lv_aload_n C.1 C.2.1 dL_law_718 rfl (lv_at hF 2 rfl) ?_
  refine lr_arg (jn := 1) C (lv_at hF 0 rfl) (lv_at hF 3 rfl) hS1 (by decide) hin.1 dL_law_719 dL_law_720 dL_law_721 dL_law_722 dL_law_723 ?_
  refine lr_call (as := [xs (x3 + 1).toNatClampNeg]) (rest := [Value.int r]) (w1 := 982) (w2 := 983) (w3 := 984) C (List.mem_of_getElem? (i := 43) rfl) (k_X8_keep l) h2 hP1 hS1 hF.1 (Nat.le_of_ble_eq_true rfl) hc1 hc2 dL_law_724 (fun H2 locs2 hP2 hS2 => ?_)
  exact lv_icmp_eq (tgt := 755) C.1 C.2.1 dL_law_727 (by decide) (fun _ => kk μ2 H2 locs2 h3 hP2 hS2) (fun hne => absurd rfl hne)
set_option maxRecDepth 20000 in
theorem lc_goBack {x3 : Int32} (C : lw_C p s m c b L xs ad D cy) (hF : lw_F b ad x3 ls) (hin : lw_in x3 L) (hI : Inv μ) (hP : va_P D vwCl (mm_wl ad cy μ) H) (hS : va_S (fun q => s.heap.size ≤ q) s.heap H locs) (hc1 : cells ≤ 600000) (hc2 : slots ≤ 7302250)
    (kk : ∀ (μ2 : mM) (H2 : Heap) (locs2 : List Loc), Inv μ2 → va_P D vwCl (mm_wl ad cy μ2) H2 → va_S (fun q => s.heap.size ≤ q) s.heap H2 locs2 → W p l e room_1 s m #[Value.ref b] below meth c H2 locs2 cells slots Q (F0 m 755 ls [])) : W p l e room_1 s m #[Value.ref b] below meth c H locs cells slots Q (F0 m 732 ls []) := by
  obtain ⟨r, μ1, μ2, h1, h2, h3⟩ := k_goBack (xs (x3 + 1).toNatClampNeg) μ hI
  refine lv_aload_n C.1 C.2.1 dL_law_732 rfl (lv_at hF 1 rfl) ?_
  refine lr_arg (jn := 1) C (lv_at hF 0 rfl) (lv_at hF 3 rfl) hS (by decide) hin.1 dL_law_733 dL_law_734 dL_law_735 dL_law_736 dL_law_737 ?_
  refine lr_call (as := [xs (x3 + 1).toNatClampNeg]) (rest := []) (w1 := 668) (w2 := 669) (w3 := 670) C (List.mem_of_getElem? (i := 44) rfl) (k_X7_goBack l) h1 hP hS hF.1 (Nat.le_of_ble_eq_true rfl) hc1 hc2 dL_law_738 (fun H1 locs1 hP1 hS1 => ?_)
  refine lv_aload_n C.1 C.2.1 dL_law_741 rfl (lv_at hF 2 rfl) ?_
  refine lr_arg (jn := 1) C (lv_at hF 0 rfl) (lv_at hF 3 rfl) hS1 (by decide) hin.1 dL_law_742 dL_law_743 dL_law_744 dL_law_745 dL_law_746 ?_
  refine lr_call (as := [xs (x3 + 1).toNatClampNeg]) (rest := [Value.int r]) (w1 := 986) (w2 := 987) (w3 := 988) C (List.mem_of_getElem? (i := 45) rfl) (k_X8_goBack l) h2 hP1 hS1 hF.1 (Nat.le_of_ble_eq_true rfl) hc1 hc2 dL_law_747 (fun H2 locs2 hP2 hS2 => ?_)
  exact lv_icmp_eq (tgt := 755) C.1 C.2.1 dL_law_750 (by decide) (fun _ => kk μ2 H2 locs2 h3 hP2 hS2) (fun hne => absurd rfl hne)
end LC
