section LWO
variable {p : Program} {l : Launch} {e : Env} {s : State} {m : MethodId} {below : List Frame} {meth : Method} {c : Code} {G : va_G} {cs : ax_K} {ad0 : ax_N → Nat} {b : Nat} {uc us : Nat} {κ ρ : ax_R} {bb n Ln : Nat} {xs : Nat → Int32}
abbrev lwL (n : Nat) : List (Option ax_V) := [none, some (ax_r (1, 0)), some (ax_r (80, 0)), some (ax_i (nI n))]
theorem lo_region (X : ax_X mL_law p s m #[Value.ref b] meth c G cs (fun q => s.heap.size ≤ q) (ad0 ax_E)) (hX : va_X b Ln xs s s.heap) (hbl : b < s.heap.size) (h : Iv κ ρ bb (fun _ => True)) (hb : bb + 100 < 1000000) (hn : n + 5 ≤ Ln) (hLn : Ln ≤ 2560) (hu : uc + 100 ≤ 600000) (hs : us + 7300 ≤ 7302250) (kk : ∀ κ2 ρ2, Iv κ2 ρ2 (bb + 100) (fun _ => True) → lz p l e s m below meth c G cs ad0 b 701 (lwL n) [] (fh (ch κ2) ρ2) (uc + 100) (us + 7300)) : lz p l e s m below meth c G cs ad0 b 124 (lwL n) [] (fh (ch κ) ρ) uc us := by
  obtain ⟨a, κ2, ρ2, h1, h2, h3⟩ := op_region h (xs (n + 1)) (xs (n + 2)) (xs (n + 3))
  refine lz_aload_n X dL_law_124 rfl ?_
  refine lz_arg X hX hbl 1 dL_law_125 dL_law_126 dL_law_127 dL_law_128 dL_law_129 (by decide) rfl (by omega) hLn ?_
  refine lz_arg X hX hbl 2 dL_law_130 dL_law_131 dL_law_132 dL_law_133 dL_law_134 (by decide) rfl (by omega) hLn ?_
  refine lz_arg X hX hbl 3 dL_law_135 dL_law_136 dL_law_137 dL_law_138 dL_law_139 (by decide) rfl (by omega) hLn ?_
  refine lz_callV (As := [ax_i (xs (n + 1)), ax_i (xs (n + 2)), ax_i (xs (n + 3))]) (S := []) (u := (1, 0)) (ci := 4) (T := TX3) (N := 7) X cv_L_13 dL_law_140 rfl rfl rfl h1 (by decide) (by omega) (by omega) (Nat.le_of_ble_eq_true rfl) (fun r hh hF _ => ?_)
  obtain ⟨rfl, rfl⟩ := hF
  refine lz_aload_n X dL_law_143 rfl ?_
  refine lz_arg X hX hbl 1 dL_law_144 dL_law_145 dL_law_146 dL_law_147 dL_law_148 (by decide) rfl (by omega) hLn ?_
  refine lz_arg X hX hbl 2 dL_law_149 dL_law_150 dL_law_151 dL_law_152 dL_law_153 (by decide) rfl (by omega) hLn ?_
  refine lz_arg X hX hbl 3 dL_law_154 dL_law_155 dL_law_156 dL_law_157 dL_law_158 (by decide) rfl (by omega) hLn ?_
  refine lz_callV (As := [ax_i (xs (n + 1)), ax_i (xs (n + 2)), ax_i (xs (n + 3))]) (S := [ax_i a]) (u := (80, 0)) (ci := 5) (T := TX4) (N := 33) X cv_L_17 dL_law_159 rfl rfl rfl h2 (by decide) (by omega) (by omega) (Nat.le_of_ble_eq_true rfl) (fun r hh hF _ => ?_)
  obtain ⟨rfl, rfl⟩ := hF
  refine lz_icmp_eq X 701 dL_law_162 (by decide) (fun _ => ?_) (fun z => absurd rfl z)
  exact lz_widen (by omega) (by omega) (kk κ2 ρ2 h3)
theorem lo_fail (X : ax_X mL_law p s m #[Value.ref b] meth c G cs (fun q => s.heap.size ≤ q) (ad0 ax_E)) (hX : va_X b Ln xs s s.heap) (hbl : b < s.heap.size) (h : Iv κ ρ bb (fun _ => True)) (hb : bb + 100 < 1000000) (hn : n + 5 ≤ Ln) (hLn : Ln ≤ 2560) (hu : uc + 100 ≤ 600000) (hs : us + 7300 ≤ 7302250) (kk : ∀ κ2 ρ2, Iv κ2 ρ2 (bb + 100) (fun _ => True) → lz p l e s m below meth c G cs ad0 b 701 (lwL n) [] (fh (ch κ2) ρ2) (uc + 100) (us + 7300)) : lz p l e s m below meth c G cs ad0 b 167 (lwL n) [] (fh (ch κ) ρ) uc us := by
  obtain ⟨a, κ2, ρ2, h1, h2, h3⟩ := op_fail h (xs (n + 1))
  refine lz_aload_n X dL_law_167 rfl ?_
  refine lz_arg X hX hbl 1 dL_law_168 dL_law_169 dL_law_170 dL_law_171 dL_law_172 (by decide) rfl (by omega) hLn ?_
  refine lz_callV (As := [ax_i (xs (n + 1))]) (S := []) (u := (1, 0)) (ci := 4) (T := TX3) (N := 7) X cv_L_18 dL_law_173 rfl rfl rfl h1 (by decide) (by omega) (by omega) (Nat.le_of_ble_eq_true rfl) (fun r hh hF _ => ?_)
  obtain ⟨rfl, rfl⟩ := hF
  refine lz_aload_n X dL_law_176 rfl ?_
  refine lz_arg X hX hbl 1 dL_law_177 dL_law_178 dL_law_179 dL_law_180 dL_law_181 (by decide) rfl (by omega) hLn ?_
  refine lz_callV (As := [ax_i (xs (n + 1))]) (S := [ax_i a]) (u := (80, 0)) (ci := 5) (T := TX4) (N := 33) X cv_L_22 dL_law_182 rfl rfl rfl h2 (by decide) (by omega) (by omega) (Nat.le_of_ble_eq_true rfl) (fun r hh hF _ => ?_)
  obtain ⟨rfl, rfl⟩ := hF
  refine lz_icmp_eq X 701 dL_law_185 (by decide) (fun _ => ?_) (fun z => absurd rfl z)
  exact lz_widen (by omega) (by omega) (kk κ2 ρ2 h3)
theorem lo_configure (X : ax_X mL_law p s m #[Value.ref b] meth c G cs (fun q => s.heap.size ≤ q) (ad0 ax_E)) (hX : va_X b Ln xs s s.heap) (hbl : b < s.heap.size) (h : Iv κ ρ bb (fun _ => True)) (hb : bb + 100 < 1000000) (hn : n + 5 ≤ Ln) (hLn : Ln ≤ 2560) (hu : uc + 100 ≤ 600000) (hs : us + 7300 ≤ 7302250) (kk : ∀ κ2 ρ2, Iv κ2 ρ2 (bb + 100) (fun _ => True) → lz p l e s m below meth c G cs ad0 b 701 (lwL n) [] (fh (ch κ2) ρ2) (uc + 100) (us + 7300)) : lz p l e s m below meth c G cs ad0 b 190 (lwL n) [] (fh (ch κ) ρ) uc us := by
  obtain ⟨a, κ2, ρ2, h1, h2, h3⟩ := op_configure h hb
  refine lz_aload_n X dL_law_190 rfl ?_
  refine lz_callV (As := []) (S := []) (u := (1, 0)) (ci := 4) (T := TX3) (N := 7) X cv_L_23 dL_law_191 rfl rfl rfl h1 (by decide) (by omega) (by omega) (Nat.le_of_ble_eq_true rfl) (fun r hh hF _ => ?_)
  obtain ⟨rfl, rfl⟩ := hF
  refine lz_aload_n X dL_law_194 rfl ?_
  refine lz_callV (As := []) (S := [ax_i a]) (u := (80, 0)) (ci := 5) (T := TX4) (N := 33) X cv_L_27 dL_law_195 rfl rfl rfl h2 (by decide) (by omega) (by omega) (Nat.le_of_ble_eq_true rfl) (fun r hh hF _ => ?_)
  obtain ⟨rfl, rfl⟩ := hF
  refine lz_icmp_eq X 701 dL_law_198 (by decide) (fun _ => ?_) (fun z => absurd rfl z)
  exact lz_widen (by omega) (by omega) (kk κ2 ρ2 h3)
theorem lo_copy (X : ax_X mL_law p s m #[Value.ref b] meth c G cs (fun q => s.heap.size ≤ q) (ad0 ax_E)) (hX : va_X b Ln xs s s.heap) (hbl : b < s.heap.size) (h : Iv κ ρ bb (fun _ => True)) (hb : bb + 100 < 1000000) (hn : n + 5 ≤ Ln) (hLn : Ln ≤ 2560) (hu : uc + 100 ≤ 600000) (hs : us + 7300 ≤ 7302250) (kk : ∀ κ2 ρ2, Iv κ2 ρ2 (bb + 100) (fun _ => True) → lz p l e s m below meth c G cs ad0 b 701 (lwL n) [] (fh (ch κ2) ρ2) (uc + 100) (us + 7300)) : lz p l e s m below meth c G cs ad0 b 203 (lwL n) [] (fh (ch κ) ρ) uc us := by
  obtain ⟨a, κ2, ρ2, h1, h2, h3⟩ := op_copy h hb (xs (n + 1)) (xs (n + 2))
  refine lz_aload_n X dL_law_203 rfl ?_
  refine lz_arg X hX hbl 1 dL_law_204 dL_law_205 dL_law_206 dL_law_207 dL_law_208 (by decide) rfl (by omega) hLn ?_
  refine lz_arg X hX hbl 2 dL_law_209 dL_law_210 dL_law_211 dL_law_212 dL_law_213 (by decide) rfl (by omega) hLn ?_
  refine lz_callV (As := [ax_i (xs (n + 1)), ax_i (xs (n + 2))]) (S := []) (u := (1, 0)) (ci := 4) (T := TX3) (N := 7) X cv_L_28 dL_law_214 rfl rfl rfl h1 (by decide) (by omega) (by omega) (Nat.le_of_ble_eq_true rfl) (fun r hh hF _ => ?_)
  obtain ⟨rfl, rfl⟩ := hF
  refine lz_aload_n X dL_law_217 rfl ?_
  refine lz_arg X hX hbl 1 dL_law_218 dL_law_219 dL_law_220 dL_law_221 dL_law_222 (by decide) rfl (by omega) hLn ?_
  refine lz_arg X hX hbl 2 dL_law_223 dL_law_224 dL_law_225 dL_law_226 dL_law_227 (by decide) rfl (by omega) hLn ?_
  refine lz_callV (As := [ax_i (xs (n + 1)), ax_i (xs (n + 2))]) (S := [ax_i a]) (u := (80, 0)) (ci := 5) (T := TX4) (N := 33) X cv_L_32 dL_law_228 rfl rfl rfl h2 (by decide) (by omega) (by omega) (Nat.le_of_ble_eq_true rfl) (fun r hh hF _ => ?_)
  obtain ⟨rfl, rfl⟩ := hF
  refine lz_icmp_eq X 701 dL_law_231 (by decide) (fun _ => ?_) (fun z => absurd rfl z)
  exact lz_widen (by omega) (by omega) (kk κ2 ρ2 h3)
theorem lo_machine (X : ax_X mL_law p s m #[Value.ref b] meth c G cs (fun q => s.heap.size ≤ q) (ad0 ax_E)) (hX : va_X b Ln xs s s.heap) (hbl : b < s.heap.size) (h : Iv κ ρ bb (fun _ => True)) (hb : bb + 100 < 1000000) (hn : n + 5 ≤ Ln) (hLn : Ln ≤ 2560) (hu : uc + 100 ≤ 600000) (hs : us + 7300 ≤ 7302250) (kk : ∀ κ2 ρ2, Iv κ2 ρ2 (bb + 100) (fun _ => True) → lz p l e s m below meth c G cs ad0 b 701 (lwL n) [] (fh (ch κ2) ρ2) (uc + 100) (us + 7300)) : lz p l e s m below meth c G cs ad0 b 236 (lwL n) [] (fh (ch κ) ρ) uc us := by
  obtain ⟨a, κ2, ρ2, h1, h2, h3⟩ := op_machine h (xs (n + 1)) (xs (n + 2))
  refine lz_aload_n X dL_law_236 rfl ?_
  refine lz_arg X hX hbl 1 dL_law_237 dL_law_238 dL_law_239 dL_law_240 dL_law_241 (by decide) rfl (by omega) hLn ?_
  refine lz_arg X hX hbl 2 dL_law_242 dL_law_243 dL_law_244 dL_law_245 dL_law_246 (by decide) rfl (by omega) hLn ?_
  refine lz_callV (As := [ax_i (xs (n + 1)), ax_i (xs (n + 2))]) (S := []) (u := (1, 0)) (ci := 4) (T := TX3) (N := 7) X cv_L_33 dL_law_247 rfl rfl rfl h1 (by decide) (by omega) (by omega) (Nat.le_of_ble_eq_true rfl) (fun r hh hF _ => ?_)
  obtain ⟨rfl, rfl⟩ := hF
  refine lz_aload_n X dL_law_250 rfl ?_
  refine lz_arg X hX hbl 1 dL_law_251 dL_law_252 dL_law_253 dL_law_254 dL_law_255 (by decide) rfl (by omega) hLn ?_
  refine lz_arg X hX hbl 2 dL_law_256 dL_law_257 dL_law_258 dL_law_259 dL_law_260 (by decide) rfl (by omega) hLn ?_
  refine lz_callV (As := [ax_i (xs (n + 1)), ax_i (xs (n + 2))]) (S := [ax_i a]) (u := (80, 0)) (ci := 5) (T := TX4) (N := 33) X cv_L_36 dL_law_261 rfl rfl rfl h2 (by decide) (by omega) (by omega) (Nat.le_of_ble_eq_true rfl) (fun r hh hF _ => ?_)
  obtain ⟨rfl, rfl⟩ := hF
  refine lz_icmp_eq X 701 dL_law_264 (by decide) (fun _ => ?_) (fun z => absurd rfl z)
  exact lz_widen (by omega) (by omega) (kk κ2 ρ2 h3)
theorem lo_copyAt (X : ax_X mL_law p s m #[Value.ref b] meth c G cs (fun q => s.heap.size ≤ q) (ad0 ax_E)) (hX : va_X b Ln xs s s.heap) (hbl : b < s.heap.size) (h : Iv κ ρ bb (fun _ => True)) (hb : bb + 100 < 1000000) (hn : n + 5 ≤ Ln) (hLn : Ln ≤ 2560) (hu : uc + 100 ≤ 600000) (hs : us + 7300 ≤ 7302250) (kk : ∀ κ2 ρ2, Iv κ2 ρ2 (bb + 100) (fun _ => True) → lz p l e s m below meth c G cs ad0 b 701 (lwL n) [] (fh (ch κ2) ρ2) (uc + 100) (us + 7300)) : lz p l e s m below meth c G cs ad0 b 269 (lwL n) [] (fh (ch κ) ρ) uc us := by
  obtain ⟨a, κ2, ρ2, h1, h2, h3⟩ := op_copyAt h (xs (n + 1)) (xs (n + 2))
  refine lz_aload_n X dL_law_269 rfl ?_
  refine lz_arg X hX hbl 1 dL_law_270 dL_law_271 dL_law_272 dL_law_273 dL_law_274 (by decide) rfl (by omega) hLn ?_
  refine lz_arg X hX hbl 2 dL_law_275 dL_law_276 dL_law_277 dL_law_278 dL_law_279 (by decide) rfl (by omega) hLn ?_
  refine lz_callV (As := [ax_i (xs (n + 1)), ax_i (xs (n + 2))]) (S := []) (u := (1, 0)) (ci := 4) (T := TX3) (N := 7) X cv_L_37 dL_law_280 rfl rfl rfl h1 (by decide) (by omega) (by omega) (Nat.le_of_ble_eq_true rfl) (fun r hh hF _ => ?_)
  obtain ⟨rfl, rfl⟩ := hF
  refine lz_aload_n X dL_law_283 rfl ?_
  refine lz_arg X hX hbl 1 dL_law_284 dL_law_285 dL_law_286 dL_law_287 dL_law_288 (by decide) rfl (by omega) hLn ?_
  refine lz_arg X hX hbl 2 dL_law_289 dL_law_290 dL_law_291 dL_law_292 dL_law_293 (by decide) rfl (by omega) hLn ?_
  refine lz_callV (As := [ax_i (xs (n + 1)), ax_i (xs (n + 2))]) (S := [ax_i a]) (u := (80, 0)) (ci := 5) (T := TX4) (N := 33) X cv_L_40 dL_law_294 rfl rfl rfl h2 (by decide) (by omega) (by omega) (Nat.le_of_ble_eq_true rfl) (fun r hh hF _ => ?_)
  obtain ⟨rfl, rfl⟩ := hF
  refine lz_icmp_eq X 701 dL_law_297 (by decide) (fun _ => ?_) (fun z => absurd rfl z)
  exact lz_widen (by omega) (by omega) (kk κ2 ρ2 h3)
theorem lo_object (X : ax_X mL_law p s m #[Value.ref b] meth c G cs (fun q => s.heap.size ≤ q) (ad0 ax_E)) (hX : va_X b Ln xs s s.heap) (hbl : b < s.heap.size) (h : Iv κ ρ bb (fun _ => True)) (hb : bb + 100 < 1000000) (hn : n + 5 ≤ Ln) (hLn : Ln ≤ 2560) (hu : uc + 100 ≤ 600000) (hs : us + 7300 ≤ 7302250) (kk : ∀ κ2 ρ2, Iv κ2 ρ2 (bb + 100) (fun _ => True) → lz p l e s m below meth c G cs ad0 b 701 (lwL n) [] (fh (ch κ2) ρ2) (uc + 100) (us + 7300)) : lz p l e s m below meth c G cs ad0 b 302 (lwL n) [] (fh (ch κ) ρ) uc us := by
  obtain ⟨a, κ2, ρ2, h1, h2, h3⟩ := op_object h (xs (n + 1)) (xs (n + 2)) (xs (n + 3)) (xs (n + 4))
  refine lz_aload_n X dL_law_302 rfl ?_
  refine lz_arg X hX hbl 1 dL_law_303 dL_law_304 dL_law_305 dL_law_306 dL_law_307 (by decide) rfl (by omega) hLn ?_
  refine lz_arg X hX hbl 2 dL_law_308 dL_law_309 dL_law_310 dL_law_311 dL_law_312 (by decide) rfl (by omega) hLn ?_
  refine lz_arg X hX hbl 3 dL_law_313 dL_law_314 dL_law_315 dL_law_316 dL_law_317 (by decide) rfl (by omega) hLn ?_
  refine lz_arg X hX hbl 4 dL_law_318 dL_law_319 dL_law_320 dL_law_321 dL_law_322 (by decide) rfl (by omega) hLn ?_
  refine lz_callV (As := [ax_i (xs (n + 1)), ax_i (xs (n + 2)), ax_i (xs (n + 3)), ax_i (xs (n + 4))]) (S := []) (u := (1, 0)) (ci := 4) (T := TX3) (N := 7) X cv_L_41 dL_law_323 rfl rfl rfl h1 (by decide) (by omega) (by omega) (Nat.le_of_ble_eq_true rfl) (fun r hh hF _ => ?_)
  obtain ⟨rfl, rfl⟩ := hF
  refine lz_aload_n X dL_law_326 rfl ?_
  refine lz_arg X hX hbl 1 dL_law_327 dL_law_328 dL_law_329 dL_law_330 dL_law_331 (by decide) rfl (by omega) hLn ?_
  refine lz_arg X hX hbl 2 dL_law_332 dL_law_333 dL_law_334 dL_law_335 dL_law_336 (by decide) rfl (by omega) hLn ?_
  refine lz_arg X hX hbl 3 dL_law_337 dL_law_338 dL_law_339 dL_law_340 dL_law_341 (by decide) rfl (by omega) hLn ?_
  refine lz_arg X hX hbl 4 dL_law_342 dL_law_343 dL_law_344 dL_law_345 dL_law_346 (by decide) rfl (by omega) hLn ?_
  refine lz_callV (As := [ax_i (xs (n + 1)), ax_i (xs (n + 2)), ax_i (xs (n + 3)), ax_i (xs (n + 4))]) (S := [ax_i a]) (u := (80, 0)) (ci := 5) (T := TX4) (N := 33) X cv_L_45 dL_law_347 rfl rfl rfl h2 (by decide) (by omega) (by omega) (Nat.le_of_ble_eq_true rfl) (fun r hh hF _ => ?_)
  obtain ⟨rfl, rfl⟩ := hF
  refine lz_icmp_eq X 701 dL_law_350 (by decide) (fun _ => ?_) (fun z => absurd rfl z)
  exact lz_widen (by omega) (by omega) (kk κ2 ρ2 h3)
theorem lo_begin (X : ax_X mL_law p s m #[Value.ref b] meth c G cs (fun q => s.heap.size ≤ q) (ad0 ax_E)) (hX : va_X b Ln xs s s.heap) (hbl : b < s.heap.size) (h : Iv κ ρ bb (fun _ => True)) (hb : bb + 100 < 1000000) (hn : n + 5 ≤ Ln) (hLn : Ln ≤ 2560) (hu : uc + 100 ≤ 600000) (hs : us + 7300 ≤ 7302250) (kk : ∀ κ2 ρ2, Iv κ2 ρ2 (bb + 100) (fun _ => True) → lz p l e s m below meth c G cs ad0 b 701 (lwL n) [] (fh (ch κ2) ρ2) (uc + 100) (us + 7300)) : lz p l e s m below meth c G cs ad0 b 355 (lwL n) [] (fh (ch κ) ρ) uc us := by
  obtain ⟨a, κ2, ρ2, h1, h2, h3⟩ := op_begin h (xs (n + 1))
  refine lz_aload_n X dL_law_355 rfl ?_
  refine lz_arg X hX hbl 1 dL_law_356 dL_law_357 dL_law_358 dL_law_359 dL_law_360 (by decide) rfl (by omega) hLn ?_
  refine lz_callV (As := [ax_i (xs (n + 1))]) (S := []) (u := (1, 0)) (ci := 4) (T := TX3) (N := 7) X cv_L_46 dL_law_361 rfl rfl rfl h1 (by decide) (by omega) (by omega) (Nat.le_of_ble_eq_true rfl) (fun r hh hF _ => ?_)
  obtain ⟨rfl, rfl⟩ := hF
  refine lz_aload_n X dL_law_364 rfl ?_
  refine lz_arg X hX hbl 1 dL_law_365 dL_law_366 dL_law_367 dL_law_368 dL_law_369 (by decide) rfl (by omega) hLn ?_
  refine lz_callV (As := [ax_i (xs (n + 1))]) (S := [ax_i a]) (u := (80, 0)) (ci := 5) (T := TX4) (N := 33) X cv_L_49 dL_law_370 rfl rfl rfl h2 (by decide) (by omega) (by omega) (Nat.le_of_ble_eq_true rfl) (fun r hh hF _ => ?_)
  obtain ⟨rfl, rfl⟩ := hF
  refine lz_icmp_eq X 701 dL_law_373 (by decide) (fun _ => ?_) (fun z => absurd rfl z)
  exact lz_widen (by omega) (by omega) (kk κ2 ρ2 h3)
theorem lo_read (X : ax_X mL_law p s m #[Value.ref b] meth c G cs (fun q => s.heap.size ≤ q) (ad0 ax_E)) (hX : va_X b Ln xs s s.heap) (hbl : b < s.heap.size) (h : Iv κ ρ bb (fun _ => True)) (hb : bb + 100 < 1000000) (hn : n + 5 ≤ Ln) (hLn : Ln ≤ 2560) (hu : uc + 100 ≤ 600000) (hs : us + 7300 ≤ 7302250) (kk : ∀ κ2 ρ2, Iv κ2 ρ2 (bb + 100) (fun _ => True) → lz p l e s m below meth c G cs ad0 b 701 (lwL n) [] (fh (ch κ2) ρ2) (uc + 100) (us + 7300)) : lz p l e s m below meth c G cs ad0 b 378 (lwL n) [] (fh (ch κ) ρ) uc us := by
  obtain ⟨a, κ2, ρ2, h1, h2, h3⟩ := op_read h hb (xs (n + 1)) (xs (n + 2)) (xs (n + 3))
  refine lz_aload_n X dL_law_378 rfl ?_
  refine lz_arg X hX hbl 1 dL_law_379 dL_law_380 dL_law_381 dL_law_382 dL_law_383 (by decide) rfl (by omega) hLn ?_
  refine lz_arg X hX hbl 2 dL_law_384 dL_law_385 dL_law_386 dL_law_387 dL_law_388 (by decide) rfl (by omega) hLn ?_
  refine lz_arg X hX hbl 3 dL_law_389 dL_law_390 dL_law_391 dL_law_392 dL_law_393 (by decide) rfl (by omega) hLn ?_
  refine lz_callV (As := [ax_i (xs (n + 1)), ax_i (xs (n + 2)), ax_i (xs (n + 3))]) (S := []) (u := (1, 0)) (ci := 4) (T := TX3) (N := 7) X cv_L_50 dL_law_394 rfl rfl rfl h1 (by decide) (by omega) (by omega) (Nat.le_of_ble_eq_true rfl) (fun r hh hF _ => ?_)
  obtain ⟨rfl, rfl⟩ := hF
  refine lz_aload_n X dL_law_397 rfl ?_
  refine lz_arg X hX hbl 1 dL_law_398 dL_law_399 dL_law_400 dL_law_401 dL_law_402 (by decide) rfl (by omega) hLn ?_
  refine lz_arg X hX hbl 2 dL_law_403 dL_law_404 dL_law_405 dL_law_406 dL_law_407 (by decide) rfl (by omega) hLn ?_
  refine lz_arg X hX hbl 3 dL_law_408 dL_law_409 dL_law_410 dL_law_411 dL_law_412 (by decide) rfl (by omega) hLn ?_
  refine lz_callV (As := [ax_i (xs (n + 1)), ax_i (xs (n + 2)), ax_i (xs (n + 3))]) (S := [ax_i a]) (u := (80, 0)) (ci := 5) (T := TX4) (N := 33) X cv_L_53 dL_law_413 rfl rfl rfl h2 (by decide) (by omega) (by omega) (Nat.le_of_ble_eq_true rfl) (fun r hh hF _ => ?_)
  obtain ⟨rfl, rfl⟩ := hF
  refine lz_icmp_eq X 701 dL_law_416 (by decide) (fun _ => ?_) (fun z => absurd rfl z)
  exact lz_widen (by omega) (by omega) (kk κ2 ρ2 h3)
theorem lo_write (X : ax_X mL_law p s m #[Value.ref b] meth c G cs (fun q => s.heap.size ≤ q) (ad0 ax_E)) (hX : va_X b Ln xs s s.heap) (hbl : b < s.heap.size) (h : Iv κ ρ bb (fun _ => True)) (hb : bb + 100 < 1000000) (hn : n + 5 ≤ Ln) (hLn : Ln ≤ 2560) (hu : uc + 100 ≤ 600000) (hs : us + 7300 ≤ 7302250) (kk : ∀ κ2 ρ2, Iv κ2 ρ2 (bb + 100) (fun _ => True) → lz p l e s m below meth c G cs ad0 b 701 (lwL n) [] (fh (ch κ2) ρ2) (uc + 100) (us + 7300)) : lz p l e s m below meth c G cs ad0 b 421 (lwL n) [] (fh (ch κ) ρ) uc us := by
  obtain ⟨a, κ2, ρ2, h1, h2, h3⟩ := op_write h hb (xs (n + 1)) (xs (n + 2)) (xs (n + 3)) (xs (n + 4))
  refine lz_aload_n X dL_law_421 rfl ?_
  refine lz_arg X hX hbl 1 dL_law_422 dL_law_423 dL_law_424 dL_law_425 dL_law_426 (by decide) rfl (by omega) hLn ?_
  refine lz_arg X hX hbl 2 dL_law_427 dL_law_428 dL_law_429 dL_law_430 dL_law_431 (by decide) rfl (by omega) hLn ?_
  refine lz_arg X hX hbl 3 dL_law_432 dL_law_433 dL_law_434 dL_law_435 dL_law_436 (by decide) rfl (by omega) hLn ?_
  refine lz_arg X hX hbl 4 dL_law_437 dL_law_438 dL_law_439 dL_law_440 dL_law_441 (by decide) rfl (by omega) hLn ?_
  refine lz_callV (As := [ax_i (xs (n + 1)), ax_i (xs (n + 2)), ax_i (xs (n + 3)), ax_i (xs (n + 4))]) (S := []) (u := (1, 0)) (ci := 4) (T := TX3) (N := 7) X cv_L_54 dL_law_442 rfl rfl rfl h1 (by decide) (by omega) (by omega) (Nat.le_of_ble_eq_true rfl) (fun r hh hF _ => ?_)
  obtain ⟨rfl, rfl⟩ := hF
  refine lz_aload_n X dL_law_445 rfl ?_
  refine lz_arg X hX hbl 1 dL_law_446 dL_law_447 dL_law_448 dL_law_449 dL_law_450 (by decide) rfl (by omega) hLn ?_
  refine lz_arg X hX hbl 2 dL_law_451 dL_law_452 dL_law_453 dL_law_454 dL_law_455 (by decide) rfl (by omega) hLn ?_
  refine lz_arg X hX hbl 3 dL_law_456 dL_law_457 dL_law_458 dL_law_459 dL_law_460 (by decide) rfl (by omega) hLn ?_
  refine lz_arg X hX hbl 4 dL_law_461 dL_law_462 dL_law_463 dL_law_464 dL_law_465 (by decide) rfl (by omega) hLn ?_
  refine lz_callV (As := [ax_i (xs (n + 1)), ax_i (xs (n + 2)), ax_i (xs (n + 3)), ax_i (xs (n + 4))]) (S := [ax_i a]) (u := (80, 0)) (ci := 5) (T := TX4) (N := 33) X cv_L_57 dL_law_466 rfl rfl rfl h2 (by decide) (by omega) (by omega) (Nat.le_of_ble_eq_true rfl) (fun r hh hF _ => ?_)
  obtain ⟨rfl, rfl⟩ := hF
  refine lz_icmp_eq X 701 dL_law_469 (by decide) (fun _ => ?_) (fun z => absurd rfl z)
  exact lz_widen (by omega) (by omega) (kk κ2 ρ2 h3)
theorem lo_commit (X : ax_X mL_law p s m #[Value.ref b] meth c G cs (fun q => s.heap.size ≤ q) (ad0 ax_E)) (hX : va_X b Ln xs s s.heap) (hbl : b < s.heap.size) (h : Iv κ ρ bb (fun _ => True)) (hb : bb + 100 < 1000000) (hn : n + 5 ≤ Ln) (hLn : Ln ≤ 2560) (hu : uc + 100 ≤ 600000) (hs : us + 7300 ≤ 7302250) (kk : ∀ κ2 ρ2, Iv κ2 ρ2 (bb + 100) (fun _ => True) → lz p l e s m below meth c G cs ad0 b 701 (lwL n) [] (fh (ch κ2) ρ2) (uc + 100) (us + 7300)) : lz p l e s m below meth c G cs ad0 b 474 (lwL n) [] (fh (ch κ) ρ) uc us := by
  obtain ⟨a, κ2, ρ2, h1, h2, h3⟩ := op_commit h (xs (n + 1))
  refine lz_aload_n X dL_law_474 rfl ?_
  refine lz_arg X hX hbl 1 dL_law_475 dL_law_476 dL_law_477 dL_law_478 dL_law_479 (by decide) rfl (by omega) hLn ?_
  refine lz_callV (As := [ax_i (xs (n + 1))]) (S := []) (u := (1, 0)) (ci := 4) (T := TX3) (N := 7) X cv_L_58 dL_law_480 rfl rfl rfl h1 (by decide) (by omega) (by omega) (Nat.le_of_ble_eq_true rfl) (fun r hh hF _ => ?_)
  obtain ⟨rfl, rfl⟩ := hF
  refine lz_aload_n X dL_law_483 rfl ?_
  refine lz_arg X hX hbl 1 dL_law_484 dL_law_485 dL_law_486 dL_law_487 dL_law_488 (by decide) rfl (by omega) hLn ?_
  refine lz_callV (As := [ax_i (xs (n + 1))]) (S := [ax_i a]) (u := (80, 0)) (ci := 5) (T := TX4) (N := 33) X cv_L_61 dL_law_489 rfl rfl rfl h2 (by decide) (by omega) (by omega) (Nat.le_of_ble_eq_true rfl) (fun r hh hF _ => ?_)
  obtain ⟨rfl, rfl⟩ := hF
  refine lz_icmp_eq X 701 dL_law_492 (by decide) (fun _ => ?_) (fun z => absurd rfl z)
  exact lz_widen (by omega) (by omega) (kk κ2 ρ2 h3)
theorem lo_drop (X : ax_X mL_law p s m #[Value.ref b] meth c G cs (fun q => s.heap.size ≤ q) (ad0 ax_E)) (hX : va_X b Ln xs s s.heap) (hbl : b < s.heap.size) (h : Iv κ ρ bb (fun _ => True)) (hb : bb + 100 < 1000000) (hn : n + 5 ≤ Ln) (hLn : Ln ≤ 2560) (hu : uc + 100 ≤ 600000) (hs : us + 7300 ≤ 7302250) (kk : ∀ κ2 ρ2, Iv κ2 ρ2 (bb + 100) (fun _ => True) → lz p l e s m below meth c G cs ad0 b 701 (lwL n) [] (fh (ch κ2) ρ2) (uc + 100) (us + 7300)) : lz p l e s m below meth c G cs ad0 b 497 (lwL n) [] (fh (ch κ) ρ) uc us := by
  obtain ⟨a, κ2, ρ2, h1, h2, h3⟩ := op_drop h (xs (n + 1))
  refine lz_aload_n X dL_law_497 rfl ?_
  refine lz_arg X hX hbl 1 dL_law_498 dL_law_499 dL_law_500 dL_law_501 dL_law_502 (by decide) rfl (by omega) hLn ?_
  refine lz_callV (As := [ax_i (xs (n + 1))]) (S := []) (u := (1, 0)) (ci := 4) (T := TX3) (N := 7) X cv_L_62 dL_law_503 rfl rfl rfl h1 (by decide) (by omega) (by omega) (Nat.le_of_ble_eq_true rfl) (fun r hh hF _ => ?_)
  obtain ⟨rfl, rfl⟩ := hF
  refine lz_aload_n X dL_law_506 rfl ?_
  refine lz_arg X hX hbl 1 dL_law_507 dL_law_508 dL_law_509 dL_law_510 dL_law_511 (by decide) rfl (by omega) hLn ?_
  refine lz_callV (As := [ax_i (xs (n + 1))]) (S := [ax_i a]) (u := (80, 0)) (ci := 5) (T := TX4) (N := 33) X cv_L_65 dL_law_512 rfl rfl rfl h2 (by decide) (by omega) (by omega) (Nat.le_of_ble_eq_true rfl) (fun r hh hF _ => ?_)
  obtain ⟨rfl, rfl⟩ := hF
  refine lz_icmp_eq X 701 dL_law_515 (by decide) (fun _ => ?_) (fun z => absurd rfl z)
  exact lz_widen (by omega) (by omega) (kk κ2 ρ2 h3)
theorem lo_step (X : ax_X mL_law p s m #[Value.ref b] meth c G cs (fun q => s.heap.size ≤ q) (ad0 ax_E)) (hX : va_X b Ln xs s s.heap) (hbl : b < s.heap.size) (h : Iv κ ρ bb (fun _ => True)) (hb : bb + 100 < 1000000) (hn : n + 5 ≤ Ln) (hLn : Ln ≤ 2560) (hu : uc + 100 ≤ 600000) (hs : us + 7300 ≤ 7302250) (kk : ∀ κ2 ρ2, Iv κ2 ρ2 (bb + 100) (fun _ => True) → lz p l e s m below meth c G cs ad0 b 701 (lwL n) [] (fh (ch κ2) ρ2) (uc + 100) (us + 7300)) : lz p l e s m below meth c G cs ad0 b 520 (lwL n) [] (fh (ch κ) ρ) uc us := by
  obtain ⟨a, κ2, ρ2, h1, h2, h3⟩ := op_step h hb (xs (n + 1))
  refine lz_aload_n X dL_law_520 rfl ?_
  refine lz_arg X hX hbl 1 dL_law_521 dL_law_522 dL_law_523 dL_law_524 dL_law_525 (by decide) rfl (by omega) hLn ?_
  refine lz_callV (As := [ax_i (xs (n + 1))]) (S := []) (u := (1, 0)) (ci := 4) (T := TX3) (N := 7) X cv_L_66 dL_law_526 rfl rfl rfl h1 (by decide) (by omega) (by omega) (Nat.le_of_ble_eq_true rfl) (fun r hh hF _ => ?_)
  obtain ⟨rfl, rfl⟩ := hF
  refine lz_aload_n X dL_law_529 rfl ?_
  refine lz_arg X hX hbl 1 dL_law_530 dL_law_531 dL_law_532 dL_law_533 dL_law_534 (by decide) rfl (by omega) hLn ?_
  refine lz_callV (As := [ax_i (xs (n + 1))]) (S := [ax_i a]) (u := (80, 0)) (ci := 5) (T := TX4) (N := 33) X cv_L_69 dL_law_535 rfl rfl rfl h2 (by decide) (by omega) (by omega) (Nat.le_of_ble_eq_true rfl) (fun r hh hF _ => ?_)
  obtain ⟨rfl, rfl⟩ := hF
  refine lz_icmp_eq X 701 dL_law_538 (by decide) (fun _ => ?_) (fun z => absurd rfl z)
  exact lz_widen (by omega) (by omega) (kk κ2 ρ2 h3)
theorem lo_run (X : ax_X mL_law p s m #[Value.ref b] meth c G cs (fun q => s.heap.size ≤ q) (ad0 ax_E)) (hX : va_X b Ln xs s s.heap) (hbl : b < s.heap.size) (h : Iv κ ρ bb (fun _ => True)) (hb : bb + 100 < 1000000) (hn : n + 5 ≤ Ln) (hLn : Ln ≤ 2560) (hu : uc + 100 ≤ 600000) (hs : us + 7300 ≤ 7302250) (kk : ∀ κ2 ρ2, Iv κ2 ρ2 (bb + 100) (fun _ => True) → lz p l e s m below meth c G cs ad0 b 701 (lwL n) [] (fh (ch κ2) ρ2) (uc + 100) (us + 7300)) : lz p l e s m below meth c G cs ad0 b 543 (lwL n) [] (fh (ch κ) ρ) uc us := by
  obtain ⟨a, κ2, ρ2, h1, h2, h3⟩ := op_run h hb (xs (n + 1)) (xs (n + 2))
  refine lz_aload_n X dL_law_543 rfl ?_
  refine lz_arg X hX hbl 1 dL_law_544 dL_law_545 dL_law_546 dL_law_547 dL_law_548 (by decide) rfl (by omega) hLn ?_
  refine lz_arg X hX hbl 2 dL_law_549 dL_law_550 dL_law_551 dL_law_552 dL_law_553 (by decide) rfl (by omega) hLn ?_
  refine lz_callV (As := [ax_i (xs (n + 1)), ax_i (xs (n + 2))]) (S := []) (u := (1, 0)) (ci := 4) (T := TX3) (N := 7) X cv_L_70 dL_law_554 rfl rfl rfl h1 (by decide) (by omega) (by omega) (Nat.le_of_ble_eq_true rfl) (fun r hh hF _ => ?_)
  obtain ⟨rfl, rfl⟩ := hF
  refine lz_aload_n X dL_law_557 rfl ?_
  refine lz_arg X hX hbl 1 dL_law_558 dL_law_559 dL_law_560 dL_law_561 dL_law_562 (by decide) rfl (by omega) hLn ?_
  refine lz_arg X hX hbl 2 dL_law_563 dL_law_564 dL_law_565 dL_law_566 dL_law_567 (by decide) rfl (by omega) hLn ?_
  refine lz_callV (As := [ax_i (xs (n + 1)), ax_i (xs (n + 2))]) (S := [ax_i a]) (u := (80, 0)) (ci := 5) (T := TX4) (N := 33) X cv_L_73 dL_law_568 rfl rfl rfl h2 (by decide) (by omega) (by omega) (Nat.le_of_ble_eq_true rfl) (fun r hh hF _ => ?_)
  obtain ⟨rfl, rfl⟩ := hF
  refine lz_icmp_eq X 701 dL_law_571 (by decide) (fun _ => ?_) (fun z => absurd rfl z)
  exact lz_widen (by omega) (by omega) (kk κ2 ρ2 h3)
theorem lo_about (X : ax_X mL_law p s m #[Value.ref b] meth c G cs (fun q => s.heap.size ≤ q) (ad0 ax_E)) (hX : va_X b Ln xs s s.heap) (hbl : b < s.heap.size) (h : Iv κ ρ bb (fun _ => True)) (hb : bb + 100 < 1000000) (hn : n + 5 ≤ Ln) (hLn : Ln ≤ 2560) (hu : uc + 100 ≤ 600000) (hs : us + 7300 ≤ 7302250) (kk : ∀ κ2 ρ2, Iv κ2 ρ2 (bb + 100) (fun _ => True) → lz p l e s m below meth c G cs ad0 b 701 (lwL n) [] (fh (ch κ2) ρ2) (uc + 100) (us + 7300)) : lz p l e s m below meth c G cs ad0 b 576 (lwL n) [] (fh (ch κ) ρ) uc us := by
  obtain ⟨a, κ2, ρ2, h1, h2, h3⟩ := op_about h (xs (n + 1)) (xs (n + 2))
  refine lz_aload_n X dL_law_576 rfl ?_
  refine lz_arg X hX hbl 1 dL_law_577 dL_law_578 dL_law_579 dL_law_580 dL_law_581 (by decide) rfl (by omega) hLn ?_
  refine lz_arg X hX hbl 2 dL_law_582 dL_law_583 dL_law_584 dL_law_585 dL_law_586 (by decide) rfl (by omega) hLn ?_
  refine lz_callV (As := [ax_i (xs (n + 1)), ax_i (xs (n + 2))]) (S := []) (u := (1, 0)) (ci := 4) (T := TX3) (N := 7) X cv_L_74 dL_law_587 rfl rfl rfl h1 (by decide) (by omega) (by omega) (Nat.le_of_ble_eq_true rfl) (fun r hh hF _ => ?_)
  obtain ⟨rfl, rfl⟩ := hF
  refine lz_aload_n X dL_law_590 rfl ?_
  refine lz_arg X hX hbl 1 dL_law_591 dL_law_592 dL_law_593 dL_law_594 dL_law_595 (by decide) rfl (by omega) hLn ?_
  refine lz_arg X hX hbl 2 dL_law_596 dL_law_597 dL_law_598 dL_law_599 dL_law_600 (by decide) rfl (by omega) hLn ?_
  refine lz_callV (As := [ax_i (xs (n + 1)), ax_i (xs (n + 2))]) (S := [ax_i a]) (u := (80, 0)) (ci := 5) (T := TX4) (N := 33) X cv_L_77 dL_law_601 rfl rfl rfl h2 (by decide) (by omega) (by omega) (Nat.le_of_ble_eq_true rfl) (fun r hh hF _ => ?_)
  obtain ⟨rfl, rfl⟩ := hF
  refine lz_icmp_eq X 701 dL_law_604 (by decide) (fun _ => ?_) (fun z => absurd rfl z)
  exact lz_widen (by omega) (by omega) (kk κ2 ρ2 h3)
theorem lo_item (X : ax_X mL_law p s m #[Value.ref b] meth c G cs (fun q => s.heap.size ≤ q) (ad0 ax_E)) (hX : va_X b Ln xs s s.heap) (hbl : b < s.heap.size) (h : Iv κ ρ bb (fun _ => True)) (hb : bb + 100 < 1000000) (hn : n + 5 ≤ Ln) (hLn : Ln ≤ 2560) (hu : uc + 100 ≤ 600000) (hs : us + 7300 ≤ 7302250) (kk : ∀ κ2 ρ2, Iv κ2 ρ2 (bb + 100) (fun _ => True) → lz p l e s m below meth c G cs ad0 b 701 (lwL n) [] (fh (ch κ2) ρ2) (uc + 100) (us + 7300)) : lz p l e s m below meth c G cs ad0 b 609 (lwL n) [] (fh (ch κ) ρ) uc us := by
  obtain ⟨a, κ2, ρ2, h1, h2, h3⟩ := op_item h (xs (n + 1)) (xs (n + 2)) (xs (n + 3))
  refine lz_aload_n X dL_law_609 rfl ?_
  refine lz_arg X hX hbl 1 dL_law_610 dL_law_611 dL_law_612 dL_law_613 dL_law_614 (by decide) rfl (by omega) hLn ?_
  refine lz_arg X hX hbl 2 dL_law_615 dL_law_616 dL_law_617 dL_law_618 dL_law_619 (by decide) rfl (by omega) hLn ?_
  refine lz_arg X hX hbl 3 dL_law_620 dL_law_621 dL_law_622 dL_law_623 dL_law_624 (by decide) rfl (by omega) hLn ?_
  refine lz_callV (As := [ax_i (xs (n + 1)), ax_i (xs (n + 2)), ax_i (xs (n + 3))]) (S := []) (u := (1, 0)) (ci := 4) (T := TX3) (N := 7) X cv_L_78 dL_law_625 rfl rfl rfl h1 (by decide) (by omega) (by omega) (Nat.le_of_ble_eq_true rfl) (fun r hh hF _ => ?_)
  obtain ⟨rfl, rfl⟩ := hF
  refine lz_aload_n X dL_law_628 rfl ?_
  refine lz_arg X hX hbl 1 dL_law_629 dL_law_630 dL_law_631 dL_law_632 dL_law_633 (by decide) rfl (by omega) hLn ?_
  refine lz_arg X hX hbl 2 dL_law_634 dL_law_635 dL_law_636 dL_law_637 dL_law_638 (by decide) rfl (by omega) hLn ?_
  refine lz_arg X hX hbl 3 dL_law_639 dL_law_640 dL_law_641 dL_law_642 dL_law_643 (by decide) rfl (by omega) hLn ?_
  refine lz_callV (As := [ax_i (xs (n + 1)), ax_i (xs (n + 2)), ax_i (xs (n + 3))]) (S := [ax_i a]) (u := (80, 0)) (ci := 5) (T := TX4) (N := 33) X cv_L_81 dL_law_644 rfl rfl rfl h2 (by decide) (by omega) (by omega) (Nat.le_of_ble_eq_true rfl) (fun r hh hF _ => ?_)
  obtain ⟨rfl, rfl⟩ := hF
  refine lz_icmp_eq X 701 dL_law_647 (by decide) (fun _ => ?_) (fun z => absurd rfl z)
  exact lz_widen (by omega) (by omega) (kk κ2 ρ2 h3)
theorem lo_check (X : ax_X mL_law p s m #[Value.ref b] meth c G cs (fun q => s.heap.size ≤ q) (ad0 ax_E)) (hX : va_X b Ln xs s s.heap) (hbl : b < s.heap.size) (h : Iv κ ρ bb (fun _ => True)) (hb : bb + 100 < 1000000) (hn : n + 5 ≤ Ln) (hLn : Ln ≤ 2560) (hu : uc + 100 ≤ 600000) (hs : us + 7300 ≤ 7302250) (kk : ∀ κ2 ρ2, Iv κ2 ρ2 (bb + 100) (fun _ => True) → lz p l e s m below meth c G cs ad0 b 701 (lwL n) [] (fh (ch κ2) ρ2) (uc + 100) (us + 7300)) : lz p l e s m below meth c G cs ad0 b 652 (lwL n) [] (fh (ch κ) ρ) uc us := by
  obtain ⟨a, κ2, ρ2, h1, h2, h3⟩ := op_check h
  refine lz_aload_n X dL_law_652 rfl ?_
  refine lz_callV (As := []) (S := []) (u := (1, 0)) (ci := 4) (T := TX3) (N := 7) X cv_L_82 dL_law_653 rfl rfl rfl h1 (by decide) (by omega) (by omega) (Nat.le_of_ble_eq_true rfl) (fun r hh hF _ => ?_)
  obtain ⟨rfl, rfl⟩ := hF
  refine lz_aload_n X dL_law_656 rfl ?_
  refine lz_callV (As := []) (S := [ax_i a]) (u := (80, 0)) (ci := 5) (T := TX4) (N := 33) X cv_L_85 dL_law_657 rfl rfl rfl h2 (by decide) (by omega) (by omega) (Nat.le_of_ble_eq_true rfl) (fun r hh hF _ => ?_)
  obtain ⟨rfl, rfl⟩ := hF
  refine lz_icmp_eq X 701 dL_law_660 (by decide) (fun _ => ?_) (fun z => absurd rfl z)
  exact lz_widen (by omega) (by omega) (kk κ2 ρ2 h3)
theorem lo_unlike (X : ax_X mL_law p s m #[Value.ref b] meth c G cs (fun q => s.heap.size ≤ q) (ad0 ax_E)) (hX : va_X b Ln xs s s.heap) (hbl : b < s.heap.size) (h : Iv κ ρ bb (fun _ => True)) (hb : bb + 100 < 1000000) (hn : n + 5 ≤ Ln) (hLn : Ln ≤ 2560) (hu : uc + 100 ≤ 600000) (hs : us + 7300 ≤ 7302250) (kk : ∀ κ2 ρ2, Iv κ2 ρ2 (bb + 100) (fun _ => True) → lz p l e s m below meth c G cs ad0 b 701 (lwL n) [] (fh (ch κ2) ρ2) (uc + 100) (us + 7300)) : lz p l e s m below meth c G cs ad0 b 665 (lwL n) [] (fh (ch κ) ρ) uc us := by
  obtain ⟨a, κ2, ρ2, h1, h2, h3⟩ := op_unlike h
  refine lz_aload_n X dL_law_665 rfl ?_
  refine lz_callV (As := []) (S := []) (u := (1, 0)) (ci := 4) (T := TX3) (N := 7) X cv_L_86 dL_law_666 rfl rfl rfl h1 (by decide) (by omega) (by omega) (Nat.le_of_ble_eq_true rfl) (fun r hh hF _ => ?_)
  obtain ⟨rfl, rfl⟩ := hF
  refine lz_aload_n X dL_law_669 rfl ?_
  refine lz_callV (As := []) (S := [ax_i a]) (u := (80, 0)) (ci := 5) (T := TX4) (N := 33) X cv_L_89 dL_law_670 rfl rfl rfl h2 (by decide) (by omega) (by omega) (Nat.le_of_ble_eq_true rfl) (fun r hh hF _ => ?_)
  obtain ⟨rfl, rfl⟩ := hF
  refine lz_icmp_eq X 701 dL_law_673 (by decide) (fun _ => ?_) (fun z => absurd rfl z)
  exact lz_widen (by omega) (by omega) (kk κ2 ρ2 h3)
theorem lo_count (X : ax_X mL_law p s m #[Value.ref b] meth c G cs (fun q => s.heap.size ≤ q) (ad0 ax_E)) (hX : va_X b Ln xs s s.heap) (hbl : b < s.heap.size) (h : Iv κ ρ bb (fun _ => True)) (hb : bb + 100 < 1000000) (hn : n + 5 ≤ Ln) (hLn : Ln ≤ 2560) (hu : uc + 100 ≤ 600000) (hs : us + 7300 ≤ 7302250) (kk : ∀ κ2 ρ2, Iv κ2 ρ2 (bb + 100) (fun _ => True) → lz p l e s m below meth c G cs ad0 b 701 (lwL n) [] (fh (ch κ2) ρ2) (uc + 100) (us + 7300)) : lz p l e s m below meth c G cs ad0 b 678 (lwL n) [] (fh (ch κ) ρ) uc us := by
  obtain ⟨a, κ2, ρ2, h1, h2, h3⟩ := op_count h (xs (n + 1))
  refine lz_aload_n X dL_law_678 rfl ?_
  refine lz_arg X hX hbl 1 dL_law_679 dL_law_680 dL_law_681 dL_law_682 dL_law_683 (by decide) rfl (by omega) hLn ?_
  refine lz_callV (As := [ax_i (xs (n + 1))]) (S := []) (u := (1, 0)) (ci := 4) (T := TX3) (N := 7) X cv_L_90 dL_law_684 rfl rfl rfl h1 (by decide) (by omega) (by omega) (Nat.le_of_ble_eq_true rfl) (fun r hh hF _ => ?_)
  obtain ⟨rfl, rfl⟩ := hF
  refine lz_aload_n X dL_law_687 rfl ?_
  refine lz_arg X hX hbl 1 dL_law_688 dL_law_689 dL_law_690 dL_law_691 dL_law_692 (by decide) rfl (by omega) hLn ?_
  refine lz_callV (As := [ax_i (xs (n + 1))]) (S := [ax_i a]) (u := (80, 0)) (ci := 5) (T := TX4) (N := 33) X cv_L_93 dL_law_693 rfl rfl rfl h2 (by decide) (by omega) (by omega) (Nat.le_of_ble_eq_true rfl) (fun r hh hF _ => ?_)
  obtain ⟨rfl, rfl⟩ := hF
  refine lz_icmp_eq X 701 dL_law_696 (by decide) (fun _ => ?_) (fun z => absurd rfl z)
  exact lz_widen (by omega) (by omega) (kk κ2 ρ2 h3)
theorem lw_and (x : Int32) : ∃ v : Nat, v < 32 ∧ x &&& 31 = nI v := by
  refine ⟨(x &&& 31).toBitVec.toNat, ?_, ?_⟩
  · have h : (x &&& 31).toBitVec.toNat = x.toBitVec.toNat &&& 31 := by rw [Int32.toBitVec_and, BitVec.toNat_and]; rfl
    rw [h]
    exact Nat.lt_of_le_of_lt Nat.and_le_right (by decide)
  · apply Int32.toBitVec_inj.mp
    show (x &&& 31).toBitVec = BitVec.ofNat 32 (x &&& 31).toBitVec.toNat
    rw [BitVec.ofNat_toNat, BitVec.setWidth_eq]
/-- one round of the loop -/
theorem lo_all (X : ax_X mL_law p s m #[Value.ref b] meth c G cs (fun q => s.heap.size ≤ q) (ad0 ax_E)) (hX : va_X b Ln xs s s.heap) (hbl : b < s.heap.size) (h : Iv κ ρ bb (fun _ => True)) (hb : bb + 100 < 1000000) (hn : n + 5 ≤ Ln) (hLn : Ln ≤ 2560) (hu : uc + 100 ≤ 600000) (hs : us + 7300 ≤ 7302250) (kk : ∀ κ2 ρ2, Iv κ2 ρ2 (bb + 100) (fun _ => True) → lz p l e s m below meth c G cs ad0 b 701 (lwL n) [] (fh (ch κ2) ρ2) (uc + 100) (us + 7300)) : lz p l e s m below meth c G cs ad0 b 26 (lwL n) [] (fh (ch κ) ρ) uc us := by
  refine lz_arg0 X hX hbl dL_law_26 dL_law_27 dL_law_28 rfl (by omega) hLn ?_
  refine lz_bipush X 31 dL_law_29 (by decide) ?_
  refine lz_iand X _ dL_law_31 rfl ?_
  obtain ⟨v, hv, ev⟩ := lw_and (xs n)
  rw [ev]
  have hv1 : (nI v).toInt = v := nI_toInt (by omega)
  by_cases hv2 : v ≤ 18
  · rcases (show v = 0 ∨ v = 1 ∨ v = 2 ∨ v = 3 ∨ v = 4 ∨ v = 5 ∨ v = 6 ∨ v = 7 ∨ v = 8 ∨ v = 9 ∨ v = 10 ∨ v = 11 ∨ v = 12 ∨ v = 13 ∨ v = 14 ∨ v = 15 ∨ v = 16 ∨ v = 17 ∨ v = 18 by omega) with rfl | rfl | rfl | rfl | rfl | rfl | rfl | rfl | rfl | rfl | rfl | rfl | rfl | rfl | rfl | rfl | rfl | rfl | rfl
    · exact lz_tin X 124 dL_law_32 (by decide) (by decide) (off := 92) rfl (by decide) (lo_region X hX hbl h hb hn hLn hu hs kk)
    · exact lz_tin X 167 dL_law_32 (by decide) (by decide) (off := 135) rfl (by decide) (lo_fail X hX hbl h hb hn hLn hu hs kk)
    · exact lz_tin X 190 dL_law_32 (by decide) (by decide) (off := 158) rfl (by decide) (lo_configure X hX hbl h hb hn hLn hu hs kk)
    · exact lz_tin X 203 dL_law_32 (by decide) (by decide) (off := 171) rfl (by decide) (lo_copy X hX hbl h hb hn hLn hu hs kk)
    · exact lz_tin X 236 dL_law_32 (by decide) (by decide) (off := 204) rfl (by decide) (lo_machine X hX hbl h hb hn hLn hu hs kk)
    · exact lz_tin X 269 dL_law_32 (by decide) (by decide) (off := 237) rfl (by decide) (lo_copyAt X hX hbl h hb hn hLn hu hs kk)
    · exact lz_tin X 302 dL_law_32 (by decide) (by decide) (off := 270) rfl (by decide) (lo_object X hX hbl h hb hn hLn hu hs kk)
    · exact lz_tin X 355 dL_law_32 (by decide) (by decide) (off := 323) rfl (by decide) (lo_begin X hX hbl h hb hn hLn hu hs kk)
    · exact lz_tin X 378 dL_law_32 (by decide) (by decide) (off := 346) rfl (by decide) (lo_read X hX hbl h hb hn hLn hu hs kk)
    · exact lz_tin X 421 dL_law_32 (by decide) (by decide) (off := 389) rfl (by decide) (lo_write X hX hbl h hb hn hLn hu hs kk)
    · exact lz_tin X 474 dL_law_32 (by decide) (by decide) (off := 442) rfl (by decide) (lo_commit X hX hbl h hb hn hLn hu hs kk)
    · exact lz_tin X 497 dL_law_32 (by decide) (by decide) (off := 465) rfl (by decide) (lo_drop X hX hbl h hb hn hLn hu hs kk)
    · exact lz_tin X 520 dL_law_32 (by decide) (by decide) (off := 488) rfl (by decide) (lo_step X hX hbl h hb hn hLn hu hs kk)
    · exact lz_tin X 543 dL_law_32 (by decide) (by decide) (off := 511) rfl (by decide) (lo_run X hX hbl h hb hn hLn hu hs kk)
    · exact lz_tin X 576 dL_law_32 (by decide) (by decide) (off := 544) rfl (by decide) (lo_about X hX hbl h hb hn hLn hu hs kk)
    · exact lz_tin X 609 dL_law_32 (by decide) (by decide) (off := 577) rfl (by decide) (lo_item X hX hbl h hb hn hLn hu hs kk)
    · exact lz_tin X 652 dL_law_32 (by decide) (by decide) (off := 620) rfl (by decide) (lo_check X hX hbl h hb hn hLn hu hs kk)
    · exact lz_tin X 665 dL_law_32 (by decide) (by decide) (off := 633) rfl (by decide) (lo_unlike X hX hbl h hb hn hLn hu hs kk)
    · exact lz_tin X 678 dL_law_32 (by decide) (by decide) (off := 646) rfl (by decide) (lo_count X hX hbl h hb hn hLn hu hs kk)
  · refine lz_tout X 701 dL_law_32 (Or.inr (by rw [hv1]; omega)) (by decide) ?_
    exact lz_widen (by omega) (by omega) (kk κ ρ (iv_mono h (by omega)))
end LWO
