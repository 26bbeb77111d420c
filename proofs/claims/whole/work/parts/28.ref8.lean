/-- copy(): what stands against it -/
def rCb (ρ : ax_R) (r m : Nat) : Bool := (!ρ.2.1 1 m || !ρ.2.1 0 m || !rU ρ r (((rL ρ r)[0]?).getD 0) || decide (rM ρ r = 3)) || ((List.range' 0 (ρ.1 5 r)).any (fun k => decide (ρ.1 6 (6 * r + k) = m)) || (List.range' 0 (ρ.1 10 0)).any (fun t => rAc ρ t && rWr ρ t r))
def rCs (r i p : Nat) (ρ : ax_R) (x : Nat) : ax_R := nu (ru ρ 7 (8 * (6 * r + i) + x) (ρ.2.2 7 (8 * (6 * r + p) + x))) 8 (8 * (6 * r + i) + x) (ρ.1 8 (8 * (6 * r + p) + x))
def rCq (ρ : ax_R) (r m : Nat) : ax_R := (List.range' 0 8).foldl (rCs r (ρ.1 5 r) (((rL ρ r)[0]?).getD 0)) (nu (nu ρ 5 r (ρ.1 5 r + 1)) 6 (6 * r + ρ.1 5 r) m)
def rCp (ρ : ax_R) (r m : Nat) : Int32 × ax_R := if rM ρ r = 0 then (-5, ρ) else if rCb ρ r m = true then (-3, ρ) else (nI (rM (rCq ρ r m) r), rCq ρ r m)
theorem rCs_ok {ρ : ax_R} {r i p x : Nat} (hw : rf_ok ρ) : rf_ok (rCs r i p ρ x) := rf_nu (rf_ru hw (Or.inl (by decide))) (hw.1 _ _) (by exact trivial)
theorem ls_fl {f : ax_R → Nat → ax_R} {k m : Nat} {ρ V : ax_R} (hV : (List.range' k (m + 1)).foldl f ρ = V) : (List.range' (k + 1) m).foldl f (f ρ k) = V := by
  rw [← hV, List.range'_succ, List.foldl_cons]
theorem fl_ok {f : ax_R → Nat → ax_R} (hf : ∀ ρ x, rf_ok ρ → rf_ok (f ρ x)) : ∀ (l : List Nat) (ρ : ax_R), rf_ok ρ → rf_ok (l.foldl f ρ)
  | [], ρ, h => h
  | x :: l, ρ, h => fl_ok hf l (f ρ x) (hf ρ x h)
section REFM
variable {c : ax_H} {ρ : ax_R}
theorem ok_copy0 {x y : Int32} (hu : ((decide (0 ≤ x) && decide (x ≤ nI (ρ.1 4 0) - 1)) && (decide (0 ≤ y) && decide (y ≤ 5))) = false) : ax_Ok mX4_copy yX4_copy 4 0 0 [ax_r (80, 0), ax_i x, ax_i y] (fh c ρ) (ax_D (ax_i (-1)) (fh c ρ)) := by
  refine ax_Ok.of (by decide) rfl (fun q => by cases q) (Nat.le_of_ble_eq_true rfl) rfl ?_
  refine ax_aload_n dX4_copy_0 rfl ?_
  refine ax_iload_n dX4_copy_1 rfl ?_
  refine ax_V1 cv_X4_118 dX4_copy_2 fh_M rfl (ok_isRegion _) (by decide) (Nat.le_refl _) (Nat.le_refl _) (Nat.le_of_ble_eq_true rfl) ?_
  refine ax_beq 15 dX4_copy_5 (by decide) (fun c5 => ?_) (fun c5 => ?_)
  · refine ax_iconst (-1) dX4_copy_15 (by decide) ?_
    refine ax_iretD dX4_copy_16 rfl ⟨(Nat.le_refl _), (Nat.le_refl _)⟩ ?_ ?_
    · rfl
    · rfl
  · refine ax_iload_n dX4_copy_8 rfl ?_
    refine ax_S1 cs_X4_108 dX4_copy_9 (ok_isMachine _) (by decide) (Nat.le_refl _) (Nat.le_refl _) (Nat.le_of_ble_eq_true rfl) ?_
    refine ax_bne 17 dX4_copy_12 (by decide) (fun c12 => ?_) (fun c12 => ?_)
    · exact absurd hu (by simp [c5, c12])
    · refine ax_iconst (-1) dX4_copy_15 (by decide) ?_
      refine ax_iretD dX4_copy_16 rfl ⟨(Nat.le_refl _), (Nat.le_refl _)⟩ ?_ ?_
      · rfl
      · rfl
theorem lp_copy3 {r m i p : Nat} {b : Bool} {VF : ax_R} {V : Nat} (hr : r < 6) (hi : i < 6) (hp : p < 6) (hVF : rf_ok VF) (hVV : rM VF r = V) : ∀ (q x : Nat) (ρ : ax_R), x + q = 8 → (List.range' x q).foldl (rCs r i p) ρ = VF → ax_Z mX4_copy 4 0 0 (ax_D (ax_i (nI V)) (fh c VF)) 215 [some (ax_r (80, 0)), some (ax_i (nI r)), some (ax_i (nI m)), some (ax_i (ax_b b)), some (ax_i (nI i)), some (ax_i (nI p)), some (ax_i (nI x))] [] (fh c ρ) 0 0 := by
  intro q
  induction q with
  | zero =>
    intro x ρ hx hV
    subst hVV
    have e : ρ = VF := hV
    subst e
    refine ax_iload dX4_copy_215 rfl ?_
    refine ax_bipush (nI 8) dX4_copy_217 (by decide) ?_
    refine ax_nge 300 dX4_copy_219 (by decide) (by omega) (by omega) (fun c219 => ?_) (fun c219 => absurd c219 (by omega))
    refine ax_aload_n dX4_copy_300 rfl ?_
    refine ax_iload_n dX4_copy_301 rfl ?_
    refine ax_V1 cv_X4_100 dX4_copy_302 fh_M rfl (ok_onMembers hVF hr) (by decide) (Nat.le_refl _) (Nat.le_refl _) (Nat.le_of_ble_eq_true rfl) ?_
    refine ax_iretD dX4_copy_305 rfl ⟨(Nat.le_refl _), (Nat.le_refl _)⟩ ?_ ?_
    · rfl
    · rfl
  | succ q ih =>
    intro x ρ hx hV
    refine ax_iload dX4_copy_215 rfl ?_
    refine ax_bipush (nI 8) dX4_copy_217 (by decide) ?_
    refine ax_nge 300 dX4_copy_219 (by decide) (by omega) (by omega) (fun c219 => absurd c219 (by omega)) (fun c219 => ?_)
    refine ax_aload_n dX4_copy_222 rfl ?_
    refine rg_7 dX4_copy_223 ?_
    refine ax_bipush (nI 8) dX4_copy_226 (by decide) ?_
    refine ax_bipush (nI 6) dX4_copy_228 (by decide) ?_
    refine ax_iload_n dX4_copy_230 rfl ?_
    refine ax_imuln dX4_copy_231 ?_
    refine ax_iload dX4_copy_232 rfl ?_
    refine ax_iaddn dX4_copy_234 ?_
    refine ax_imuln dX4_copy_235 ?_
    refine ax_iload dX4_copy_236 rfl ?_
    refine ax_iaddn dX4_copy_238 ?_
    refine ax_aload_n dX4_copy_239 rfl ?_
    refine rg_7 dX4_copy_240 ?_
    refine ax_bipush (nI 8) dX4_copy_243 (by decide) ?_
    refine ax_bipush (nI 6) dX4_copy_245 (by decide) ?_
    refine ax_iload_n dX4_copy_247 rfl ?_
    refine ax_imuln dX4_copy_248 ?_
    refine ax_iload dX4_copy_249 rfl ?_
    refine ax_iaddn dX4_copy_251 ?_
    refine ax_imuln dX4_copy_252 ?_
    refine ax_iload dX4_copy_253 rfl ?_
    refine ax_iaddn dX4_copy_255 ?_
    refine rl_7 dX4_copy_256 (by omega) ?_
    refine rs_7 dX4_copy_257 (by omega) ?_
    refine ax_aload_n dX4_copy_258 rfl ?_
    refine rg_8 dX4_copy_259 ?_
    refine ax_bipush (nI 8) dX4_copy_262 (by decide) ?_
    refine ax_bipush (nI 6) dX4_copy_264 (by decide) ?_
    refine ax_iload_n dX4_copy_266 rfl ?_
    refine ax_imuln dX4_copy_267 ?_
    refine ax_iload dX4_copy_268 rfl ?_
    refine ax_iaddn dX4_copy_270 ?_
    refine ax_imuln dX4_copy_271 ?_
    refine ax_iload dX4_copy_272 rfl ?_
    refine ax_iaddn dX4_copy_274 ?_
    refine ax_aload_n dX4_copy_275 rfl ?_
    refine rg_8 dX4_copy_276 ?_
    refine ax_bipush (nI 8) dX4_copy_279 (by decide) ?_
    refine ax_bipush (nI 6) dX4_copy_281 (by decide) ?_
    refine ax_iload_n dX4_copy_283 rfl ?_
    refine ax_imuln dX4_copy_284 ?_
    refine ax_iload dX4_copy_285 rfl ?_
    refine ax_iaddn dX4_copy_287 ?_
    refine ax_imuln dX4_copy_288 ?_
    refine ax_iload dX4_copy_289 rfl ?_
    refine ax_iaddn dX4_copy_291 ?_
    refine rl_8 dX4_copy_292 (by omega) ?_
    refine rs_8 dX4_copy_293 (by omega) ?_
    refine ax_iincn (n := 1) dX4_copy_294 rfl (by decide) rfl ?_
    refine ax_goto 215 dX4_copy_297 (by decide) ?_
    exact ih (x + 1) (rCs r i p ρ x) (by omega) (ls_fl hV)
theorem lp_copy2 (hw : rf_ok ρ) {r m : Nat} (hr : r < 6) (hm : m < 6) (hl : ¬ rM ρ r = 0) {p : Nat} (hp : (rL ρ r)[0]? = some p) (hp5 : p < 6) (hc6 : rCb ρ r m = false → ρ.1 5 r < 6) : ∀ (q t : Nat) (b : Bool), t + q = ρ.1 10 0 → (b || (List.range' t q).any (fun t => rAc ρ t && rWr ρ t r)) = rCb ρ r m → ax_Z mX4_copy 4 0 0 (ax_D (ax_i (rCp ρ r m).1) (fh c (rCp ρ r m).2)) 123 [some (ax_r (80, 0)), some (ax_i (nI r)), some (ax_i (nI m)), some (ax_i (ax_b b)), some (ax_i (nI t)), none, none] [] (fh c ρ) 0 0 := by
  intro q
  induction q with
  | zero =>
    intro t b ht hV
    have h10 := rk_10 hw
    have h5 := rk_5 hw r
    have hV := ls_a2 hV
    subst hV
    refine ax_iload dX4_copy_123 rfl ?_
    refine ax_aload_n dX4_copy_125 rfl ?_
    refine rg_10 dX4_copy_126 ?_
    refine ax_nge 167 dX4_copy_129 (by decide) (by omega) (by omega) (fun c129 => ?_) (fun c129 => absurd c129 (by omega))
    refine ax_iload_n dX4_copy_167 rfl ?_
    refine ax_beq 174 dX4_copy_168 (by decide) (fun c168 => ?_) (fun c168 => ?_)
    · have hc6 := hc6 c168
      have eC : rCp ρ r m = (nI (rM (rCq ρ r m) r), rCq ρ r m) := by rw [rCp, if_neg hl, if_neg (by simp [c168])]
      rw [eC, rCq, hp, Option.getD_some]
      refine ax_fg [true, true, true, true, false, false, false] rfl ?_
      refine ax_aload_n dX4_copy_174 rfl ?_
      refine rg_5 dX4_copy_175 ?_
      refine ax_iload_n dX4_copy_178 rfl ?_
      refine rl_5 dX4_copy_179 (by omega) ?_
      refine ax_istore dX4_copy_180 rfl (by decide) ?_
      refine ax_aload_n dX4_copy_182 rfl ?_
      refine ax_iload_n dX4_copy_183 rfl ?_
      refine ax_V1 cv_X4_124 dX4_copy_184 fh_M rfl (ok_primary hw hr) (by decide) (Nat.le_refl _) (Nat.le_refl _) (Nat.le_of_ble_eq_true rfl) ?_
      rw [hp, show oI (some p) = nI p from rfl]
      refine ax_istore dX4_copy_187 rfl (by decide) ?_
      refine ax_aload_n dX4_copy_189 rfl ?_
      refine rg_5 dX4_copy_190 ?_
      refine ax_iload_n dX4_copy_193 rfl ?_
      refine ax_dup2 dX4_copy_194 rfl rfl ?_
      refine rl_5 dX4_copy_195 (by omega) ?_
      refine ax_iconst (nI 1) dX4_copy_196 (by decide) ?_
      refine ax_iaddn dX4_copy_197 ?_
      refine rs_5 dX4_copy_198 (by omega) ?_
      refine ax_aload_n dX4_copy_199 rfl ?_
      refine rg_6 dX4_copy_200 ?_
      refine ax_bipush (nI 6) dX4_copy_203 (by decide) ?_
      refine ax_iload_n dX4_copy_205 rfl ?_
      refine ax_imuln dX4_copy_206 ?_
      refine ax_iload dX4_copy_207 rfl ?_
      refine ax_iaddn dX4_copy_209 ?_
      refine ax_iload_n dX4_copy_210 rfl ?_
      refine rs_6 dX4_copy_211 (by omega) ?_
      refine ax_iconst (nI 0) dX4_copy_212 (by decide) ?_
      refine ax_istore dX4_copy_213 rfl (by decide) ?_
      exact lp_copy3 hr hc6 (by omega) (fl_ok (fun _ _ h => rCs_ok h) _ _ (rf_nu (rf_nu hw (by omega) (by show _ ≤ 6; omega)) (by omega) (by exact hm))) rfl 8 0 _ rfl rfl
    · refine ax_bipush (-3) dX4_copy_171 (by decide) ?_
      refine ax_iretD dX4_copy_173 rfl ⟨(Nat.le_refl _), (Nat.le_refl _)⟩ ?_ ?_
      · simp [rCp, hl, c129, c168]
      · simp [rCp, hl, c129, c168]
  | succ q ih =>
    intro t b ht hV
    have h10 := rk_10 hw
    refine ax_iload dX4_copy_123 rfl ?_
    refine ax_aload_n dX4_copy_125 rfl ?_
    refine rg_10 dX4_copy_126 ?_
    refine ax_nge 167 dX4_copy_129 (by decide) (by omega) (by omega) (fun c129 => absurd c129 (by omega)) (fun c129 => ?_)
    refine ax_iload_n dX4_copy_132 rfl ?_
    refine ax_bne 155 dX4_copy_133 (by decide) (fun c133 => ?_) (fun c133 => ?_)
    · refine ax_iconst (ax_b true) dX4_copy_155 (by decide) ?_
      refine ax_goto 160 dX4_copy_156 (by decide) ?_
      refine ax_istore_n dX4_copy_160 rfl (by decide) ?_
      refine ax_iincn (n := 1) dX4_copy_161 rfl (by decide) rfl ?_
      refine ax_goto 123 dX4_copy_164 (by decide) ?_
      first | exact ih (t + 1) true (by omega) (by simpa [c129, c133] using ls_a hV) | exact ih (t + 1) false (by omega) (by simpa [c129, c133] using ls_a hV)
    · refine ax_aload_n dX4_copy_136 rfl ?_
      refine ax_iload dX4_copy_137 rfl ?_
      refine ax_V1 cv_X4_133 dX4_copy_139 fh_M rfl (ok_isActive hw (by omega)) (by decide) (Nat.le_refl _) (Nat.le_refl _) (Nat.le_of_ble_eq_true rfl) ?_
      refine ax_beq 159 dX4_copy_142 (by decide) (fun c142 => ?_) (fun c142 => ?_)
      · refine ax_iconst (ax_b false) dX4_copy_159 (by decide) ?_
        refine ax_istore_n dX4_copy_160 rfl (by decide) ?_
        refine ax_iincn (n := 1) dX4_copy_161 rfl (by decide) rfl ?_
        refine ax_goto 123 dX4_copy_164 (by decide) ?_
        first | exact ih (t + 1) true (by omega) (by simpa [c129, c133, c142] using ls_a hV) | exact ih (t + 1) false (by omega) (by simpa [c129, c133, c142] using ls_a hV)
      · refine ax_aload_n dX4_copy_145 rfl ?_
        refine ax_iload dX4_copy_146 rfl ?_
        refine ax_iload_n dX4_copy_148 rfl ?_
        refine ax_V2 cv_X4_136 dX4_copy_149 fh_M rfl (ok_writesOf hw (by omega) hr) (by decide) (Nat.le_refl _) (Nat.le_refl _) (Nat.le_of_ble_eq_true rfl) ?_
        refine ax_beq 159 dX4_copy_152 (by decide) (fun c152 => ?_) (fun c152 => ?_)
        · refine ax_iconst (ax_b false) dX4_copy_159 (by decide) ?_
          refine ax_istore_n dX4_copy_160 rfl (by decide) ?_
          refine ax_iincn (n := 1) dX4_copy_161 rfl (by decide) rfl ?_
          refine ax_goto 123 dX4_copy_164 (by decide) ?_
          first | exact ih (t + 1) true (by omega) (by simpa [c129, c133, c142, c152] using ls_a hV) | exact ih (t + 1) false (by omega) (by simpa [c129, c133, c142, c152] using ls_a hV)
        · refine ax_iconst (ax_b true) dX4_copy_155 (by decide) ?_
          refine ax_goto 160 dX4_copy_156 (by decide) ?_
          refine ax_istore_n dX4_copy_160 rfl (by decide) ?_
          refine ax_iincn (n := 1) dX4_copy_161 rfl (by decide) rfl ?_
          refine ax_goto 123 dX4_copy_164 (by decide) ?_
          first | exact ih (t + 1) true (by omega) (by simpa [c129, c133, c142, c152] using ls_a hV) | exact ih (t + 1) false (by omega) (by simpa [c129, c133, c142, c152] using ls_a hV)
theorem lp_copy1 (hw : rf_ok ρ) {r m : Nat} (hr : r < 6) (hm : m < 6) (hl : ¬ rM ρ r = 0) {p : Nat} (hp : (rL ρ r)[0]? = some p) (hp5 : p < 6) (hc6 : rCb ρ r m = false → ρ.1 5 r < 6) : ∀ (q k : Nat) (b : Bool), k + q = ρ.1 5 r → ((b || (List.range' k q).any (fun k => decide (ρ.1 6 (6 * r + k) = m))) || (List.range' 0 (ρ.1 10 0)).any (fun t => rAc ρ t && rWr ρ t r)) = rCb ρ r m → ax_Z mX4_copy 4 0 0 (ax_D (ax_i (rCp ρ r m).1) (fh c (rCp ρ r m).2)) 77 [some (ax_r (80, 0)), some (ax_i (nI r)), some (ax_i (nI m)), some (ax_i (ax_b b)), some (ax_i (nI k)), none, none] [] (fh c ρ) 0 0 := by
  intro q
  induction q with
  | zero =>
    intro k b hk hV
    have h5 := rk_5 hw r
    have hV2 : (b || (List.range' 0 (ρ.1 10 0)).any (fun t => rAc ρ t && rWr ρ t r)) = rCb ρ r m := by simpa using hV
    refine ax_iload dX4_copy_77 rfl ?_
    refine ax_aload_n dX4_copy_79 rfl ?_
    refine rg_5 dX4_copy_80 ?_
    refine ax_iload_n dX4_copy_83 rfl ?_
    refine rl_5 dX4_copy_84 (by omega) ?_
    refine ax_nge 120 dX4_copy_85 (by decide) (by omega) (by omega) (fun c85 => ?_) (fun c85 => absurd c85 (by omega))
    refine ax_iconst (nI 0) dX4_copy_120 (by decide) ?_
    refine ax_istore dX4_copy_121 rfl (by decide) ?_
    exact lp_copy2 hw hr hm hl hp hp5 hc6 (ρ.1 10 0) 0 b (Nat.zero_add _) hV2
  | succ q ih =>
    intro k b hk hV
    have h5 := rk_5 hw r
    rw [List.range'_succ, List.any_cons, ← Bool.or_assoc] at hV
    refine ax_iload dX4_copy_77 rfl ?_
    refine ax_aload_n dX4_copy_79 rfl ?_
    refine rg_5 dX4_copy_80 ?_
    refine ax_iload_n dX4_copy_83 rfl ?_
    refine rl_5 dX4_copy_84 (by first | omega | exact rk_N hw _ _) ?_
    refine ax_nge 120 dX4_copy_85 (by decide) (by first | omega | exact rk_N hw _ _) (by first | omega | exact rk_N hw _ _) (fun c85 => absurd c85 (by omega)) (fun c85 => ?_)
    refine ax_iload_n dX4_copy_88 rfl ?_
    refine ax_bne 108 dX4_copy_89 (by decide) (fun c89 => ?_) (fun c89 => ?_)
    · refine ax_iconst (ax_b true) dX4_copy_108 (by decide) ?_
      refine ax_goto 113 dX4_copy_109 (by decide) ?_
      refine ax_istore_n dX4_copy_113 rfl (by decide) ?_
      refine ax_iincn (n := 1) dX4_copy_114 rfl (by decide) rfl ?_
      refine ax_goto 77 dX4_copy_117 (by decide) ?_
      first | exact ih (k + 1) true (by omega) (by simpa [c85, c89] using hV) | exact ih (k + 1) false (by omega) (by simpa [c85, c89] using hV)
    · refine ax_aload_n dX4_copy_92 rfl ?_
      refine rg_6 dX4_copy_93 ?_
      refine ax_bipush (nI 6) dX4_copy_96 (by decide) ?_
      refine ax_iload_n dX4_copy_98 rfl ?_
      refine ax_imuln dX4_copy_99 ?_
      refine ax_iload dX4_copy_100 rfl ?_
      refine ax_iaddn dX4_copy_102 ?_
      refine rl_6 dX4_copy_103 (by first | omega | exact rk_N hw _ _) ?_
      refine ax_iload_n dX4_copy_104 rfl ?_
      refine ax_nne 112 dX4_copy_105 (by decide) (by first | omega | exact rk_N hw _ _) (by first | omega | exact rk_N hw _ _) (fun c105 => ?_) (fun c105 => ?_)
      · refine ax_iconst (ax_b false) dX4_copy_112 (by decide) ?_
        refine ax_istore_n dX4_copy_113 rfl (by decide) ?_
        refine ax_iincn (n := 1) dX4_copy_114 rfl (by decide) rfl ?_
        refine ax_goto 77 dX4_copy_117 (by decide) ?_
        first | exact ih (k + 1) true (by omega) (by simpa [c85, c89, c105] using hV) | exact ih (k + 1) false (by omega) (by simpa [c85, c89, c105] using hV)
      · refine ax_iconst (ax_b true) dX4_copy_108 (by decide) ?_
        refine ax_goto 113 dX4_copy_109 (by decide) ?_
        refine ax_istore_n dX4_copy_113 rfl (by decide) ?_
        refine ax_iincn (n := 1) dX4_copy_114 rfl (by decide) rfl ?_
        refine ax_goto 77 dX4_copy_117 (by decide) ?_
        first | exact ih (k + 1) true (by omega) (by simpa [c85, c89, c105] using hV) | exact ih (k + 1) false (by omega) (by simpa [c85, c89, c105] using hV)
theorem ok_copy (hw : rf_ok ρ) {r m : Nat} (hr : r < 6) (hm : m < 6) (hkr : (decide (0 ≤ nI r) && decide (nI r ≤ nI (ρ.1 4 0) - 1)) = true) (hkm : (decide (0 ≤ nI m) && decide (nI m ≤ 5)) = true) (hc6 : rCb ρ r m = false → ρ.1 5 r < 6) : ax_Ok mX4_copy yX4_copy 4 0 0 [ax_r (80, 0), ax_i (nI r), ax_i (nI m)] (fh c ρ) (ax_D (ax_i (rCp ρ r m).1) (fh c (rCp ρ r m).2)) := by
  refine ax_Ok.of (by decide) rfl (fun q => by cases q) (Nat.le_of_ble_eq_true rfl) rfl ?_
  have h4 := rk_4 hw
  have h5 := rk_5 hw r
  by_cases hl : rM ρ r = 0
  · skip
    refine ax_aload_n dX4_copy_0 rfl ?_
    refine ax_iload_n dX4_copy_1 rfl ?_
    refine ax_V1 cv_X4_118 dX4_copy_2 fh_M rfl (ok_isRegion _) (by decide) (Nat.le_refl _) (Nat.le_refl _) (Nat.le_of_ble_eq_true rfl) ?_
    refine ax_beq 15 dX4_copy_5 (by decide) (fun c5 => absurd c5 (by rw [hkr]; simp)) (fun c5 => ?_)
    refine ax_iload_n dX4_copy_8 rfl ?_
    refine ax_S1 cs_X4_108 dX4_copy_9 (ok_isMachine _) (by decide) (Nat.le_refl _) (Nat.le_refl _) (Nat.le_of_ble_eq_true rfl) ?_
    refine ax_bne 17 dX4_copy_12 (by decide) (fun c12 => ?_) (fun c12 => absurd c12 (by rw [hkm]; simp))
    refine ax_aload_n dX4_copy_17 rfl ?_
    refine ax_iload_n dX4_copy_18 rfl ?_
    refine ax_V1 cv_X4_121 dX4_copy_19 fh_M rfl (ok_isLost hw hr) (by decide) (Nat.le_refl _) (Nat.le_refl _) (Nat.le_of_ble_eq_true rfl) ?_
    refine ax_beq 28 dX4_copy_22 (by decide) (fun c22 => absurd c22 (by simp [hl])) (fun c22 => ?_)
    refine ax_bipush (-5) dX4_copy_25 (by decide) ?_
    refine ax_iretD dX4_copy_27 rfl ⟨(Nat.le_refl _), (Nat.le_refl _)⟩ ?_ ?_
    · simp [rCp, hl]
    · simp [rCp, hl]
  · obtain ⟨p, hp, hp5, hpo⟩ := rL_some hl
    have hml := rM_le hw r
    have hpg : ((rL ρ r)[0]?).getD 0 = p := by rw [hp]; rfl
    refine ax_aload_n dX4_copy_0 rfl ?_
    refine ax_iload_n dX4_copy_1 rfl ?_
    refine ax_V1 cv_X4_118 dX4_copy_2 fh_M rfl (ok_isRegion _) (by decide) (Nat.le_refl _) (Nat.le_refl _) (Nat.le_of_ble_eq_true rfl) ?_
    refine ax_beq 15 dX4_copy_5 (by decide) (fun c5 => absurd c5 (by rw [hkr]; simp)) (fun c5 => ?_)
    refine ax_iload_n dX4_copy_8 rfl ?_
    refine ax_S1 cs_X4_108 dX4_copy_9 (ok_isMachine _) (by decide) (Nat.le_refl _) (Nat.le_refl _) (Nat.le_of_ble_eq_true rfl) ?_
    refine ax_bne 17 dX4_copy_12 (by decide) (fun c12 => ?_) (fun c12 => absurd c12 (by rw [hkm]; simp))
    refine ax_aload_n dX4_copy_17 rfl ?_
    refine ax_iload_n dX4_copy_18 rfl ?_
    refine ax_V1 cv_X4_121 dX4_copy_19 fh_M rfl (ok_isLost hw hr) (by decide) (Nat.le_refl _) (Nat.le_refl _) (Nat.le_of_ble_eq_true rfl) ?_
    refine ax_beq 28 dX4_copy_22 (by decide) (fun c22 => ?_) (fun c22 => absurd c22 (by simp [hl]))
    refine ax_aload_n dX4_copy_28 rfl ?_
    refine rg_1 dX4_copy_29 ?_
    refine ax_iload_n dX4_copy_32 rfl ?_
    refine rl_1 dX4_copy_33 (by omega) ?_
    refine ax_beq 68 dX4_copy_34 (by decide) (fun c34 => ?_) (fun c34 => ?_)
    · refine ax_iconst (ax_b true) dX4_copy_68 (by decide) ?_
      refine ax_goto 73 dX4_copy_69 (by decide) ?_
      refine ax_istore_n dX4_copy_73 rfl (by decide) ?_
      refine ax_iconst (nI 0) dX4_copy_74 (by decide) ?_
      refine ax_istore dX4_copy_75 rfl (by decide) ?_
      first | exact lp_copy1 hw hr hm hl hp (by omega) hc6 (ρ.1 5 r) 0 true (Nat.zero_add _) (by simp [rCb, hpg, c5, c12, c22, c34]) | exact lp_copy1 hw hr hm hl hp (by omega) hc6 (ρ.1 5 r) 0 false (Nat.zero_add _) (by simp [rCb, hpg, c5, c12, c22, c34])
    · refine ax_aload_n dX4_copy_37 rfl ?_
      refine rg_0 dX4_copy_38 ?_
      refine ax_iload_n dX4_copy_41 rfl ?_
      refine rl_0 dX4_copy_42 (by omega) ?_
      refine ax_beq 68 dX4_copy_43 (by decide) (fun c43 => ?_) (fun c43 => ?_)
      · refine ax_iconst (ax_b true) dX4_copy_68 (by decide) ?_
        refine ax_goto 73 dX4_copy_69 (by decide) ?_
        refine ax_istore_n dX4_copy_73 rfl (by decide) ?_
        refine ax_iconst (nI 0) dX4_copy_74 (by decide) ?_
        refine ax_istore dX4_copy_75 rfl (by decide) ?_
        first | exact lp_copy1 hw hr hm hl hp (by omega) hc6 (ρ.1 5 r) 0 true (Nat.zero_add _) (by simp [rCb, hpg, c5, c12, c22, c34, c43]) | exact lp_copy1 hw hr hm hl hp (by omega) hc6 (ρ.1 5 r) 0 false (Nat.zero_add _) (by simp [rCb, hpg, c5, c12, c22, c34, c43])
      · refine ax_aload_n dX4_copy_46 rfl ?_
        refine ax_iload_n dX4_copy_47 rfl ?_
        refine ax_aload_n dX4_copy_48 rfl ?_
        refine ax_iload_n dX4_copy_49 rfl ?_
        refine ax_V1 cv_X4_124 dX4_copy_50 fh_M rfl (ok_primary hw hr) (by decide) (Nat.le_refl _) (Nat.le_refl _) (Nat.le_of_ble_eq_true rfl) ?_
        rw [hp, show oI (some p) = nI p from rfl]
        refine ax_V2 cv_X4_127 dX4_copy_53 fh_M rfl (ok_isUpAt hw hr (by omega)) (by decide) (Nat.le_refl _) (Nat.le_refl _) (Nat.le_of_ble_eq_true rfl) ?_
        refine ax_beq 68 dX4_copy_56 (by decide) (fun c56 => ?_) (fun c56 => ?_)
        · refine ax_iconst (ax_b true) dX4_copy_68 (by decide) ?_
          refine ax_goto 73 dX4_copy_69 (by decide) ?_
          refine ax_istore_n dX4_copy_73 rfl (by decide) ?_
          refine ax_iconst (nI 0) dX4_copy_74 (by decide) ?_
          refine ax_istore dX4_copy_75 rfl (by decide) ?_
          first | exact lp_copy1 hw hr hm hl hp (by omega) hc6 (ρ.1 5 r) 0 true (Nat.zero_add _) (by simp [rCb, hpg, c5, c12, c22, c34, c43, c56]) | exact lp_copy1 hw hr hm hl hp (by omega) hc6 (ρ.1 5 r) 0 false (Nat.zero_add _) (by simp [rCb, hpg, c5, c12, c22, c34, c43, c56])
        · refine ax_aload_n dX4_copy_59 rfl ?_
          refine ax_iload_n dX4_copy_60 rfl ?_
          refine ax_V1 cv_X4_100 dX4_copy_61 fh_M rfl (ok_onMembers hw hr) (by decide) (Nat.le_refl _) (Nat.le_refl _) (Nat.le_of_ble_eq_true rfl) ?_
          refine ax_iconst (nI 3) dX4_copy_64 (by decide) ?_
          refine ax_nne 72 dX4_copy_65 (by decide) (by omega) (by omega) (fun c65 => ?_) (fun c65 => ?_)
          · refine ax_iconst (ax_b false) dX4_copy_72 (by decide) ?_
            refine ax_istore_n dX4_copy_73 rfl (by decide) ?_
            refine ax_iconst (nI 0) dX4_copy_74 (by decide) ?_
            refine ax_istore dX4_copy_75 rfl (by decide) ?_
            first | exact lp_copy1 hw hr hm hl hp (by omega) hc6 (ρ.1 5 r) 0 true (Nat.zero_add _) (by simp [rCb, hpg, c5, c12, c22, c34, c43, c56, c65]) | exact lp_copy1 hw hr hm hl hp (by omega) hc6 (ρ.1 5 r) 0 false (Nat.zero_add _) (by simp [rCb, hpg, c5, c12, c22, c34, c43, c56, c65])
          · refine ax_iconst (ax_b true) dX4_copy_68 (by decide) ?_
            refine ax_goto 73 dX4_copy_69 (by decide) ?_
            refine ax_istore_n dX4_copy_73 rfl (by decide) ?_
            refine ax_iconst (nI 0) dX4_copy_74 (by decide) ?_
            refine ax_istore dX4_copy_75 rfl (by decide) ?_
            first | exact lp_copy1 hw hr hm hl hp (by omega) hc6 (ρ.1 5 r) 0 true (Nat.zero_add _) (by simp [rCb, hpg, c5, c12, c22, c34, c43, c56, c65]) | exact lp_copy1 hw hr hm hl hp (by omega) hc6 (ρ.1 5 r) 0 false (Nat.zero_add _) (by simp [rCb, hpg, c5, c12, c22, c34, c43, c56, c65])
end REFM
