/-- recover(): the votes of the regions -/
def rRs (ρ : ax_R) (t : Nat) (s : Bool × Bool × Bool) (r : Nat) : Bool × Bool × Bool := if rWr ρ t r = true ∧ ¬ rM ρ r = 0 then (s.1 || decide (rVo ρ t r = 3), s.2.1 || decide (rVo ρ t r = 2), s.2.2 || decide (rVo ρ t r = 0)) else s
def rCt (ρ : ax_R) (t : Nat) : Bool × Bool × Bool := (List.range' 0 (ρ.1 4 0)).foldl (rRs ρ t) (false, false, false)
def rCo (s : Bool × Bool × Bool) : Bool := s.1 || (s.2.1 && !s.2.2)
def rGk (i r : Nat) (ρ : ax_R) (k : Nat) : ax_R := if rO ρ r k = true then rG ρ i k false else ρ
def rR2 (t : Nat) (cm : Bool) (ρ : ax_R) (i : Nat) : ax_R :=
  let ρ1 := if cm = true ∧ ρ.2.1 22 i = true then (List.range' 0 (ρ.1 5 (ρ.1 18 i))).foldl (rGk i (ρ.1 18 i)) ρ else ρ
  if ρ.2.2 9 (8 * ρ.1 18 i + ρ.1 19 i) = nI t then ru ρ1 9 (8 * ρ.1 18 i + ρ.1 19 i) (-9) else ρ1
def rR3 (t : Nat) (ρ : ax_R) (k : Nat) : ax_R := ru ρ 26 k (if ρ.2.2 26 k ≠ -9 ∧ (ρ.2.2 26 k).toNatClampNeg / 8 = t then -9 else ρ.2.2 26 k)
def rRvA (ρ : ax_R) (t : Nat) (cm : Bool) : ax_R := (rI ρ t).foldl (rR2 t cm) ρ
def rRvB (ρ : ax_R) (t : Nat) (cm : Bool) : ax_R := (List.range' 0 (ρ.1 25 0)).foldl (rR3 t) (rRvA ρ t cm)
def rRvC (ρ : ax_R) (t : Nat) (cm : Bool) : ax_R := nu (bu ρ 15 t (ρ.2.1 15 t || cm)) 12 t (if cm = true then 7 else 8)
def rRv (ρ : ax_R) (t : Nat) : ax_R := rRvC (rRvB ρ t (rCo (rCt ρ t))) t (rCo (rCt ρ t))
/-- two states with the same numbers but versions, the same truths -/
def rEq (ρ ρ2 : ax_R) : Prop := (∀ k j, k ≠ 8 → ρ2.1 k j = ρ.1 k j) ∧ ρ2.2.1 = ρ.2.1
theorem rEq.rf (ρ : ax_R) : rEq ρ ρ := ⟨fun _ _ _ => rfl, rfl⟩
theorem rEq.tr {ρ ρ2 ρ3 : ax_R} (h1 : rEq ρ ρ2) (h2 : rEq ρ2 ρ3) : rEq ρ ρ3 := ⟨fun k j h => (h2.1 k j h).trans (h1.1 k j h), h2.2.trans h1.2⟩
theorem rEq_G (ρ : ax_R) (i p : Nat) (b : Bool) : rEq ρ (rG ρ i p b) := ⟨fun _ _ h => rG_1 h, rG_21⟩
theorem rEq_ru (ρ : ax_R) (k j : Nat) (v : Int32) : rEq ρ (ru ρ k j v) := ⟨fun _ _ _ => rfl, rfl⟩
theorem rEq_Gk (ρ : ax_R) (i r k : Nat) : rEq ρ (rGk i r ρ k) := by
  unfold rGk
  split
  · exact rEq_G _ _ _ _
  · exact rEq.rf _
theorem rEq_fl {f : ax_R → Nat → ax_R} (hf : ∀ ρ k, rEq ρ (f ρ k)) : ∀ (l : List Nat) (ρ : ax_R), rEq ρ (l.foldl f ρ)
  | [], ρ => rEq.rf ρ
  | x :: l, ρ => (hf ρ x).tr (rEq_fl hf l (f ρ x))
theorem rGk_ok {ρ : ax_R} {i r k : Nat} (hw : rf_ok ρ) (hv : ρ.1 21 i + 1 < 1000000) : rf_ok (rGk i r ρ k) := by
  unfold rGk
  split
  · exact rG_ok hw hv
  · exact hw
theorem rGkf_ok {i r : Nat} : ∀ (l : List Nat) (ρ : ax_R), rf_ok ρ → ρ.1 21 i + 1 < 1000000 → rf_ok (l.foldl (rGk i r) ρ)
  | [], ρ, h, _ => h
  | x :: l, ρ, h, hv => rGkf_ok l _ (rGk_ok h hv) (by rw [(rEq_Gk ρ i r x).1 21 i (by decide)]; exact hv)
theorem rG_9 {ρ : ax_R} {i p j : Nat} {b : Bool} : (rG ρ i p b).2.2 9 j = ρ.2.2 9 j := rG_22 (by decide)
theorem rGk_9 {ρ : ax_R} {i r k j : Nat} : (rGk i r ρ k).2.2 9 j = ρ.2.2 9 j := by
  unfold rGk
  split
  · exact rG_9
  · rfl
theorem rGkf_9 {i r j : Nat} : ∀ (l : List Nat) (ρ : ax_R), (l.foldl (rGk i r) ρ).2.2 9 j = ρ.2.2 9 j
  | [], _ => rfl
  | x :: l, ρ => by rw [List.foldl_cons, rGkf_9 l, rGk_9]
theorem rR2_eq (t : Nat) (cm : Bool) (ρ : ax_R) (i : Nat) : rEq ρ (rR2 t cm ρ i) := by
  unfold rR2
  have h : rEq ρ (if cm = true ∧ ρ.2.1 22 i = true then (List.range' 0 (ρ.1 5 (ρ.1 18 i))).foldl (rGk i (ρ.1 18 i)) ρ else ρ) := by
    split
    · exact rEq_fl (fun ρ k => rEq_Gk ρ i _ k) _ _
    · exact rEq.rf _
  simp only
  split
  · exact h.tr (rEq_ru _ _ _ _)
  · exact h
theorem rR2_ok {t : Nat} {cm : Bool} {ρ : ax_R} {i : Nat} (hw : rf_ok ρ) (hv : ρ.1 21 i + 1 < 1000000) : rf_ok (rR2 t cm ρ i) := by
  unfold rR2
  have h : rf_ok (if cm = true ∧ ρ.2.1 22 i = true then (List.range' 0 (ρ.1 5 (ρ.1 18 i))).foldl (rGk i (ρ.1 18 i)) ρ else ρ) := by
    split
    · exact rGkf_ok _ _ hw hv
    · exact hw
  simp only
  split
  · exact rf_ru h (Or.inl (by decide))
  · exact h
theorem rR2f_ok {t : Nat} {cm : Bool} : ∀ (l : List Nat) (ρ : ax_R), rf_ok ρ → (∀ i, ρ.1 21 i + 1 < 1000000) → rf_ok (l.foldl (rR2 t cm) ρ)
  | [], ρ, h, _ => h
  | x :: l, ρ, h, hv => rR2f_ok l _ (rR2_ok h (hv x)) (fun i => by rw [(rR2_eq t cm ρ x).1 21 i (by decide)]; exact hv i)
theorem rR3_ok {t : Nat} {ρ : ax_R} {k : Nat} (hw : rf_ok ρ) : rf_ok (rR3 t ρ k) := by
  refine rf_ru hw (Or.inr ?_)
  split
  · exact Or.inl rfl
  · exact rk_26 hw k
theorem rR3_eq (t : Nat) (ρ : ax_R) (k : Nat) : rEq ρ (rR3 t ρ k) := rEq_ru _ _ _ _
section REFM
variable {c : ax_H} {ρ : ax_R}
theorem lp_rec4 (hw : rf_ok ρ) {t : Nat} {cm : Bool} (ht : t < 60) : ax_Z mX4_recover 5 0 0 (ax_DV (fh c (rRvC ρ t cm))) 320 [some (ax_r (80, 0)), some (ax_i (nI t)), none, none, none, some (ax_i (ax_b cm)), none, none, none] [] (fh c ρ) 0 0 := by
  refine ax_aload_n dX4_recover_320 rfl ?_
  refine rg_15 dX4_recover_321 ?_
  refine ax_iload_n dX4_recover_324 rfl ?_
  refine ax_aload_n dX4_recover_325 rfl ?_
  refine rg_15 dX4_recover_326 ?_
  refine ax_iload_n dX4_recover_329 rfl ?_
  refine rl_15 dX4_recover_330 (by omega) ?_
  refine ax_bne 339 dX4_recover_331 (by decide) (fun c331 => ?_) (fun c331 => ?_)
  · refine ax_iconst (ax_b true) dX4_recover_339 (by decide) ?_
    refine ax_goto 344 dX4_recover_340 (by decide) ?_
    refine rs_15 dX4_recover_344 (by omega) ?_
    refine ax_aload_n dX4_recover_345 rfl ?_
    refine rg_12 dX4_recover_346 ?_
    refine ax_iload_n dX4_recover_349 rfl ?_
    refine ax_iload dX4_recover_350 rfl ?_
    refine ax_beq 360 dX4_recover_352 (by decide) (fun c352 => ?_) (fun c352 => ?_)
    · refine ax_bipush (nI 8) dX4_recover_360 (by decide) ?_
      refine rs_12 dX4_recover_362 (by omega) ?_
      refine ax_vretD dX4_recover_363 rfl ⟨(Nat.le_refl _), (Nat.le_refl _)⟩ ?_
      first | contradiction | (simp [rRvC, c331, c352]; done) | (simp_all; done)
    · refine ax_bipush (nI 7) dX4_recover_355 (by decide) ?_
      refine ax_goto 362 dX4_recover_357 (by decide) ?_
      refine rs_12 dX4_recover_362 (by omega) ?_
      refine ax_vretD dX4_recover_363 rfl ⟨(Nat.le_refl _), (Nat.le_refl _)⟩ ?_
      first | contradiction | (simp [rRvC, c331, c352]; done) | (simp_all; done)
  · refine ax_iload dX4_recover_334 rfl ?_
    refine ax_beq 343 dX4_recover_336 (by decide) (fun c336 => ?_) (fun c336 => ?_)
    · refine ax_iconst (ax_b false) dX4_recover_343 (by decide) ?_
      refine rs_15 dX4_recover_344 (by omega) ?_
      refine ax_aload_n dX4_recover_345 rfl ?_
      refine rg_12 dX4_recover_346 ?_
      refine ax_iload_n dX4_recover_349 rfl ?_
      refine ax_iload dX4_recover_350 rfl ?_
      refine ax_beq 360 dX4_recover_352 (by decide) (fun c352 => ?_) (fun c352 => ?_)
      · refine ax_bipush (nI 8) dX4_recover_360 (by decide) ?_
        refine rs_12 dX4_recover_362 (by omega) ?_
        refine ax_vretD dX4_recover_363 rfl ⟨(Nat.le_refl _), (Nat.le_refl _)⟩ ?_
        first | contradiction | (simp [rRvC, c331, c336, c352]; done) | (simp_all; done)
      · refine ax_bipush (nI 7) dX4_recover_355 (by decide) ?_
        refine ax_goto 362 dX4_recover_357 (by decide) ?_
        refine rs_12 dX4_recover_362 (by omega) ?_
        refine ax_vretD dX4_recover_363 rfl ⟨(Nat.le_refl _), (Nat.le_refl _)⟩ ?_
        first | contradiction | (simp [rRvC, c331, c336, c352]; done) | (simp_all; done)
    · refine ax_iconst (ax_b true) dX4_recover_339 (by decide) ?_
      refine ax_goto 344 dX4_recover_340 (by decide) ?_
      refine rs_15 dX4_recover_344 (by omega) ?_
      refine ax_aload_n dX4_recover_345 rfl ?_
      refine rg_12 dX4_recover_346 ?_
      refine ax_iload_n dX4_recover_349 rfl ?_
      refine ax_iload dX4_recover_350 rfl ?_
      refine ax_beq 360 dX4_recover_352 (by decide) (fun c352 => ?_) (fun c352 => ?_)
      · refine ax_bipush (nI 8) dX4_recover_360 (by decide) ?_
        refine rs_12 dX4_recover_362 (by omega) ?_
        refine ax_vretD dX4_recover_363 rfl ⟨(Nat.le_refl _), (Nat.le_refl _)⟩ ?_
        first | contradiction | (simp [rRvC, c331, c336, c352]; done) | (simp_all; done)
      · refine ax_bipush (nI 7) dX4_recover_355 (by decide) ?_
        refine ax_goto 362 dX4_recover_357 (by decide) ?_
        refine rs_12 dX4_recover_362 (by omega) ?_
        refine ax_vretD dX4_recover_363 rfl ⟨(Nat.le_refl _), (Nat.le_refl _)⟩ ?_
        first | contradiction | (simp [rRvC, c331, c336, c352]; done) | (simp_all; done)
theorem lp_rec3 {t R : Nat} {cm : Bool} {VF : ax_R} (ht : t < 60) : ∀ (q k : Nat) (ρ : ax_R), k + q = R → ρ.1 25 0 = R → rf_ok ρ → rRvC ((List.range' k q).foldl (rR3 t) ρ) t cm = VF → ax_Z mX4_recover 5 0 0 (ax_DV (fh c VF)) 260 [some (ax_r (80, 0)), some (ax_i (nI t)), none, none, none, some (ax_i (ax_b cm)), some (ax_i (nI k)), none, none] [] (fh c ρ) 0 0 := by
  intro q
  induction q with
  | zero =>
    intro k ρ hk hR hw hV
    have h25 := rk_25 hw
    subst hV
    refine ax_iload dX4_recover_260 rfl ?_
    refine ax_aload_n dX4_recover_262 rfl ?_
    refine rg_25 dX4_recover_263 ?_
    refine ax_nge 320 dX4_recover_266 (by decide) (by omega) (by omega) (fun c266 => ?_) (fun c266 => absurd c266 (by omega))
    refine ax_fg [true, true, false, false, false, true, false, false, false] rfl ?_
    exact lp_rec4 hw ht
  | succ q ih =>
    intro k ρ hk hR hw hV
    have h25 := rk_25 hw
    rw [List.range'_succ, List.foldl_cons] at hV
    refine ax_iload dX4_recover_260 rfl ?_
    refine ax_aload_n dX4_recover_262 rfl ?_
    refine rg_25 dX4_recover_263 ?_
    refine ax_nge 320 dX4_recover_266 (by decide) (by omega) (by omega) (fun c266 => absurd c266 (by omega)) (fun c266 => ?_)
    refine ax_aload_n dX4_recover_269 rfl ?_
    refine rg_26 dX4_recover_270 ?_
    refine ax_iload dX4_recover_273 rfl ?_
    refine ax_aload_n dX4_recover_275 rfl ?_
    refine rg_26 dX4_recover_276 ?_
    refine ax_iload dX4_recover_279 rfl ?_
    refine rl_26 dX4_recover_281 (by omega) ?_
    refine ax_bipush (-9) dX4_recover_282 (by decide) ?_
    refine ax_icmp_eq 306 dX4_recover_284 (by decide) (fun c284 => ?_) (fun c284 => ?_)
    · refine ax_aload_n dX4_recover_306 rfl ?_
      refine rg_26 dX4_recover_307 ?_
      refine ax_iload dX4_recover_310 rfl ?_
      refine rl_26 dX4_recover_312 (by omega) ?_
      refine rs_26 dX4_recover_313 (by omega) ?_
      refine ax_iincn (n := 1) dX4_recover_314 rfl (by decide) rfl ?_
      refine ax_goto 260 dX4_recover_317 (by decide) ?_
      refine ax_hq (h2 := fh c (rR3 t ρ k)) (congrArg (fh c) (by simp [rR3, c284])) ?_
      exact ih (k + 1) (rR3 t ρ k) (by omega) (((rR3_eq t ρ k).1 25 0 (by decide)).trans hR) (rR3_ok hw) hV
    · obtain ⟨j, hj, ej⟩ := (rk_26 hw k).resolve_left c284
      refine ax_aload_n dX4_recover_287 rfl ?_
      refine rg_26 dX4_recover_288 ?_
      refine ax_iload dX4_recover_291 rfl ?_
      refine rl_26 dX4_recover_293 (by omega) ?_
      rw [ej]
      refine ax_bipush (nI 8) dX4_recover_294 (by decide) ?_
      refine ax_idivn dX4_recover_296 (by decide) (by omega) (by decide) ?_
      refine ax_iload_n dX4_recover_297 rfl ?_
      refine ax_nne 306 dX4_recover_298 (by decide) (by omega) (by omega) (fun c298 => ?_) (fun c298 => ?_)
      · refine ax_aload_n dX4_recover_306 rfl ?_
        refine rg_26 dX4_recover_307 ?_
        refine ax_iload dX4_recover_310 rfl ?_
        refine rl_26 dX4_recover_312 (by omega) ?_
        refine rs_26 dX4_recover_313 (by omega) ?_
        refine ax_iincn (n := 1) dX4_recover_314 rfl (by decide) rfl ?_
        refine ax_goto 260 dX4_recover_317 (by decide) ?_
        refine ax_hq (h2 := fh c (rR3 t ρ k)) (congrArg (fh c) (by have e9 := nI_n9 (show j < 2 ^ 31 by omega); simp [rR3, ej, e9, nI_clamp (show j < 2 ^ 31 by omega), c298])) ?_
        exact ih (k + 1) (rR3 t ρ k) (by omega) (((rR3_eq t ρ k).1 25 0 (by decide)).trans hR) (rR3_ok hw) hV
      · refine ax_bipush (-9) dX4_recover_301 (by decide) ?_
        refine ax_goto 313 dX4_recover_303 (by decide) ?_
        refine rs_26 dX4_recover_313 (by omega) ?_
        refine ax_iincn (n := 1) dX4_recover_314 rfl (by decide) rfl ?_
        refine ax_goto 260 dX4_recover_317 (by decide) ?_
        refine ax_hq (h2 := fh c (rR3 t ρ k)) (congrArg (fh c) (by have e9 := nI_n9 (show j < 2 ^ 31 by omega); simp [rR3, ej, e9, nI_clamp (show j < 2 ^ 31 by omega), c298])) ?_
        exact ih (k + 1) (rR3 t ρ k) (by omega) (((rR3_eq t ρ k).1 25 0 (by decide)).trans hR) (rR3_ok hw) hV
theorem lp_rec2a {t i r : Nat} {VF V2 : ax_R} (ht : t < 60) (hi : i < 480) (hr : r < 6) (K : ax_Z mX4_recover 5 0 0 (ax_DV (fh c VF)) 209 [some (ax_r (80, 0)), some (ax_i (nI t)), none, none, none, some (ax_i (ax_b true)), some (ax_i (nI i)), some (ax_i (nI r)), none] [] (fh c V2) 0 0) : ∀ (q k : Nat) (ρ : ax_R), k + q = ρ.1 5 r → ρ.1 18 i = r → ρ.2.1 22 i = true → rf_ok ρ → ρ.1 21 i + 1 < 1000000 → (List.range' k q).foldl (rGk i r) ρ = V2 → ax_Z mX4_recover 5 0 0 (ax_DV (fh c VF)) 156 [some (ax_r (80, 0)), some (ax_i (nI t)), none, none, none, some (ax_i (ax_b true)), some (ax_i (nI i)), some (ax_i (nI r)), some (ax_i (nI k))] [] (fh c ρ) 0 0 := by
  intro q
  induction q with
  | zero =>
    intro k ρ hk hir hwr hw hv hV
    have h5 := rk_5 hw r
    have e : ρ = V2 := hV
    subst e
    refine ax_iload dX4_recover_156 rfl ?_
    refine ax_aload_n dX4_recover_158 rfl ?_
    refine rg_5 dX4_recover_159 ?_
    refine ax_iload dX4_recover_162 rfl ?_
    refine rl_5 dX4_recover_164 (by omega) ?_
    refine ax_nge 209 dX4_recover_165 (by decide) (by omega) (by omega) (fun c165 => ?_) (fun c165 => absurd c165 (by omega))
    refine ax_fg [true, true, false, false, false, true, true, true, false] rfl ?_
    exact K
  | succ q ih =>
    intro k ρ hk hir hwr hw hv hV
    have h5 := rk_5 hw r
    have eq := rEq_Gk ρ i r k
    rw [List.range'_succ, List.foldl_cons] at hV
    refine ax_iload dX4_recover_156 rfl ?_
    refine ax_aload_n dX4_recover_158 rfl ?_
    refine rg_5 dX4_recover_159 ?_
    refine ax_iload dX4_recover_162 rfl ?_
    refine rl_5 dX4_recover_164 (by omega) ?_
    refine ax_nge 209 dX4_recover_165 (by decide) (by omega) (by omega) (fun c165 => absurd c165 (by omega)) (fun c165 => ?_)
    refine ax_iload dX4_recover_168 rfl ?_
    refine ax_beq 209 dX4_recover_170 (by decide) (fun c170 => absurd c170 (by decide)) (fun c170 => ?_)
    refine ax_aload_n dX4_recover_173 rfl ?_
    refine rg_22 dX4_recover_174 ?_
    refine ax_iload dX4_recover_177 rfl ?_
    refine rl_22 dX4_recover_179 (by omega) ?_
    refine ax_beq 209 dX4_recover_180 (by decide) (fun c180 => absurd c180 (by simp [hwr])) (fun c180 => ?_)
    refine ax_aload_n dX4_recover_183 rfl ?_
    refine ax_iload dX4_recover_184 rfl ?_
    refine ax_iload dX4_recover_186 rfl ?_
    refine ax_V2 cv_X4_96 dX4_recover_188 fh_M rfl (ok_isOn hw hr (by omega)) (by decide) (Nat.le_refl _) (Nat.le_refl _) (Nat.le_of_ble_eq_true rfl) ?_
    refine ax_beq 203 dX4_recover_191 (by decide) (fun c191 => ?_) (fun c191 => ?_)
    · refine ax_iincn (n := 1) dX4_recover_203 rfl (by decide) rfl ?_
      refine ax_goto 156 dX4_recover_206 (by decide) ?_
      refine ax_hq (h2 := fh c (rGk i r ρ k)) (congrArg (fh c) (by simp [rGk, c191])) ?_
      exact ih (k + 1) (rGk i r ρ k) (by rw [eq.1 5 r (by decide)]; omega) ((eq.1 18 i (by decide)).trans hir) (by rw [eq.2]; exact hwr) (rGk_ok hw hv) (by rw [eq.1 21 i (by decide)]; exact hv) hV
    · refine ax_aload_n dX4_recover_194 rfl ?_
      refine ax_iload dX4_recover_195 rfl ?_
      refine ax_iload dX4_recover_197 rfl ?_
      refine ax_iconst (ax_b false) dX4_recover_199 (by decide) ?_
      refine ax_V3v cv_X4_199 dX4_recover_200 fh_M rfl (ok_give hw hi (by omega)) (by decide) (Nat.le_refl _) (Nat.le_refl _) (Nat.le_of_ble_eq_true rfl) ?_
      refine ax_iincn (n := 1) dX4_recover_203 rfl (by decide) rfl ?_
      refine ax_goto 156 dX4_recover_206 (by decide) ?_
      refine ax_hq (h2 := fh c (rGk i r ρ k)) (congrArg (fh c) (by simp [rGk, c191])) ?_
      exact ih (k + 1) (rGk i r ρ k) (by rw [eq.1 5 r (by decide)]; omega) ((eq.1 18 i (by decide)).trans hir) (by rw [eq.2]; exact hwr) (rGk_ok hw hv) (by rw [eq.1 21 i (by decide)]; exact hv) hV
theorem lp_rec2 {t N R : Nat} {cm : Bool} {VF : ax_R} (ht : t < 60) : ∀ (q i : Nat) (ρ : ax_R), i + q = 8 * t + N → ρ.1 14 t = N → ρ.1 25 0 = R → rf_ok ρ → (∀ i, ρ.1 21 i + 1 < 1000000) → rRvC ((List.range' 0 R).foldl (rR3 t) ((List.range' i q).foldl (rR2 t cm) ρ)) t cm = VF → ax_Z mX4_recover 5 0 0 (ax_DV (fh c VF)) 128 [some (ax_r (80, 0)), some (ax_i (nI t)), none, none, none, some (ax_i (ax_b cm)), some (ax_i (nI i)), none, none] [] (fh c ρ) 0 0 := by
  intro q
  induction q with
  | zero =>
    intro i ρ hk hN hR hw hv hV
    have h14 := rk_14 hw t
    refine ax_iload dX4_recover_128 rfl ?_
    refine ax_bipush (nI 8) dX4_recover_130 (by decide) ?_
    refine ax_iload_n dX4_recover_132 rfl ?_
    refine ax_imuln dX4_recover_133 ?_
    refine ax_aload_n dX4_recover_134 rfl ?_
    refine rg_14 dX4_recover_135 ?_
    refine ax_iload_n dX4_recover_138 rfl ?_
    refine rl_14 dX4_recover_139 (by omega) ?_
    refine ax_iaddn dX4_recover_140 ?_
    refine ax_nge 257 dX4_recover_141 (by decide) (by omega) (by omega) (fun c141 => ?_) (fun c141 => absurd c141 (by omega))
    refine ax_iconst (nI 0) dX4_recover_257 (by decide) ?_
    refine ax_istore dX4_recover_258 rfl (by decide) ?_
    refine ax_fg [true, true, false, false, false, true, true, false, false] rfl ?_
    exact lp_rec3 ht R 0 ρ (Nat.zero_add _) hR hw hV
  | succ q ih =>
    intro i ρ hk hN hR hw hv hV
    have h14 := rk_14 hw t
    have h18 := rk_18 hw i
    have h19 := rk_19 hw i
    have eq := rR2_eq t cm ρ i
    rw [List.range'_succ, List.foldl_cons] at hV
    have IH := ih (i + 1) (rR2 t cm ρ i) (by omega) ((eq.1 14 t (by decide)).trans hN) ((eq.1 25 0 (by decide)).trans hR) (rR2_ok hw (hv i)) (fun x => by rw [eq.1 21 x (by decide)]; exact hv x) hV
    by_cases hc : cm = true ∧ ρ.2.1 22 i = true
    · obtain ⟨rfl, hwr⟩ := hc
      have eqg : rEq ρ ((List.range' 0 (ρ.1 5 (ρ.1 18 i))).foldl (rGk i (ρ.1 18 i)) ρ) := rEq_fl (fun ρ k => rEq_Gk ρ i _ k) _ _
      have e9 := rGkf_9 (i := i) (r := ρ.1 18 i) (j := 8 * ρ.1 18 i + ρ.1 19 i) (List.range' 0 (ρ.1 5 (ρ.1 18 i))) ρ
      have eS : rR2 t true ρ i = if ρ.2.2 9 (8 * ρ.1 18 i + ρ.1 19 i) = nI t then ru ((List.range' 0 (ρ.1 5 (ρ.1 18 i))).foldl (rGk i (ρ.1 18 i)) ρ) 9 (8 * ρ.1 18 i + ρ.1 19 i) (-9) else ((List.range' 0 (ρ.1 5 (ρ.1 18 i))).foldl (rGk i (ρ.1 18 i)) ρ) := by simp [rR2, hwr]
      rw [eS] at IH
      have KK : ax_Z mX4_recover 5 0 0 (ax_DV (fh c VF)) 209 [some (ax_r (80, 0)), some (ax_i (nI t)), none, none, none, some (ax_i (ax_b true)), some (ax_i (nI i)), some (ax_i (nI (ρ.1 18 i))), none] [] (fh c ((List.range' 0 (ρ.1 5 (ρ.1 18 i))).foldl (rGk i (ρ.1 18 i)) ρ)) 0 0 := by
        generalize (List.range' 0 (ρ.1 5 (ρ.1 18 i))).foldl (rGk i (ρ.1 18 i)) ρ = ρ2 at eqg e9 IH
        have e18 := eqg.1 18 i (by decide)
        have e19 := eqg.1 19 i (by decide)
        refine ax_aload_n dX4_recover_209 rfl ?_
        refine rg_9 dX4_recover_210 ?_
        refine ax_bipush (nI 8) dX4_recover_213 (by decide) ?_
        refine ax_iload dX4_recover_215 rfl ?_
        refine ax_imuln dX4_recover_217 ?_
        refine ax_aload_n dX4_recover_218 rfl ?_
        refine rg_19 dX4_recover_219 ?_
        refine ax_iload dX4_recover_222 rfl ?_
        refine rl_19 dX4_recover_224 (by omega) ?_
        refine ax_iaddn dX4_recover_225 ?_
        rw [e19]
        refine rl_9 dX4_recover_226 (by omega) ?_
        refine ax_iload_n dX4_recover_227 rfl ?_
        refine ax_icmp_ne 251 dX4_recover_228 (by decide) (fun c228 => ?_) (fun c228 => ?_)
        · rw [e9] at c228
          refine ax_iincn (n := 1) dX4_recover_251 rfl (by decide) rfl ?_
          refine ax_goto 128 dX4_recover_254 (by decide) ?_
          refine ax_fg [true, true, false, false, false, true, true, false, false] rfl ?_
          first | (rw [if_pos c228] at IH; exact IH) | (rw [if_neg c228] at IH; exact IH)
        · rw [e9] at c228
          refine ax_aload_n dX4_recover_231 rfl ?_
          refine rg_9 dX4_recover_232 ?_
          refine ax_bipush (nI 8) dX4_recover_235 (by decide) ?_
          refine ax_iload dX4_recover_237 rfl ?_
          refine ax_imuln dX4_recover_239 ?_
          refine ax_aload_n dX4_recover_240 rfl ?_
          refine rg_19 dX4_recover_241 ?_
          refine ax_iload dX4_recover_244 rfl ?_
          refine rl_19 dX4_recover_246 (by omega) ?_
          rw [e19]
          refine ax_iaddn dX4_recover_247 ?_
          refine ax_bipush (-9) dX4_recover_248 (by decide) ?_
          refine rs_9 dX4_recover_250 (by omega) ?_
          refine ax_iincn (n := 1) dX4_recover_251 rfl (by decide) rfl ?_
          refine ax_goto 128 dX4_recover_254 (by decide) ?_
          refine ax_fg [true, true, false, false, false, true, true, false, false] rfl ?_
          first | (rw [if_pos c228] at IH; exact IH) | (rw [if_neg c228] at IH; exact IH)
      refine ax_iload dX4_recover_128 rfl ?_
      refine ax_bipush (nI 8) dX4_recover_130 (by decide) ?_
      refine ax_iload_n dX4_recover_132 rfl ?_
      refine ax_imuln dX4_recover_133 ?_
      refine ax_aload_n dX4_recover_134 rfl ?_
      refine rg_14 dX4_recover_135 ?_
      refine ax_iload_n dX4_recover_138 rfl ?_
      refine rl_14 dX4_recover_139 (by omega) ?_
      refine ax_iaddn dX4_recover_140 ?_
      refine ax_nge 257 dX4_recover_141 (by decide) (by omega) (by omega) (fun c141 => absurd c141 (by omega)) (fun c141 => ?_)
      refine ax_aload_n dX4_recover_144 rfl ?_
      refine rg_18 dX4_recover_145 ?_
      refine ax_iload dX4_recover_148 rfl ?_
      refine rl_18 dX4_recover_150 (by omega) ?_
      refine ax_istore dX4_recover_151 rfl (by decide) ?_
      refine ax_iconst (nI 0) dX4_recover_153 (by decide) ?_
      refine ax_istore dX4_recover_154 rfl (by decide) ?_
      exact lp_rec2a ht (by omega) h18 KK (ρ.1 5 (ρ.1 18 i)) 0 ρ (Nat.zero_add _) rfl hwr hw (hv i) rfl
    · have eS : rR2 t cm ρ i = if ρ.2.2 9 (8 * ρ.1 18 i + ρ.1 19 i) = nI t then ru ρ 9 (8 * ρ.1 18 i + ρ.1 19 i) (-9) else ρ := by simp only [rR2, if_neg hc]
      rw [eS] at IH
      have h5 := rk_5 hw (ρ.1 18 i)
      have KK : ax_Z mX4_recover 5 0 0 (ax_DV (fh c VF)) 209 [some (ax_r (80, 0)), some (ax_i (nI t)), none, none, none, some (ax_i (ax_b cm)), some (ax_i (nI i)), some (ax_i (nI (ρ.1 18 i))), none] [] (fh c ρ) 0 0 := by
        refine ax_aload_n dX4_recover_209 rfl ?_
        refine rg_9 dX4_recover_210 ?_
        refine ax_bipush (nI 8) dX4_recover_213 (by decide) ?_
        refine ax_iload dX4_recover_215 rfl ?_
        refine ax_imuln dX4_recover_217 ?_
        refine ax_aload_n dX4_recover_218 rfl ?_
        refine rg_19 dX4_recover_219 ?_
        refine ax_iload dX4_recover_222 rfl ?_
        refine rl_19 dX4_recover_224 (by omega) ?_
        refine ax_iaddn dX4_recover_225 ?_
        refine rl_9 dX4_recover_226 (by omega) ?_
        refine ax_iload_n dX4_recover_227 rfl ?_
        refine ax_icmp_ne 251 dX4_recover_228 (by decide) (fun c228 => ?_) (fun c228 => ?_)
        · refine ax_iincn (n := 1) dX4_recover_251 rfl (by decide) rfl ?_
          refine ax_goto 128 dX4_recover_254 (by decide) ?_
          refine ax_fg [true, true, false, false, false, true, true, false, false] rfl ?_
          first | (rw [if_pos c228] at IH; exact IH) | (rw [if_neg c228] at IH; exact IH)
        · refine ax_aload_n dX4_recover_231 rfl ?_
          refine rg_9 dX4_recover_232 ?_
          refine ax_bipush (nI 8) dX4_recover_235 (by decide) ?_
          refine ax_iload dX4_recover_237 rfl ?_
          refine ax_imuln dX4_recover_239 ?_
          refine ax_aload_n dX4_recover_240 rfl ?_
          refine rg_19 dX4_recover_241 ?_
          refine ax_iload dX4_recover_244 rfl ?_
          refine rl_19 dX4_recover_246 (by omega) ?_
          refine ax_iaddn dX4_recover_247 ?_
          refine ax_bipush (-9) dX4_recover_248 (by decide) ?_
          refine rs_9 dX4_recover_250 (by omega) ?_
          refine ax_iincn (n := 1) dX4_recover_251 rfl (by decide) rfl ?_
          refine ax_goto 128 dX4_recover_254 (by decide) ?_
          refine ax_fg [true, true, false, false, false, true, true, false, false] rfl ?_
          first | (rw [if_pos c228] at IH; exact IH) | (rw [if_neg c228] at IH; exact IH)
      refine ax_iload dX4_recover_128 rfl ?_
      refine ax_bipush (nI 8) dX4_recover_130 (by decide) ?_
      refine ax_iload_n dX4_recover_132 rfl ?_
      refine ax_imuln dX4_recover_133 ?_
      refine ax_aload_n dX4_recover_134 rfl ?_
      refine rg_14 dX4_recover_135 ?_
      refine ax_iload_n dX4_recover_138 rfl ?_
      refine rl_14 dX4_recover_139 (by omega) ?_
      refine ax_iaddn dX4_recover_140 ?_
      refine ax_nge 257 dX4_recover_141 (by decide) (by omega) (by omega) (fun c141 => absurd c141 (by omega)) (fun c141 => ?_)
      refine ax_aload_n dX4_recover_144 rfl ?_
      refine rg_18 dX4_recover_145 ?_
      refine ax_iload dX4_recover_148 rfl ?_
      refine rl_18 dX4_recover_150 (by omega) ?_
      refine ax_istore dX4_recover_151 rfl (by decide) ?_
      refine ax_iconst (nI 0) dX4_recover_153 (by decide) ?_
      refine ax_istore dX4_recover_154 rfl (by decide) ?_
      refine ax_iload dX4_recover_156 rfl ?_
      refine ax_aload_n dX4_recover_158 rfl ?_
      refine rg_5 dX4_recover_159 ?_
      refine ax_iload dX4_recover_162 rfl ?_
      refine rl_5 dX4_recover_164 (by omega) ?_
      refine ax_nge 209 dX4_recover_165 (by decide) (by omega) (by omega) (fun c165 => ?_) (fun c165 => ?_)
      · refine ax_fg [true, true, false, false, false, true, true, true, false] rfl ?_
        exact KK
      · refine ax_iload dX4_recover_168 rfl ?_
        refine ax_beq 209 dX4_recover_170 (by decide) (fun c170 => ?_) (fun c170 => ?_)
        · refine ax_fg [true, true, false, false, false, true, true, true, false] rfl ?_
          exact KK
        · refine ax_aload_n dX4_recover_173 rfl ?_
          refine rg_22 dX4_recover_174 ?_
          refine ax_iload dX4_recover_177 rfl ?_
          refine rl_22 dX4_recover_179 (by omega) ?_
          refine ax_beq 209 dX4_recover_180 (by decide) (fun c180 => ?_) (fun c180 => absurd c180 (fun z => hc ⟨c170, z⟩))
          refine ax_fg [true, true, false, false, false, true, true, true, false] rfl ?_
          exact KK
theorem rVs_le {ρ : ax_R} {t r : Nat} : ∀ (l : List Nat) (s : Bool × Nat), s.2 ≤ 3 → (l.foldl (rVs ρ t r) s).2 ≤ 3
  | [], _, h => h
  | x :: l, s, h => rVs_le l _ (by
    unfold rVs
    split
    · exact rVn_le h
    · exact h)
theorem rVo_le {ρ : ax_R} (hw : rf_ok ρ) {t r : Nat} : rVo ρ t r ≤ 3 := by
  have h := rVs_le (ρ := ρ) (t := t) (r := r) (rI ρ t) (decide (oI (rL ρ r)[0]? = ρ.2.2 31 r), 0) (Nat.zero_le _)
  unfold rVo rVf
  split
  · split <;> decide
  · exact h
theorem lp_rec1 (hw : rf_ok ρ) (hv : ∀ i, ρ.1 21 i + 1 < 1000000) {t : Nat} {VF : ax_R} (ht : t < 60) : ∀ (q r : Nat) (a b d : Bool), r + q = ρ.1 4 0 → rRvC (rRvB ρ t (rCo ((List.range' r q).foldl (rRs ρ t) (a, b, d)))) t (rCo ((List.range' r q).foldl (rRs ρ t) (a, b, d))) = VF → ax_Z mX4_recover 5 0 0 (ax_DV (fh c VF)) 10 [some (ax_r (80, 0)), some (ax_i (nI t)), some (ax_i (ax_b a)), some (ax_i (ax_b b)), some (ax_i (ax_b d)), some (ax_i (nI r)), none, none, none] [] (fh c ρ) 0 0 := by
  intro q
  induction q with
  | zero =>
    intro r a b d hk hV
    have h4 := rk_4 hw
    have hV : rRvC (rRvB ρ t (rCo (a, b, d))) t (rCo (a, b, d)) = VF := hV
    refine ax_iload dX4_recover_10 rfl ?_
    refine ax_aload_n dX4_recover_12 rfl ?_
    refine rg_4 dX4_recover_13 ?_
    refine ax_nge 102 dX4_recover_16 (by decide) (by omega) (by omega) (fun c16 => ?_) (fun c16 => absurd c16 (by omega))
    refine ax_iload_n dX4_recover_102 rfl ?_
    refine ax_bne 115 dX4_recover_103 (by decide) (fun c103 => ?_) (fun c103 => ?_)
    · refine ax_iconst (ax_b true) dX4_recover_115 (by decide) ?_
      refine ax_goto 120 dX4_recover_116 (by decide) ?_
      refine ax_istore dX4_recover_120 rfl (by decide) ?_
      refine ax_bipush (nI 8) dX4_recover_122 (by decide) ?_
      refine ax_iload_n dX4_recover_124 rfl ?_
      refine ax_imuln dX4_recover_125 ?_
      refine ax_istore dX4_recover_126 rfl (by decide) ?_
      refine ax_fg [true, true, false, false, false, true, true, false, false] rfl ?_
      first | contradiction | (rw [show rCo (a, b, d) = true by simp [rCo, c16, c103]] at hV; exact lp_rec2 ht (ρ.1 14 t) (8 * t) ρ rfl rfl rfl hw hv hV) | (rw [show rCo (a, b, d) = false by simp [rCo, c16, c103]] at hV; exact lp_rec2 ht (ρ.1 14 t) (8 * t) ρ rfl rfl rfl hw hv hV)
    · refine ax_iload_n dX4_recover_106 rfl ?_
      refine ax_beq 119 dX4_recover_107 (by decide) (fun c107 => ?_) (fun c107 => ?_)
      · refine ax_iconst (ax_b false) dX4_recover_119 (by decide) ?_
        refine ax_istore dX4_recover_120 rfl (by decide) ?_
        refine ax_bipush (nI 8) dX4_recover_122 (by decide) ?_
        refine ax_iload_n dX4_recover_124 rfl ?_
        refine ax_imuln dX4_recover_125 ?_
        refine ax_istore dX4_recover_126 rfl (by decide) ?_
        refine ax_fg [true, true, false, false, false, true, true, false, false] rfl ?_
        first | contradiction | (rw [show rCo (a, b, d) = true by simp [rCo, c16, c103, c107]] at hV; exact lp_rec2 ht (ρ.1 14 t) (8 * t) ρ rfl rfl rfl hw hv hV) | (rw [show rCo (a, b, d) = false by simp [rCo, c16, c103, c107]] at hV; exact lp_rec2 ht (ρ.1 14 t) (8 * t) ρ rfl rfl rfl hw hv hV)
      · refine ax_iload dX4_recover_110 rfl ?_
        refine ax_bne 119 dX4_recover_112 (by decide) (fun c112 => ?_) (fun c112 => ?_)
        · refine ax_iconst (ax_b false) dX4_recover_119 (by decide) ?_
          refine ax_istore dX4_recover_120 rfl (by decide) ?_
          refine ax_bipush (nI 8) dX4_recover_122 (by decide) ?_
          refine ax_iload_n dX4_recover_124 rfl ?_
          refine ax_imuln dX4_recover_125 ?_
          refine ax_istore dX4_recover_126 rfl (by decide) ?_
          refine ax_fg [true, true, false, false, false, true, true, false, false] rfl ?_
          first | contradiction | (rw [show rCo (a, b, d) = true by simp [rCo, c16, c103, c107, c112]] at hV; exact lp_rec2 ht (ρ.1 14 t) (8 * t) ρ rfl rfl rfl hw hv hV) | (rw [show rCo (a, b, d) = false by simp [rCo, c16, c103, c107, c112]] at hV; exact lp_rec2 ht (ρ.1 14 t) (8 * t) ρ rfl rfl rfl hw hv hV)
        · refine ax_iconst (ax_b true) dX4_recover_115 (by decide) ?_
          refine ax_goto 120 dX4_recover_116 (by decide) ?_
          refine ax_istore dX4_recover_120 rfl (by decide) ?_
          refine ax_bipush (nI 8) dX4_recover_122 (by decide) ?_
          refine ax_iload_n dX4_recover_124 rfl ?_
          refine ax_imuln dX4_recover_125 ?_
          refine ax_istore dX4_recover_126 rfl (by decide) ?_
          refine ax_fg [true, true, false, false, false, true, true, false, false] rfl ?_
          first | contradiction | (rw [show rCo (a, b, d) = true by simp [rCo, c16, c103, c107, c112]] at hV; exact lp_rec2 ht (ρ.1 14 t) (8 * t) ρ rfl rfl rfl hw hv hV) | (rw [show rCo (a, b, d) = false by simp [rCo, c16, c103, c107, c112]] at hV; exact lp_rec2 ht (ρ.1 14 t) (8 * t) ρ rfl rfl rfl hw hv hV)
  | succ q ih =>
    intro r a b d hk hV
    have h4 := rk_4 hw
    rw [List.range'_succ, List.foldl_cons] at hV
    have hvo := rVo_le hw (t := t) (r := r)
    refine ax_iload dX4_recover_10 rfl ?_
    refine ax_aload_n dX4_recover_12 rfl ?_
    refine rg_4 dX4_recover_13 ?_
    refine ax_nge 102 dX4_recover_16 (by decide) (by omega) (by omega) (fun c16 => absurd c16 (by omega)) (fun c16 => ?_)
    refine ax_aload_n dX4_recover_19 rfl ?_
    refine ax_iload_n dX4_recover_20 rfl ?_
    refine ax_iload dX4_recover_21 rfl ?_
    refine ax_V2 cv_X4_136 dX4_recover_23 fh_M rfl (ok_writesOf hw ht (by omega)) (by decide) (Nat.le_refl _) (Nat.le_refl _) (Nat.le_of_ble_eq_true rfl) ?_
    refine ax_beq 96 dX4_recover_26 (by decide) (fun c26 => ?_) (fun c26 => ?_)
    · refine ax_iincn (n := 1) dX4_recover_96 rfl (by decide) rfl ?_
      refine ax_goto 10 dX4_recover_99 (by decide) ?_
      exact ih (r + 1) a b d (by omega) (by simpa [rRs, c16, c26] using hV)
    · refine ax_aload_n dX4_recover_29 rfl ?_
      refine ax_iload dX4_recover_30 rfl ?_
      refine ax_V1 cv_X4_121 dX4_recover_32 fh_M rfl (ok_isLost hw (by omega)) (by decide) (Nat.le_refl _) (Nat.le_refl _) (Nat.le_of_ble_eq_true rfl) ?_
      refine ax_bne 96 dX4_recover_35 (by decide) (fun c35 => ?_) (fun c35 => ?_)
      · have c35 : rM ρ r = 0 := by simpa using c35
        refine ax_iincn (n := 1) dX4_recover_96 rfl (by decide) rfl ?_
        refine ax_goto 10 dX4_recover_99 (by decide) ?_
        exact ih (r + 1) a b d (by omega) (by simpa [rRs, c16, c26, c35] using hV)
      · have c35 : ¬ rM ρ r = 0 := by simpa using c35
        refine ax_aload_n dX4_recover_38 rfl ?_
        refine ax_iload_n dX4_recover_39 rfl ?_
        refine ax_iload dX4_recover_40 rfl ?_
        refine ax_V2 cv_X4_218 dX4_recover_42 fh_M rfl (ok_vote hw ht (by omega)) (by decide) (Nat.le_refl _) (Nat.le_refl _) (Nat.le_of_ble_eq_true rfl) ?_
        refine ax_istore dX4_recover_45 rfl (by decide) ?_
        refine ax_iload_n dX4_recover_47 rfl ?_
        refine ax_bne 57 dX4_recover_48 (by decide) (fun c48 => ?_) (fun c48 => ?_)
        · refine ax_iconst (ax_b true) dX4_recover_57 (by decide) ?_
          refine ax_goto 62 dX4_recover_58 (by decide) ?_
          refine ax_istore_n dX4_recover_62 rfl (by decide) ?_
          refine ax_iload_n dX4_recover_63 rfl ?_
          refine ax_bne 73 dX4_recover_64 (by decide) (fun c64 => ?_) (fun c64 => ?_)
          · refine ax_iconst (ax_b true) dX4_recover_73 (by decide) ?_
            refine ax_goto 78 dX4_recover_74 (by decide) ?_
            refine ax_istore_n dX4_recover_78 rfl (by decide) ?_
            refine ax_iload dX4_recover_79 rfl ?_
            refine ax_bne 89 dX4_recover_81 (by decide) (fun c81 => ?_) (fun c81 => ?_)
            · refine ax_iconst (ax_b true) dX4_recover_89 (by decide) ?_
              refine ax_goto 94 dX4_recover_90 (by decide) ?_
              refine ax_istore dX4_recover_94 rfl (by decide) ?_
              refine ax_iincn (n := 1) dX4_recover_96 rfl (by decide) rfl ?_
              refine ax_goto 10 dX4_recover_99 (by decide) ?_
              refine ax_fg [true, true, true, true, true, true, false, false, false] rfl ?_
              first | omega | exact ih (r + 1) true true true (by omega) (by simpa [rRs, c16, c26, c35, c48, c64, c81] using hV) | exact ih (r + 1) true true false (by omega) (by simpa [rRs, c16, c26, c35, c48, c64, c81] using hV) | exact ih (r + 1) true false true (by omega) (by simpa [rRs, c16, c26, c35, c48, c64, c81] using hV) | exact ih (r + 1) true false false (by omega) (by simpa [rRs, c16, c26, c35, c48, c64, c81] using hV) | exact ih (r + 1) false true true (by omega) (by simpa [rRs, c16, c26, c35, c48, c64, c81] using hV) | exact ih (r + 1) false true false (by omega) (by simpa [rRs, c16, c26, c35, c48, c64, c81] using hV) | exact ih (r + 1) false false true (by omega) (by simpa [rRs, c16, c26, c35, c48, c64, c81] using hV) | exact ih (r + 1) false false false (by omega) (by simpa [rRs, c16, c26, c35, c48, c64, c81] using hV)
            · refine ax_iload dX4_recover_84 rfl ?_
              refine ax_zne 93 dX4_recover_86 (by decide) (by omega) (fun c86 => ?_) (fun c86 => ?_)
              · refine ax_iconst (ax_b false) dX4_recover_93 (by decide) ?_
                refine ax_istore dX4_recover_94 rfl (by decide) ?_
                refine ax_iincn (n := 1) dX4_recover_96 rfl (by decide) rfl ?_
                refine ax_goto 10 dX4_recover_99 (by decide) ?_
                refine ax_fg [true, true, true, true, true, true, false, false, false] rfl ?_
                first | omega | exact ih (r + 1) true true true (by omega) (by simpa [rRs, c16, c26, c35, c48, c64, c81, c86] using hV) | exact ih (r + 1) true true false (by omega) (by simpa [rRs, c16, c26, c35, c48, c64, c81, c86] using hV) | exact ih (r + 1) true false true (by omega) (by simpa [rRs, c16, c26, c35, c48, c64, c81, c86] using hV) | exact ih (r + 1) true false false (by omega) (by simpa [rRs, c16, c26, c35, c48, c64, c81, c86] using hV) | exact ih (r + 1) false true true (by omega) (by simpa [rRs, c16, c26, c35, c48, c64, c81, c86] using hV) | exact ih (r + 1) false true false (by omega) (by simpa [rRs, c16, c26, c35, c48, c64, c81, c86] using hV) | exact ih (r + 1) false false true (by omega) (by simpa [rRs, c16, c26, c35, c48, c64, c81, c86] using hV) | exact ih (r + 1) false false false (by omega) (by simpa [rRs, c16, c26, c35, c48, c64, c81, c86] using hV)
              · refine ax_iconst (ax_b true) dX4_recover_89 (by decide) ?_
                refine ax_goto 94 dX4_recover_90 (by decide) ?_
                refine ax_istore dX4_recover_94 rfl (by decide) ?_
                refine ax_iincn (n := 1) dX4_recover_96 rfl (by decide) rfl ?_
                refine ax_goto 10 dX4_recover_99 (by decide) ?_
                refine ax_fg [true, true, true, true, true, true, false, false, false] rfl ?_
                first | omega | exact ih (r + 1) true true true (by omega) (by simpa [rRs, c16, c26, c35, c48, c64, c81, c86] using hV) | exact ih (r + 1) true true false (by omega) (by simpa [rRs, c16, c26, c35, c48, c64, c81, c86] using hV) | exact ih (r + 1) true false true (by omega) (by simpa [rRs, c16, c26, c35, c48, c64, c81, c86] using hV) | exact ih (r + 1) true false false (by omega) (by simpa [rRs, c16, c26, c35, c48, c64, c81, c86] using hV) | exact ih (r + 1) false true true (by omega) (by simpa [rRs, c16, c26, c35, c48, c64, c81, c86] using hV) | exact ih (r + 1) false true false (by omega) (by simpa [rRs, c16, c26, c35, c48, c64, c81, c86] using hV) | exact ih (r + 1) false false true (by omega) (by simpa [rRs, c16, c26, c35, c48, c64, c81, c86] using hV) | exact ih (r + 1) false false false (by omega) (by simpa [rRs, c16, c26, c35, c48, c64, c81, c86] using hV)
          · refine ax_iload dX4_recover_67 rfl ?_
            refine ax_iconst (nI 2) dX4_recover_69 (by decide) ?_
            refine ax_nne 77 dX4_recover_70 (by decide) (by omega) (by omega) (fun c70 => ?_) (fun c70 => ?_)
            · refine ax_iconst (ax_b false) dX4_recover_77 (by decide) ?_
              refine ax_istore_n dX4_recover_78 rfl (by decide) ?_
              refine ax_iload dX4_recover_79 rfl ?_
              refine ax_bne 89 dX4_recover_81 (by decide) (fun c81 => ?_) (fun c81 => ?_)
              · refine ax_iconst (ax_b true) dX4_recover_89 (by decide) ?_
                refine ax_goto 94 dX4_recover_90 (by decide) ?_
                refine ax_istore dX4_recover_94 rfl (by decide) ?_
                refine ax_iincn (n := 1) dX4_recover_96 rfl (by decide) rfl ?_
                refine ax_goto 10 dX4_recover_99 (by decide) ?_
                refine ax_fg [true, true, true, true, true, true, false, false, false] rfl ?_
                first | omega | exact ih (r + 1) true true true (by omega) (by simpa [rRs, c16, c26, c35, c48, c64, c70, c81] using hV) | exact ih (r + 1) true true false (by omega) (by simpa [rRs, c16, c26, c35, c48, c64, c70, c81] using hV) | exact ih (r + 1) true false true (by omega) (by simpa [rRs, c16, c26, c35, c48, c64, c70, c81] using hV) | exact ih (r + 1) true false false (by omega) (by simpa [rRs, c16, c26, c35, c48, c64, c70, c81] using hV) | exact ih (r + 1) false true true (by omega) (by simpa [rRs, c16, c26, c35, c48, c64, c70, c81] using hV) | exact ih (r + 1) false true false (by omega) (by simpa [rRs, c16, c26, c35, c48, c64, c70, c81] using hV) | exact ih (r + 1) false false true (by omega) (by simpa [rRs, c16, c26, c35, c48, c64, c70, c81] using hV) | exact ih (r + 1) false false false (by omega) (by simpa [rRs, c16, c26, c35, c48, c64, c70, c81] using hV)
              · refine ax_iload dX4_recover_84 rfl ?_
                refine ax_zne 93 dX4_recover_86 (by decide) (by omega) (fun c86 => ?_) (fun c86 => ?_)
                · refine ax_iconst (ax_b false) dX4_recover_93 (by decide) ?_
                  refine ax_istore dX4_recover_94 rfl (by decide) ?_
                  refine ax_iincn (n := 1) dX4_recover_96 rfl (by decide) rfl ?_
                  refine ax_goto 10 dX4_recover_99 (by decide) ?_
                  refine ax_fg [true, true, true, true, true, true, false, false, false] rfl ?_
                  first | omega | exact ih (r + 1) true true true (by omega) (by simpa [rRs, c16, c26, c35, c48, c64, c70, c81, c86] using hV) | exact ih (r + 1) true true false (by omega) (by simpa [rRs, c16, c26, c35, c48, c64, c70, c81, c86] using hV) | exact ih (r + 1) true false true (by omega) (by simpa [rRs, c16, c26, c35, c48, c64, c70, c81, c86] using hV) | exact ih (r + 1) true false false (by omega) (by simpa [rRs, c16, c26, c35, c48, c64, c70, c81, c86] using hV) | exact ih (r + 1) false true true (by omega) (by simpa [rRs, c16, c26, c35, c48, c64, c70, c81, c86] using hV) | exact ih (r + 1) false true false (by omega) (by simpa [rRs, c16, c26, c35, c48, c64, c70, c81, c86] using hV) | exact ih (r + 1) false false true (by omega) (by simpa [rRs, c16, c26, c35, c48, c64, c70, c81, c86] using hV) | exact ih (r + 1) false false false (by omega) (by simpa [rRs, c16, c26, c35, c48, c64, c70, c81, c86] using hV)
                · refine ax_iconst (ax_b true) dX4_recover_89 (by decide) ?_
                  refine ax_goto 94 dX4_recover_90 (by decide) ?_
                  refine ax_istore dX4_recover_94 rfl (by decide) ?_
                  refine ax_iincn (n := 1) dX4_recover_96 rfl (by decide) rfl ?_
                  refine ax_goto 10 dX4_recover_99 (by decide) ?_
                  refine ax_fg [true, true, true, true, true, true, false, false, false] rfl ?_
                  first | omega | exact ih (r + 1) true true true (by omega) (by simpa [rRs, c16, c26, c35, c48, c64, c70, c81, c86] using hV) | exact ih (r + 1) true true false (by omega) (by simpa [rRs, c16, c26, c35, c48, c64, c70, c81, c86] using hV) | exact ih (r + 1) true false true (by omega) (by simpa [rRs, c16, c26, c35, c48, c64, c70, c81, c86] using hV) | exact ih (r + 1) true false false (by omega) (by simpa [rRs, c16, c26, c35, c48, c64, c70, c81, c86] using hV) | exact ih (r + 1) false true true (by omega) (by simpa [rRs, c16, c26, c35, c48, c64, c70, c81, c86] using hV) | exact ih (r + 1) false true false (by omega) (by simpa [rRs, c16, c26, c35, c48, c64, c70, c81, c86] using hV) | exact ih (r + 1) false false true (by omega) (by simpa [rRs, c16, c26, c35, c48, c64, c70, c81, c86] using hV) | exact ih (r + 1) false false false (by omega) (by simpa [rRs, c16, c26, c35, c48, c64, c70, c81, c86] using hV)
            · refine ax_iconst (ax_b true) dX4_recover_73 (by decide) ?_
              refine ax_goto 78 dX4_recover_74 (by decide) ?_
              refine ax_istore_n dX4_recover_78 rfl (by decide) ?_
              refine ax_iload dX4_recover_79 rfl ?_
              refine ax_bne 89 dX4_recover_81 (by decide) (fun c81 => ?_) (fun c81 => ?_)
              · refine ax_iconst (ax_b true) dX4_recover_89 (by decide) ?_
                refine ax_goto 94 dX4_recover_90 (by decide) ?_
                refine ax_istore dX4_recover_94 rfl (by decide) ?_
                refine ax_iincn (n := 1) dX4_recover_96 rfl (by decide) rfl ?_
                refine ax_goto 10 dX4_recover_99 (by decide) ?_
                refine ax_fg [true, true, true, true, true, true, false, false, false] rfl ?_
                first | omega | exact ih (r + 1) true true true (by omega) (by simpa [rRs, c16, c26, c35, c48, c64, c70, c81] using hV) | exact ih (r + 1) true true false (by omega) (by simpa [rRs, c16, c26, c35, c48, c64, c70, c81] using hV) | exact ih (r + 1) true false true (by omega) (by simpa [rRs, c16, c26, c35, c48, c64, c70, c81] using hV) | exact ih (r + 1) true false false (by omega) (by simpa [rRs, c16, c26, c35, c48, c64, c70, c81] using hV) | exact ih (r + 1) false true true (by omega) (by simpa [rRs, c16, c26, c35, c48, c64, c70, c81] using hV) | exact ih (r + 1) false true false (by omega) (by simpa [rRs, c16, c26, c35, c48, c64, c70, c81] using hV) | exact ih (r + 1) false false true (by omega) (by simpa [rRs, c16, c26, c35, c48, c64, c70, c81] using hV) | exact ih (r + 1) false false false (by omega) (by simpa [rRs, c16, c26, c35, c48, c64, c70, c81] using hV)
              · refine ax_iload dX4_recover_84 rfl ?_
                refine ax_zne 93 dX4_recover_86 (by decide) (by omega) (fun c86 => ?_) (fun c86 => ?_)
                · refine ax_iconst (ax_b false) dX4_recover_93 (by decide) ?_
                  refine ax_istore dX4_recover_94 rfl (by decide) ?_
                  refine ax_iincn (n := 1) dX4_recover_96 rfl (by decide) rfl ?_
                  refine ax_goto 10 dX4_recover_99 (by decide) ?_
                  refine ax_fg [true, true, true, true, true, true, false, false, false] rfl ?_
                  first | omega | exact ih (r + 1) true true true (by omega) (by simpa [rRs, c16, c26, c35, c48, c64, c70, c81, c86] using hV) | exact ih (r + 1) true true false (by omega) (by simpa [rRs, c16, c26, c35, c48, c64, c70, c81, c86] using hV) | exact ih (r + 1) true false true (by omega) (by simpa [rRs, c16, c26, c35, c48, c64, c70, c81, c86] using hV) | exact ih (r + 1) true false false (by omega) (by simpa [rRs, c16, c26, c35, c48, c64, c70, c81, c86] using hV) | exact ih (r + 1) false true true (by omega) (by simpa [rRs, c16, c26, c35, c48, c64, c70, c81, c86] using hV) | exact ih (r + 1) false true false (by omega) (by simpa [rRs, c16, c26, c35, c48, c64, c70, c81, c86] using hV) | exact ih (r + 1) false false true (by omega) (by simpa [rRs, c16, c26, c35, c48, c64, c70, c81, c86] using hV) | exact ih (r + 1) false false false (by omega) (by simpa [rRs, c16, c26, c35, c48, c64, c70, c81, c86] using hV)
                · refine ax_iconst (ax_b true) dX4_recover_89 (by decide) ?_
                  refine ax_goto 94 dX4_recover_90 (by decide) ?_
                  refine ax_istore dX4_recover_94 rfl (by decide) ?_
                  refine ax_iincn (n := 1) dX4_recover_96 rfl (by decide) rfl ?_
                  refine ax_goto 10 dX4_recover_99 (by decide) ?_
                  refine ax_fg [true, true, true, true, true, true, false, false, false] rfl ?_
                  first | omega | exact ih (r + 1) true true true (by omega) (by simpa [rRs, c16, c26, c35, c48, c64, c70, c81, c86] using hV) | exact ih (r + 1) true true false (by omega) (by simpa [rRs, c16, c26, c35, c48, c64, c70, c81, c86] using hV) | exact ih (r + 1) true false true (by omega) (by simpa [rRs, c16, c26, c35, c48, c64, c70, c81, c86] using hV) | exact ih (r + 1) true false false (by omega) (by simpa [rRs, c16, c26, c35, c48, c64, c70, c81, c86] using hV) | exact ih (r + 1) false true true (by omega) (by simpa [rRs, c16, c26, c35, c48, c64, c70, c81, c86] using hV) | exact ih (r + 1) false true false (by omega) (by simpa [rRs, c16, c26, c35, c48, c64, c70, c81, c86] using hV) | exact ih (r + 1) false false true (by omega) (by simpa [rRs, c16, c26, c35, c48, c64, c70, c81, c86] using hV) | exact ih (r + 1) false false false (by omega) (by simpa [rRs, c16, c26, c35, c48, c64, c70, c81, c86] using hV)
        · refine ax_iload dX4_recover_51 rfl ?_
          refine ax_iconst (nI 3) dX4_recover_53 (by decide) ?_
          refine ax_nne 61 dX4_recover_54 (by decide) (by omega) (by omega) (fun c54 => ?_) (fun c54 => ?_)
          · refine ax_iconst (ax_b false) dX4_recover_61 (by decide) ?_
            refine ax_istore_n dX4_recover_62 rfl (by decide) ?_
            refine ax_iload_n dX4_recover_63 rfl ?_
            refine ax_bne 73 dX4_recover_64 (by decide) (fun c64 => ?_) (fun c64 => ?_)
            · refine ax_iconst (ax_b true) dX4_recover_73 (by decide) ?_
              refine ax_goto 78 dX4_recover_74 (by decide) ?_
              refine ax_istore_n dX4_recover_78 rfl (by decide) ?_
              refine ax_iload dX4_recover_79 rfl ?_
              refine ax_bne 89 dX4_recover_81 (by decide) (fun c81 => ?_) (fun c81 => ?_)
              · refine ax_iconst (ax_b true) dX4_recover_89 (by decide) ?_
                refine ax_goto 94 dX4_recover_90 (by decide) ?_
                refine ax_istore dX4_recover_94 rfl (by decide) ?_
                refine ax_iincn (n := 1) dX4_recover_96 rfl (by decide) rfl ?_
                refine ax_goto 10 dX4_recover_99 (by decide) ?_
                refine ax_fg [true, true, true, true, true, true, false, false, false] rfl ?_
                first | omega | exact ih (r + 1) true true true (by omega) (by simpa [rRs, c16, c26, c35, c48, c54, c64, c81] using hV) | exact ih (r + 1) true true false (by omega) (by simpa [rRs, c16, c26, c35, c48, c54, c64, c81] using hV) | exact ih (r + 1) true false true (by omega) (by simpa [rRs, c16, c26, c35, c48, c54, c64, c81] using hV) | exact ih (r + 1) true false false (by omega) (by simpa [rRs, c16, c26, c35, c48, c54, c64, c81] using hV) | exact ih (r + 1) false true true (by omega) (by simpa [rRs, c16, c26, c35, c48, c54, c64, c81] using hV) | exact ih (r + 1) false true false (by omega) (by simpa [rRs, c16, c26, c35, c48, c54, c64, c81] using hV) | exact ih (r + 1) false false true (by omega) (by simpa [rRs, c16, c26, c35, c48, c54, c64, c81] using hV) | exact ih (r + 1) false false false (by omega) (by simpa [rRs, c16, c26, c35, c48, c54, c64, c81] using hV)
              · refine ax_iload dX4_recover_84 rfl ?_
                refine ax_zne 93 dX4_recover_86 (by decide) (by omega) (fun c86 => ?_) (fun c86 => ?_)
                · refine ax_iconst (ax_b false) dX4_recover_93 (by decide) ?_
                  refine ax_istore dX4_recover_94 rfl (by decide) ?_
                  refine ax_iincn (n := 1) dX4_recover_96 rfl (by decide) rfl ?_
                  refine ax_goto 10 dX4_recover_99 (by decide) ?_
                  refine ax_fg [true, true, true, true, true, true, false, false, false] rfl ?_
                  first | omega | exact ih (r + 1) true true true (by omega) (by simpa [rRs, c16, c26, c35, c48, c54, c64, c81, c86] using hV) | exact ih (r + 1) true true false (by omega) (by simpa [rRs, c16, c26, c35, c48, c54, c64, c81, c86] using hV) | exact ih (r + 1) true false true (by omega) (by simpa [rRs, c16, c26, c35, c48, c54, c64, c81, c86] using hV) | exact ih (r + 1) true false false (by omega) (by simpa [rRs, c16, c26, c35, c48, c54, c64, c81, c86] using hV) | exact ih (r + 1) false true true (by omega) (by simpa [rRs, c16, c26, c35, c48, c54, c64, c81, c86] using hV) | exact ih (r + 1) false true false (by omega) (by simpa [rRs, c16, c26, c35, c48, c54, c64, c81, c86] using hV) | exact ih (r + 1) false false true (by omega) (by simpa [rRs, c16, c26, c35, c48, c54, c64, c81, c86] using hV) | exact ih (r + 1) false false false (by omega) (by simpa [rRs, c16, c26, c35, c48, c54, c64, c81, c86] using hV)
                · refine ax_iconst (ax_b true) dX4_recover_89 (by decide) ?_
                  refine ax_goto 94 dX4_recover_90 (by decide) ?_
                  refine ax_istore dX4_recover_94 rfl (by decide) ?_
                  refine ax_iincn (n := 1) dX4_recover_96 rfl (by decide) rfl ?_
                  refine ax_goto 10 dX4_recover_99 (by decide) ?_
                  refine ax_fg [true, true, true, true, true, true, false, false, false] rfl ?_
                  first | omega | exact ih (r + 1) true true true (by omega) (by simpa [rRs, c16, c26, c35, c48, c54, c64, c81, c86] using hV) | exact ih (r + 1) true true false (by omega) (by simpa [rRs, c16, c26, c35, c48, c54, c64, c81, c86] using hV) | exact ih (r + 1) true false true (by omega) (by simpa [rRs, c16, c26, c35, c48, c54, c64, c81, c86] using hV) | exact ih (r + 1) true false false (by omega) (by simpa [rRs, c16, c26, c35, c48, c54, c64, c81, c86] using hV) | exact ih (r + 1) false true true (by omega) (by simpa [rRs, c16, c26, c35, c48, c54, c64, c81, c86] using hV) | exact ih (r + 1) false true false (by omega) (by simpa [rRs, c16, c26, c35, c48, c54, c64, c81, c86] using hV) | exact ih (r + 1) false false true (by omega) (by simpa [rRs, c16, c26, c35, c48, c54, c64, c81, c86] using hV) | exact ih (r + 1) false false false (by omega) (by simpa [rRs, c16, c26, c35, c48, c54, c64, c81, c86] using hV)
            · refine ax_iload dX4_recover_67 rfl ?_
              refine ax_iconst (nI 2) dX4_recover_69 (by decide) ?_
              refine ax_nne 77 dX4_recover_70 (by decide) (by omega) (by omega) (fun c70 => ?_) (fun c70 => ?_)
              · refine ax_iconst (ax_b false) dX4_recover_77 (by decide) ?_
                refine ax_istore_n dX4_recover_78 rfl (by decide) ?_
                refine ax_iload dX4_recover_79 rfl ?_
                refine ax_bne 89 dX4_recover_81 (by decide) (fun c81 => ?_) (fun c81 => ?_)
                · refine ax_iconst (ax_b true) dX4_recover_89 (by decide) ?_
                  refine ax_goto 94 dX4_recover_90 (by decide) ?_
                  refine ax_istore dX4_recover_94 rfl (by decide) ?_
                  refine ax_iincn (n := 1) dX4_recover_96 rfl (by decide) rfl ?_
                  refine ax_goto 10 dX4_recover_99 (by decide) ?_
                  refine ax_fg [true, true, true, true, true, true, false, false, false] rfl ?_
                  first | omega | exact ih (r + 1) true true true (by omega) (by simpa [rRs, c16, c26, c35, c48, c54, c64, c70, c81] using hV) | exact ih (r + 1) true true false (by omega) (by simpa [rRs, c16, c26, c35, c48, c54, c64, c70, c81] using hV) | exact ih (r + 1) true false true (by omega) (by simpa [rRs, c16, c26, c35, c48, c54, c64, c70, c81] using hV) | exact ih (r + 1) true false false (by omega) (by simpa [rRs, c16, c26, c35, c48, c54, c64, c70, c81] using hV) | exact ih (r + 1) false true true (by omega) (by simpa [rRs, c16, c26, c35, c48, c54, c64, c70, c81] using hV) | exact ih (r + 1) false true false (by omega) (by simpa [rRs, c16, c26, c35, c48, c54, c64, c70, c81] using hV) | exact ih (r + 1) false false true (by omega) (by simpa [rRs, c16, c26, c35, c48, c54, c64, c70, c81] using hV) | exact ih (r + 1) false false false (by omega) (by simpa [rRs, c16, c26, c35, c48, c54, c64, c70, c81] using hV)
                · refine ax_iload dX4_recover_84 rfl ?_
                  refine ax_zne 93 dX4_recover_86 (by decide) (by omega) (fun c86 => ?_) (fun c86 => ?_)
                  · refine ax_iconst (ax_b false) dX4_recover_93 (by decide) ?_
                    refine ax_istore dX4_recover_94 rfl (by decide) ?_
                    refine ax_iincn (n := 1) dX4_recover_96 rfl (by decide) rfl ?_
                    refine ax_goto 10 dX4_recover_99 (by decide) ?_
                    refine ax_fg [true, true, true, true, true, true, false, false, false] rfl ?_
                    first | omega | exact ih (r + 1) true true true (by omega) (by simpa [rRs, c16, c26, c35, c48, c54, c64, c70, c81, c86] using hV) | exact ih (r + 1) true true false (by omega) (by simpa [rRs, c16, c26, c35, c48, c54, c64, c70, c81, c86] using hV) | exact ih (r + 1) true false true (by omega) (by simpa [rRs, c16, c26, c35, c48, c54, c64, c70, c81, c86] using hV) | exact ih (r + 1) true false false (by omega) (by simpa [rRs, c16, c26, c35, c48, c54, c64, c70, c81, c86] using hV) | exact ih (r + 1) false true true (by omega) (by simpa [rRs, c16, c26, c35, c48, c54, c64, c70, c81, c86] using hV) | exact ih (r + 1) false true false (by omega) (by simpa [rRs, c16, c26, c35, c48, c54, c64, c70, c81, c86] using hV) | exact ih (r + 1) false false true (by omega) (by simpa [rRs, c16, c26, c35, c48, c54, c64, c70, c81, c86] using hV) | exact ih (r + 1) false false false (by omega) (by simpa [rRs, c16, c26, c35, c48, c54, c64, c70, c81, c86] using hV)
                  · refine ax_iconst (ax_b true) dX4_recover_89 (by decide) ?_
                    refine ax_goto 94 dX4_recover_90 (by decide) ?_
                    refine ax_istore dX4_recover_94 rfl (by decide) ?_
                    refine ax_iincn (n := 1) dX4_recover_96 rfl (by decide) rfl ?_
                    refine ax_goto 10 dX4_recover_99 (by decide) ?_
                    refine ax_fg [true, true, true, true, true, true, false, false, false] rfl ?_
                    first | omega | exact ih (r + 1) true true true (by omega) (by simpa [rRs, c16, c26, c35, c48, c54, c64, c70, c81, c86] using hV) | exact ih (r + 1) true true false (by omega) (by simpa [rRs, c16, c26, c35, c48, c54, c64, c70, c81, c86] using hV) | exact ih (r + 1) true false true (by omega) (by simpa [rRs, c16, c26, c35, c48, c54, c64, c70, c81, c86] using hV) | exact ih (r + 1) true false false (by omega) (by simpa [rRs, c16, c26, c35, c48, c54, c64, c70, c81, c86] using hV) | exact ih (r + 1) false true true (by omega) (by simpa [rRs, c16, c26, c35, c48, c54, c64, c70, c81, c86] using hV) | exact ih (r + 1) false true false (by omega) (by simpa [rRs, c16, c26, c35, c48, c54, c64, c70, c81, c86] using hV) | exact ih (r + 1) false false true (by omega) (by simpa [rRs, c16, c26, c35, c48, c54, c64, c70, c81, c86] using hV) | exact ih (r + 1) false false false (by omega) (by simpa [rRs, c16, c26, c35, c48, c54, c64, c70, c81, c86] using hV)
              · refine ax_iconst (ax_b true) dX4_recover_73 (by decide) ?_
                refine ax_goto 78 dX4_recover_74 (by decide) ?_
                refine ax_istore_n dX4_recover_78 rfl (by decide) ?_
                refine ax_iload dX4_recover_79 rfl ?_
                refine ax_bne 89 dX4_recover_81 (by decide) (fun c81 => ?_) (fun c81 => ?_)
                · refine ax_iconst (ax_b true) dX4_recover_89 (by decide) ?_
                  refine ax_goto 94 dX4_recover_90 (by decide) ?_
                  refine ax_istore dX4_recover_94 rfl (by decide) ?_
                  refine ax_iincn (n := 1) dX4_recover_96 rfl (by decide) rfl ?_
                  refine ax_goto 10 dX4_recover_99 (by decide) ?_
                  refine ax_fg [true, true, true, true, true, true, false, false, false] rfl ?_
                  first | omega | exact ih (r + 1) true true true (by omega) (by simpa [rRs, c16, c26, c35, c48, c54, c64, c70, c81] using hV) | exact ih (r + 1) true true false (by omega) (by simpa [rRs, c16, c26, c35, c48, c54, c64, c70, c81] using hV) | exact ih (r + 1) true false true (by omega) (by simpa [rRs, c16, c26, c35, c48, c54, c64, c70, c81] using hV) | exact ih (r + 1) true false false (by omega) (by simpa [rRs, c16, c26, c35, c48, c54, c64, c70, c81] using hV) | exact ih (r + 1) false true true (by omega) (by simpa [rRs, c16, c26, c35, c48, c54, c64, c70, c81] using hV) | exact ih (r + 1) false true false (by omega) (by simpa [rRs, c16, c26, c35, c48, c54, c64, c70, c81] using hV) | exact ih (r + 1) false false true (by omega) (by simpa [rRs, c16, c26, c35, c48, c54, c64, c70, c81] using hV) | exact ih (r + 1) false false false (by omega) (by simpa [rRs, c16, c26, c35, c48, c54, c64, c70, c81] using hV)
                · refine ax_iload dX4_recover_84 rfl ?_
                  refine ax_zne 93 dX4_recover_86 (by decide) (by omega) (fun c86 => ?_) (fun c86 => ?_)
                  · refine ax_iconst (ax_b false) dX4_recover_93 (by decide) ?_
                    refine ax_istore dX4_recover_94 rfl (by decide) ?_
                    refine ax_iincn (n := 1) dX4_recover_96 rfl (by decide) rfl ?_
                    refine ax_goto 10 dX4_recover_99 (by decide) ?_
                    refine ax_fg [true, true, true, true, true, true, false, false, false] rfl ?_
                    first | omega | exact ih (r + 1) true true true (by omega) (by simpa [rRs, c16, c26, c35, c48, c54, c64, c70, c81, c86] using hV) | exact ih (r + 1) true true false (by omega) (by simpa [rRs, c16, c26, c35, c48, c54, c64, c70, c81, c86] using hV) | exact ih (r + 1) true false true (by omega) (by simpa [rRs, c16, c26, c35, c48, c54, c64, c70, c81, c86] using hV) | exact ih (r + 1) true false false (by omega) (by simpa [rRs, c16, c26, c35, c48, c54, c64, c70, c81, c86] using hV) | exact ih (r + 1) false true true (by omega) (by simpa [rRs, c16, c26, c35, c48, c54, c64, c70, c81, c86] using hV) | exact ih (r + 1) false true false (by omega) (by simpa [rRs, c16, c26, c35, c48, c54, c64, c70, c81, c86] using hV) | exact ih (r + 1) false false true (by omega) (by simpa [rRs, c16, c26, c35, c48, c54, c64, c70, c81, c86] using hV) | exact ih (r + 1) false false false (by omega) (by simpa [rRs, c16, c26, c35, c48, c54, c64, c70, c81, c86] using hV)
                  · refine ax_iconst (ax_b true) dX4_recover_89 (by decide) ?_
                    refine ax_goto 94 dX4_recover_90 (by decide) ?_
                    refine ax_istore dX4_recover_94 rfl (by decide) ?_
                    refine ax_iincn (n := 1) dX4_recover_96 rfl (by decide) rfl ?_
                    refine ax_goto 10 dX4_recover_99 (by decide) ?_
                    refine ax_fg [true, true, true, true, true, true, false, false, false] rfl ?_
                    first | omega | exact ih (r + 1) true true true (by omega) (by simpa [rRs, c16, c26, c35, c48, c54, c64, c70, c81, c86] using hV) | exact ih (r + 1) true true false (by omega) (by simpa [rRs, c16, c26, c35, c48, c54, c64, c70, c81, c86] using hV) | exact ih (r + 1) true false true (by omega) (by simpa [rRs, c16, c26, c35, c48, c54, c64, c70, c81, c86] using hV) | exact ih (r + 1) true false false (by omega) (by simpa [rRs, c16, c26, c35, c48, c54, c64, c70, c81, c86] using hV) | exact ih (r + 1) false true true (by omega) (by simpa [rRs, c16, c26, c35, c48, c54, c64, c70, c81, c86] using hV) | exact ih (r + 1) false true false (by omega) (by simpa [rRs, c16, c26, c35, c48, c54, c64, c70, c81, c86] using hV) | exact ih (r + 1) false false true (by omega) (by simpa [rRs, c16, c26, c35, c48, c54, c64, c70, c81, c86] using hV) | exact ih (r + 1) false false false (by omega) (by simpa [rRs, c16, c26, c35, c48, c54, c64, c70, c81, c86] using hV)
          · refine ax_iconst (ax_b true) dX4_recover_57 (by decide) ?_
            refine ax_goto 62 dX4_recover_58 (by decide) ?_
            refine ax_istore_n dX4_recover_62 rfl (by decide) ?_
            refine ax_iload_n dX4_recover_63 rfl ?_
            refine ax_bne 73 dX4_recover_64 (by decide) (fun c64 => ?_) (fun c64 => ?_)
            · refine ax_iconst (ax_b true) dX4_recover_73 (by decide) ?_
              refine ax_goto 78 dX4_recover_74 (by decide) ?_
              refine ax_istore_n dX4_recover_78 rfl (by decide) ?_
              refine ax_iload dX4_recover_79 rfl ?_
              refine ax_bne 89 dX4_recover_81 (by decide) (fun c81 => ?_) (fun c81 => ?_)
              · refine ax_iconst (ax_b true) dX4_recover_89 (by decide) ?_
                refine ax_goto 94 dX4_recover_90 (by decide) ?_
                refine ax_istore dX4_recover_94 rfl (by decide) ?_
                refine ax_iincn (n := 1) dX4_recover_96 rfl (by decide) rfl ?_
                refine ax_goto 10 dX4_recover_99 (by decide) ?_
                refine ax_fg [true, true, true, true, true, true, false, false, false] rfl ?_
                first | omega | exact ih (r + 1) true true true (by omega) (by simpa [rRs, c16, c26, c35, c48, c54, c64, c81] using hV) | exact ih (r + 1) true true false (by omega) (by simpa [rRs, c16, c26, c35, c48, c54, c64, c81] using hV) | exact ih (r + 1) true false true (by omega) (by simpa [rRs, c16, c26, c35, c48, c54, c64, c81] using hV) | exact ih (r + 1) true false false (by omega) (by simpa [rRs, c16, c26, c35, c48, c54, c64, c81] using hV) | exact ih (r + 1) false true true (by omega) (by simpa [rRs, c16, c26, c35, c48, c54, c64, c81] using hV) | exact ih (r + 1) false true false (by omega) (by simpa [rRs, c16, c26, c35, c48, c54, c64, c81] using hV) | exact ih (r + 1) false false true (by omega) (by simpa [rRs, c16, c26, c35, c48, c54, c64, c81] using hV) | exact ih (r + 1) false false false (by omega) (by simpa [rRs, c16, c26, c35, c48, c54, c64, c81] using hV)
              · refine ax_iload dX4_recover_84 rfl ?_
                refine ax_zne 93 dX4_recover_86 (by decide) (by omega) (fun c86 => ?_) (fun c86 => ?_)
                · refine ax_iconst (ax_b false) dX4_recover_93 (by decide) ?_
                  refine ax_istore dX4_recover_94 rfl (by decide) ?_
                  refine ax_iincn (n := 1) dX4_recover_96 rfl (by decide) rfl ?_
                  refine ax_goto 10 dX4_recover_99 (by decide) ?_
                  refine ax_fg [true, true, true, true, true, true, false, false, false] rfl ?_
                  first | omega | exact ih (r + 1) true true true (by omega) (by simpa [rRs, c16, c26, c35, c48, c54, c64, c81, c86] using hV) | exact ih (r + 1) true true false (by omega) (by simpa [rRs, c16, c26, c35, c48, c54, c64, c81, c86] using hV) | exact ih (r + 1) true false true (by omega) (by simpa [rRs, c16, c26, c35, c48, c54, c64, c81, c86] using hV) | exact ih (r + 1) true false false (by omega) (by simpa [rRs, c16, c26, c35, c48, c54, c64, c81, c86] using hV) | exact ih (r + 1) false true true (by omega) (by simpa [rRs, c16, c26, c35, c48, c54, c64, c81, c86] using hV) | exact ih (r + 1) false true false (by omega) (by simpa [rRs, c16, c26, c35, c48, c54, c64, c81, c86] using hV) | exact ih (r + 1) false false true (by omega) (by simpa [rRs, c16, c26, c35, c48, c54, c64, c81, c86] using hV) | exact ih (r + 1) false false false (by omega) (by simpa [rRs, c16, c26, c35, c48, c54, c64, c81, c86] using hV)
                · refine ax_iconst (ax_b true) dX4_recover_89 (by decide) ?_
                  refine ax_goto 94 dX4_recover_90 (by decide) ?_
                  refine ax_istore dX4_recover_94 rfl (by decide) ?_
                  refine ax_iincn (n := 1) dX4_recover_96 rfl (by decide) rfl ?_
                  refine ax_goto 10 dX4_recover_99 (by decide) ?_
                  refine ax_fg [true, true, true, true, true, true, false, false, false] rfl ?_
                  first | omega | exact ih (r + 1) true true true (by omega) (by simpa [rRs, c16, c26, c35, c48, c54, c64, c81, c86] using hV) | exact ih (r + 1) true true false (by omega) (by simpa [rRs, c16, c26, c35, c48, c54, c64, c81, c86] using hV) | exact ih (r + 1) true false true (by omega) (by simpa [rRs, c16, c26, c35, c48, c54, c64, c81, c86] using hV) | exact ih (r + 1) true false false (by omega) (by simpa [rRs, c16, c26, c35, c48, c54, c64, c81, c86] using hV) | exact ih (r + 1) false true true (by omega) (by simpa [rRs, c16, c26, c35, c48, c54, c64, c81, c86] using hV) | exact ih (r + 1) false true false (by omega) (by simpa [rRs, c16, c26, c35, c48, c54, c64, c81, c86] using hV) | exact ih (r + 1) false false true (by omega) (by simpa [rRs, c16, c26, c35, c48, c54, c64, c81, c86] using hV) | exact ih (r + 1) false false false (by omega) (by simpa [rRs, c16, c26, c35, c48, c54, c64, c81, c86] using hV)
            · refine ax_iload dX4_recover_67 rfl ?_
              refine ax_iconst (nI 2) dX4_recover_69 (by decide) ?_
              refine ax_nne 77 dX4_recover_70 (by decide) (by omega) (by omega) (fun c70 => ?_) (fun c70 => ?_)
              · refine ax_iconst (ax_b false) dX4_recover_77 (by decide) ?_
                refine ax_istore_n dX4_recover_78 rfl (by decide) ?_
                refine ax_iload dX4_recover_79 rfl ?_
                refine ax_bne 89 dX4_recover_81 (by decide) (fun c81 => ?_) (fun c81 => ?_)
                · refine ax_iconst (ax_b true) dX4_recover_89 (by decide) ?_
                  refine ax_goto 94 dX4_recover_90 (by decide) ?_
                  refine ax_istore dX4_recover_94 rfl (by decide) ?_
                  refine ax_iincn (n := 1) dX4_recover_96 rfl (by decide) rfl ?_
                  refine ax_goto 10 dX4_recover_99 (by decide) ?_
                  refine ax_fg [true, true, true, true, true, true, false, false, false] rfl ?_
                  first | omega | exact ih (r + 1) true true true (by omega) (by simpa [rRs, c16, c26, c35, c48, c54, c64, c70, c81] using hV) | exact ih (r + 1) true true false (by omega) (by simpa [rRs, c16, c26, c35, c48, c54, c64, c70, c81] using hV) | exact ih (r + 1) true false true (by omega) (by simpa [rRs, c16, c26, c35, c48, c54, c64, c70, c81] using hV) | exact ih (r + 1) true false false (by omega) (by simpa [rRs, c16, c26, c35, c48, c54, c64, c70, c81] using hV) | exact ih (r + 1) false true true (by omega) (by simpa [rRs, c16, c26, c35, c48, c54, c64, c70, c81] using hV) | exact ih (r + 1) false true false (by omega) (by simpa [rRs, c16, c26, c35, c48, c54, c64, c70, c81] using hV) | exact ih (r + 1) false false true (by omega) (by simpa [rRs, c16, c26, c35, c48, c54, c64, c70, c81] using hV) | exact ih (r + 1) false false false (by omega) (by simpa [rRs, c16, c26, c35, c48, c54, c64, c70, c81] using hV)
                · refine ax_iload dX4_recover_84 rfl ?_
                  refine ax_zne 93 dX4_recover_86 (by decide) (by omega) (fun c86 => ?_) (fun c86 => ?_)
                  · refine ax_iconst (ax_b false) dX4_recover_93 (by decide) ?_
                    refine ax_istore dX4_recover_94 rfl (by decide) ?_
                    refine ax_iincn (n := 1) dX4_recover_96 rfl (by decide) rfl ?_
                    refine ax_goto 10 dX4_recover_99 (by decide) ?_
                    refine ax_fg [true, true, true, true, true, true, false, false, false] rfl ?_
                    first | omega | exact ih (r + 1) true true true (by omega) (by simpa [rRs, c16, c26, c35, c48, c54, c64, c70, c81, c86] using hV) | exact ih (r + 1) true true false (by omega) (by simpa [rRs, c16, c26, c35, c48, c54, c64, c70, c81, c86] using hV) | exact ih (r + 1) true false true (by omega) (by simpa [rRs, c16, c26, c35, c48, c54, c64, c70, c81, c86] using hV) | exact ih (r + 1) true false false (by omega) (by simpa [rRs, c16, c26, c35, c48, c54, c64, c70, c81, c86] using hV) | exact ih (r + 1) false true true (by omega) (by simpa [rRs, c16, c26, c35, c48, c54, c64, c70, c81, c86] using hV) | exact ih (r + 1) false true false (by omega) (by simpa [rRs, c16, c26, c35, c48, c54, c64, c70, c81, c86] using hV) | exact ih (r + 1) false false true (by omega) (by simpa [rRs, c16, c26, c35, c48, c54, c64, c70, c81, c86] using hV) | exact ih (r + 1) false false false (by omega) (by simpa [rRs, c16, c26, c35, c48, c54, c64, c70, c81, c86] using hV)
                  · refine ax_iconst (ax_b true) dX4_recover_89 (by decide) ?_
                    refine ax_goto 94 dX4_recover_90 (by decide) ?_
                    refine ax_istore dX4_recover_94 rfl (by decide) ?_
                    refine ax_iincn (n := 1) dX4_recover_96 rfl (by decide) rfl ?_
                    refine ax_goto 10 dX4_recover_99 (by decide) ?_
                    refine ax_fg [true, true, true, true, true, true, false, false, false] rfl ?_
                    first | omega | exact ih (r + 1) true true true (by omega) (by simpa [rRs, c16, c26, c35, c48, c54, c64, c70, c81, c86] using hV) | exact ih (r + 1) true true false (by omega) (by simpa [rRs, c16, c26, c35, c48, c54, c64, c70, c81, c86] using hV) | exact ih (r + 1) true false true (by omega) (by simpa [rRs, c16, c26, c35, c48, c54, c64, c70, c81, c86] using hV) | exact ih (r + 1) true false false (by omega) (by simpa [rRs, c16, c26, c35, c48, c54, c64, c70, c81, c86] using hV) | exact ih (r + 1) false true true (by omega) (by simpa [rRs, c16, c26, c35, c48, c54, c64, c70, c81, c86] using hV) | exact ih (r + 1) false true false (by omega) (by simpa [rRs, c16, c26, c35, c48, c54, c64, c70, c81, c86] using hV) | exact ih (r + 1) false false true (by omega) (by simpa [rRs, c16, c26, c35, c48, c54, c64, c70, c81, c86] using hV) | exact ih (r + 1) false false false (by omega) (by simpa [rRs, c16, c26, c35, c48, c54, c64, c70, c81, c86] using hV)
              · refine ax_iconst (ax_b true) dX4_recover_73 (by decide) ?_
                refine ax_goto 78 dX4_recover_74 (by decide) ?_
                refine ax_istore_n dX4_recover_78 rfl (by decide) ?_
                refine ax_iload dX4_recover_79 rfl ?_
                refine ax_bne 89 dX4_recover_81 (by decide) (fun c81 => ?_) (fun c81 => ?_)
                · refine ax_iconst (ax_b true) dX4_recover_89 (by decide) ?_
                  refine ax_goto 94 dX4_recover_90 (by decide) ?_
                  refine ax_istore dX4_recover_94 rfl (by decide) ?_
                  refine ax_iincn (n := 1) dX4_recover_96 rfl (by decide) rfl ?_
                  refine ax_goto 10 dX4_recover_99 (by decide) ?_
                  refine ax_fg [true, true, true, true, true, true, false, false, false] rfl ?_
                  first | omega | exact ih (r + 1) true true true (by omega) (by simpa [rRs, c16, c26, c35, c48, c54, c64, c70, c81] using hV) | exact ih (r + 1) true true false (by omega) (by simpa [rRs, c16, c26, c35, c48, c54, c64, c70, c81] using hV) | exact ih (r + 1) true false true (by omega) (by simpa [rRs, c16, c26, c35, c48, c54, c64, c70, c81] using hV) | exact ih (r + 1) true false false (by omega) (by simpa [rRs, c16, c26, c35, c48, c54, c64, c70, c81] using hV) | exact ih (r + 1) false true true (by omega) (by simpa [rRs, c16, c26, c35, c48, c54, c64, c70, c81] using hV) | exact ih (r + 1) false true false (by omega) (by simpa [rRs, c16, c26, c35, c48, c54, c64, c70, c81] using hV) | exact ih (r + 1) false false true (by omega) (by simpa [rRs, c16, c26, c35, c48, c54, c64, c70, c81] using hV) | exact ih (r + 1) false false false (by omega) (by simpa [rRs, c16, c26, c35, c48, c54, c64, c70, c81] using hV)
                · refine ax_iload dX4_recover_84 rfl ?_
                  refine ax_zne 93 dX4_recover_86 (by decide) (by omega) (fun c86 => ?_) (fun c86 => ?_)
                  · refine ax_iconst (ax_b false) dX4_recover_93 (by decide) ?_
                    refine ax_istore dX4_recover_94 rfl (by decide) ?_
                    refine ax_iincn (n := 1) dX4_recover_96 rfl (by decide) rfl ?_
                    refine ax_goto 10 dX4_recover_99 (by decide) ?_
                    refine ax_fg [true, true, true, true, true, true, false, false, false] rfl ?_
                    first | omega | exact ih (r + 1) true true true (by omega) (by simpa [rRs, c16, c26, c35, c48, c54, c64, c70, c81, c86] using hV) | exact ih (r + 1) true true false (by omega) (by simpa [rRs, c16, c26, c35, c48, c54, c64, c70, c81, c86] using hV) | exact ih (r + 1) true false true (by omega) (by simpa [rRs, c16, c26, c35, c48, c54, c64, c70, c81, c86] using hV) | exact ih (r + 1) true false false (by omega) (by simpa [rRs, c16, c26, c35, c48, c54, c64, c70, c81, c86] using hV) | exact ih (r + 1) false true true (by omega) (by simpa [rRs, c16, c26, c35, c48, c54, c64, c70, c81, c86] using hV) | exact ih (r + 1) false true false (by omega) (by simpa [rRs, c16, c26, c35, c48, c54, c64, c70, c81, c86] using hV) | exact ih (r + 1) false false true (by omega) (by simpa [rRs, c16, c26, c35, c48, c54, c64, c70, c81, c86] using hV) | exact ih (r + 1) false false false (by omega) (by simpa [rRs, c16, c26, c35, c48, c54, c64, c70, c81, c86] using hV)
                  · refine ax_iconst (ax_b true) dX4_recover_89 (by decide) ?_
                    refine ax_goto 94 dX4_recover_90 (by decide) ?_
                    refine ax_istore dX4_recover_94 rfl (by decide) ?_
                    refine ax_iincn (n := 1) dX4_recover_96 rfl (by decide) rfl ?_
                    refine ax_goto 10 dX4_recover_99 (by decide) ?_
                    refine ax_fg [true, true, true, true, true, true, false, false, false] rfl ?_
                    first | omega | exact ih (r + 1) true true true (by omega) (by simpa [rRs, c16, c26, c35, c48, c54, c64, c70, c81, c86] using hV) | exact ih (r + 1) true true false (by omega) (by simpa [rRs, c16, c26, c35, c48, c54, c64, c70, c81, c86] using hV) | exact ih (r + 1) true false true (by omega) (by simpa [rRs, c16, c26, c35, c48, c54, c64, c70, c81, c86] using hV) | exact ih (r + 1) true false false (by omega) (by simpa [rRs, c16, c26, c35, c48, c54, c64, c70, c81, c86] using hV) | exact ih (r + 1) false true true (by omega) (by simpa [rRs, c16, c26, c35, c48, c54, c64, c70, c81, c86] using hV) | exact ih (r + 1) false true false (by omega) (by simpa [rRs, c16, c26, c35, c48, c54, c64, c70, c81, c86] using hV) | exact ih (r + 1) false false true (by omega) (by simpa [rRs, c16, c26, c35, c48, c54, c64, c70, c81, c86] using hV) | exact ih (r + 1) false false false (by omega) (by simpa [rRs, c16, c26, c35, c48, c54, c64, c70, c81, c86] using hV)
theorem ok_recover (hw : rf_ok ρ) (hv : ∀ i, ρ.1 21 i + 1 < 1000000) {t : Nat} (ht : t < 60) : ax_Ok mX4_recover yX4_recover 5 0 0 [ax_r (80, 0), ax_i (nI t)] (fh c ρ) (ax_DV (fh c (rRv ρ t))) := by
  refine ax_Ok.of (by decide) rfl (fun q => by cases q) (Nat.le_of_ble_eq_true rfl) rfl ?_
  refine ax_iconst (ax_b false) dX4_recover_0 (by decide) ?_
  refine ax_istore_n dX4_recover_1 rfl (by decide) ?_
  refine ax_iconst (ax_b false) dX4_recover_2 (by decide) ?_
  refine ax_istore_n dX4_recover_3 rfl (by decide) ?_
  refine ax_iconst (ax_b false) dX4_recover_4 (by decide) ?_
  refine ax_istore dX4_recover_5 rfl (by decide) ?_
  refine ax_iconst (nI 0) dX4_recover_7 (by decide) ?_
  refine ax_istore dX4_recover_8 rfl (by decide) ?_
  exact lp_rec1 hw hv ht (ρ.1 4 0) 0 false false false (Nat.zero_add _) rfl
end REFM
