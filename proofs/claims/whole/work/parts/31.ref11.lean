def rCfS (ρ : ax_R) : Bool := (List.range' 0 6).all fun m => ρ.2.1 0 m || !ρ.2.1 1 m
def rC2 (ρ : ax_R) (r : Nat) : ax_R := ru ρ 31 r (oI (rL ρ r)[0]?)
def rC3 (ρ : ax_R) (m : Nat) : ax_R := bu (bu ρ 2 m (ρ.2.1 1 m)) 1 m (ρ.2.1 0 m)
def rC4 (s : Nat × ax_R) (t : Nat) : Nat × ax_R := if s.2.1 12 t = 0 ∧ s.2.2.1 1 (s.2.1 11 t) = false then (s.1, nu s.2 12 t 8) else if rAc s.2 t = true ∧ rRc s.2 t = true then (s.1 + 1, rRv s.2 t) else s
def rCf0 (ρ : ax_R) : ax_R := (List.range' 0 6).foldl rC3 ((List.range' 0 (ρ.1 4 0)).foldl rC2 ρ)
def rCf1 (ρ : ax_R) : ax_R := nu (rCf0 ρ) 3 0 (ρ.1 3 0 + 1)
def rCf (ρ : ax_R) : Int32 × ax_R := if rCfS ρ = true ∨ rUp ρ = 0 then (-3, ρ) else (nI ((List.range' 0 (ρ.1 10 0)).foldl rC4 (0, rCf1 ρ)).1, ((List.range' 0 (ρ.1 10 0)).foldl rC4 (0, rCf1 ρ)).2)
theorem ls_al {p : Nat → Bool} {k m : Nat} {b V : Bool} (hV : (b && (List.range' k (m + 1)).all p) = V) : ((b && p k) && (List.range' (k + 1) m).all p) = V := by
  rw [← hV, List.range'_succ, List.all_cons, Bool.and_assoc]
theorem ls_al2 {p : Nat → Bool} {k : Nat} {b V : Bool} (hV : (b && (List.range' k 0).all p) = V) : b = V := by
  rw [← hV]; simp
theorem rC2_1 (ρ : ax_R) (r : Nat) : (rC2 ρ r).1 = ρ.1 := rfl
theorem rC3_1 (ρ : ax_R) (r : Nat) : (rC3 ρ r).1 = ρ.1 := rfl
theorem rC2_ok {ρ : ax_R} {r : Nat} (hw : rf_ok ρ) : rf_ok (rC2 ρ r) := rf_ru hw (Or.inl (by decide))
theorem rC3_ok {ρ : ax_R} {r : Nat} (hw : rf_ok ρ) : rf_ok (rC3 ρ r) := rf_bu (rf_bu hw)
theorem fl_1 {f : ax_R → Nat → ax_R} (hf : ∀ ρ x, (f ρ x).1 = ρ.1) : ∀ (l : List Nat) (ρ : ax_R), (l.foldl f ρ).1 = ρ.1
  | [], _ => rfl
  | x :: l, ρ => (fl_1 hf l (f ρ x)).trans (hf ρ x)
theorem rRvA_eq (ρ : ax_R) (t : Nat) (cm : Bool) : rEq ρ (rRvA ρ t cm) := rEq_fl (fun ρ i => rR2_eq t cm ρ i) _ _
theorem rRvB_eq (ρ : ax_R) (t : Nat) (cm : Bool) : rEq ρ (rRvB ρ t cm) := (rRvA_eq ρ t cm).tr (rEq_fl (fun ρ k => rR3_eq t ρ k) _ _)
theorem rRvB_ok {ρ : ax_R} {t : Nat} {cm : Bool} (hw : rf_ok ρ) (hv : ∀ i, ρ.1 21 i + 1 < 1000000) : rf_ok (rRvB ρ t cm) := fl_ok (fun _ _ h => rR3_ok h) _ _ (rR2f_ok _ _ hw hv)
theorem rRv_1 {ρ : ax_R} {t k j : Nat} (h8 : k ≠ 8) (h12 : k ≠ 12) : (rRv ρ t).1 k j = ρ.1 k j := by
  show (nu (bu (rRvB ρ t (rCo (rCt ρ t))) 15 t _) 12 t _).1 k j = _
  rw [nu_n h12]
  exact (rRvB_eq ρ t _).1 k j h8
theorem rRv_ok {ρ : ax_R} {t : Nat} (hw : rf_ok ρ) (hv : ∀ i, ρ.1 21 i + 1 < 1000000) : rf_ok (rRv ρ t) := rf_nu (rf_bu (rRvB_ok hw hv)) (by split <;> decide) (by exact trivial)
theorem rUp_le (ρ : ax_R) : rUp ρ ≤ 6 := List.countP_le_length
section REFM
variable {c : ax_H} {ρ : ax_R}
theorem lp_cfg4 {T : Nat} {V : Int32 × ax_R} : ∀ (q t n : Nat) (ρ : ax_R), t + q = T → ρ.1 10 0 = T → rf_ok ρ → (∀ i, ρ.1 21 i + 1 < 1000000) → (nI ((List.range' t q).foldl rC4 (n, ρ)).1, ((List.range' t q).foldl rC4 (n, ρ)).2) = V → ax_Z mX4_configure 6 0 0 (ax_D (ax_i V.1) (fh c V.2)) 137 [some (ax_r (80, 0)), none, some (ax_i (nI n)), some (ax_i (nI t))] [] (fh c ρ) 0 0 := by
  intro q
  induction q with
  | zero =>
    intro t n ρ hk hT hw hv hV
    have h10 := rk_10 hw
    subst hV
    refine ax_iload_n dX4_configure_137 rfl ?_
    refine ax_aload_n dX4_configure_138 rfl ?_
    refine rg_10 dX4_configure_139 ?_
    refine ax_nge 209 dX4_configure_142 (by decide) (by omega) (by omega) (fun c142 => ?_) (fun c142 => absurd c142 (by omega))
    refine ax_iload_n dX4_configure_209 rfl ?_
    refine ax_iretD dX4_configure_210 rfl ⟨(Nat.le_refl _), (Nat.le_refl _)⟩ ?_ ?_
    · rfl
    · rfl
  | succ q ih =>
    intro t n ρ hk hT hw hv hV
    have h10 := rk_10 hw
    have ht : t < 60 := by omega
    have h12 := rk_N hw 12 t
    rw [List.range'_succ, List.foldl_cons] at hV
    refine ax_iload_n dX4_configure_137 rfl ?_
    refine ax_aload_n dX4_configure_138 rfl ?_
    refine rg_10 dX4_configure_139 ?_
    refine ax_nge 209 dX4_configure_142 (by decide) (by first | omega | exact rk_11 hw _) (by first | omega | exact rk_11 hw _) (fun c142 => absurd c142 (by omega)) (fun c142 => ?_)
    refine ax_aload_n dX4_configure_145 rfl ?_
    refine rg_12 dX4_configure_146 ?_
    refine ax_iload_n dX4_configure_149 rfl ?_
    refine rl_12 dX4_configure_150 (by first | omega | exact rk_11 hw _) ?_
    refine ax_zne 179 dX4_configure_151 (by decide) (by first | omega | exact rk_11 hw _) (fun c151 => ?_) (fun c151 => ?_)
    · refine ax_aload_n dX4_configure_179 rfl ?_
      refine ax_iload_n dX4_configure_180 rfl ?_
      refine ax_V1 cv_X4_133 dX4_configure_181 fh_M rfl (ok_isActive hw ht) (by decide) (Nat.le_refl _) (Nat.le_refl _) (Nat.le_of_ble_eq_true rfl) ?_
      refine ax_beq 203 dX4_configure_184 (by decide) (fun c184 => ?_) (fun c184 => ?_)
      · refine ax_iincn (n := 1) dX4_configure_203 rfl (by decide) rfl ?_
        refine ax_goto 137 dX4_configure_206 (by decide) ?_
        exact ih (t + 1) n ρ (by omega) hT hw hv (by simpa [rC4, c142, c151, c184] using hV)
      · refine ax_aload_n dX4_configure_187 rfl ?_
        refine ax_iload_n dX4_configure_188 rfl ?_
        refine ax_V1 cv_X4_224 dX4_configure_189 fh_M rfl (ok_isRecovered hw ht) (by decide) (Nat.le_refl _) (Nat.le_refl _) (Nat.le_of_ble_eq_true rfl) ?_
        refine ax_beq 203 dX4_configure_192 (by decide) (fun c192 => ?_) (fun c192 => ?_)
        · refine ax_iincn (n := 1) dX4_configure_203 rfl (by decide) rfl ?_
          refine ax_goto 137 dX4_configure_206 (by decide) ?_
          first | exact ih (t + 1) (n + 1) _ (by omega) ((rRv_1 (by decide) (by decide)).trans hT) (rRv_ok hw hv) (fun i => by rw [rRv_1 (by decide) (by decide)]; exact hv i) (by simpa [rC4, c142, c151, c184, c192] using hV) | exact ih (t + 1) n ρ (by omega) hT hw hv (by simpa [rC4, c142, c151, c184, c192] using hV)
        · refine ax_aload_n dX4_configure_195 rfl ?_
          refine ax_iload_n dX4_configure_196 rfl ?_
          refine ax_V1v cv_X4_227 dX4_configure_197 fh_M rfl (ok_recover hw hv ht) (by decide) (Nat.le_refl _) (Nat.le_refl _) (Nat.le_of_ble_eq_true rfl) ?_
          refine ax_iincn (n := 1) dX4_configure_200 rfl (by decide) rfl ?_
          refine ax_iincn (n := 1) dX4_configure_203 rfl (by decide) rfl ?_
          refine ax_goto 137 dX4_configure_206 (by decide) ?_
          first | exact ih (t + 1) (n + 1) _ (by omega) ((rRv_1 (by decide) (by decide)).trans hT) (rRv_ok hw hv) (fun i => by rw [rRv_1 (by decide) (by decide)]; exact hv i) (by simpa [rC4, c142, c151, c184, c192] using hV) | exact ih (t + 1) n ρ (by omega) hT hw hv (by simpa [rC4, c142, c151, c184, c192] using hV)
    · refine ax_aload_n dX4_configure_154 rfl ?_
      refine rg_1 dX4_configure_155 ?_
      refine ax_aload_n dX4_configure_158 rfl ?_
      refine rg_11 dX4_configure_159 ?_
      refine ax_iload_n dX4_configure_162 rfl ?_
      refine rl_11 dX4_configure_163 (by first | omega | exact rk_11 hw _) ?_
      refine rl_1 dX4_configure_164 (by first | omega | exact rk_11 hw _) ?_
      refine ax_bne 179 dX4_configure_165 (by decide) (fun c165 => ?_) (fun c165 => ?_)
      · refine ax_aload_n dX4_configure_179 rfl ?_
        refine ax_iload_n dX4_configure_180 rfl ?_
        refine ax_V1 cv_X4_133 dX4_configure_181 fh_M rfl (ok_isActive hw ht) (by decide) (Nat.le_refl _) (Nat.le_refl _) (Nat.le_of_ble_eq_true rfl) ?_
        refine ax_beq 203 dX4_configure_184 (by decide) (fun c184 => ?_) (fun c184 => ?_)
        · refine ax_iincn (n := 1) dX4_configure_203 rfl (by decide) rfl ?_
          refine ax_goto 137 dX4_configure_206 (by decide) ?_
          exact ih (t + 1) n ρ (by omega) hT hw hv (by simpa [rC4, c142, c151, c165, c184] using hV)
        · refine ax_aload_n dX4_configure_187 rfl ?_
          refine ax_iload_n dX4_configure_188 rfl ?_
          refine ax_V1 cv_X4_224 dX4_configure_189 fh_M rfl (ok_isRecovered hw ht) (by decide) (Nat.le_refl _) (Nat.le_refl _) (Nat.le_of_ble_eq_true rfl) ?_
          refine ax_beq 203 dX4_configure_192 (by decide) (fun c192 => ?_) (fun c192 => ?_)
          · refine ax_iincn (n := 1) dX4_configure_203 rfl (by decide) rfl ?_
            refine ax_goto 137 dX4_configure_206 (by decide) ?_
            first | exact ih (t + 1) (n + 1) _ (by omega) ((rRv_1 (by decide) (by decide)).trans hT) (rRv_ok hw hv) (fun i => by rw [rRv_1 (by decide) (by decide)]; exact hv i) (by simpa [rC4, c142, c151, c165, c184, c192] using hV) | exact ih (t + 1) n ρ (by omega) hT hw hv (by simpa [rC4, c142, c151, c165, c184, c192] using hV)
          · refine ax_aload_n dX4_configure_195 rfl ?_
            refine ax_iload_n dX4_configure_196 rfl ?_
            refine ax_V1v cv_X4_227 dX4_configure_197 fh_M rfl (ok_recover hw hv ht) (by decide) (Nat.le_refl _) (Nat.le_refl _) (Nat.le_of_ble_eq_true rfl) ?_
            refine ax_iincn (n := 1) dX4_configure_200 rfl (by decide) rfl ?_
            refine ax_iincn (n := 1) dX4_configure_203 rfl (by decide) rfl ?_
            refine ax_goto 137 dX4_configure_206 (by decide) ?_
            first | exact ih (t + 1) (n + 1) _ (by omega) ((rRv_1 (by decide) (by decide)).trans hT) (rRv_ok hw hv) (fun i => by rw [rRv_1 (by decide) (by decide)]; exact hv i) (by simpa [rC4, c142, c151, c165, c184, c192] using hV) | exact ih (t + 1) n ρ (by omega) hT hw hv (by simpa [rC4, c142, c151, c165, c184, c192] using hV)
      · refine ax_aload_n dX4_configure_168 rfl ?_
        refine rg_12 dX4_configure_169 ?_
        refine ax_iload_n dX4_configure_172 rfl ?_
        refine ax_bipush (nI 8) dX4_configure_173 (by decide) ?_
        refine rs_12 dX4_configure_175 (by first | omega | exact rk_11 hw _) ?_
        refine ax_goto 203 dX4_configure_176 (by decide) ?_
        refine ax_iincn (n := 1) dX4_configure_203 rfl (by decide) rfl ?_
        refine ax_goto 137 dX4_configure_206 (by decide) ?_
        exact ih (t + 1) n _ (by omega) (by rw [nu_n (by decide)]; exact hT) (rf_nu hw (by decide) (by exact trivial)) (fun i => by rw [nu_n (by decide)]; exact hv i) (by simpa [rC4, c142, c151, c165] using hV)
theorem lp_cfg3 {T C : Nat} {V : Int32 × ax_R} (hC : C + 1 < 1000000) : ∀ (q m : Nat) (ρ : ax_R), m + q = 6 → ρ.1 10 0 = T → ρ.1 3 0 = C → rf_ok ρ → (∀ i, ρ.1 21 i + 1 < 1000000) → (nI ((List.range' 0 T).foldl rC4 (0, nu ((List.range' m q).foldl rC3 ρ) 3 0 (C + 1))).1, ((List.range' 0 T).foldl rC4 (0, nu ((List.range' m q).foldl rC3 ρ) 3 0 (C + 1))).2) = V → ax_Z mX4_configure 6 0 0 (ax_D (ax_i V.1) (fh c V.2)) 87 [some (ax_r (80, 0)), none, some (ax_i (nI m)), none] [] (fh c ρ) 0 0 := by
  intro q
  induction q with
  | zero =>
    intro m ρ hk hT h3 hw hv hV
    refine ax_iload_n dX4_configure_87 rfl ?_
    refine ax_bipush (nI 6) dX4_configure_88 (by decide) ?_
    refine ax_nge 123 dX4_configure_90 (by decide) (by omega) (by omega) (fun c90 => ?_) (fun c90 => absurd c90 (by omega))
    refine ax_aload_n dX4_configure_123 rfl ?_
    refine ax_dup dX4_configure_124 rfl ?_
    refine rg_3 dX4_configure_125 ?_
    refine ax_iconst (nI 1) dX4_configure_128 (by decide) ?_
    refine ax_iaddn dX4_configure_129 ?_
    refine rp_3 dX4_configure_130 ?_
    rw [h3]
    refine ax_iconst (nI 0) dX4_configure_133 (by decide) ?_
    refine ax_istore_n dX4_configure_134 rfl (by decide) ?_
    refine ax_iconst (nI 0) dX4_configure_135 (by decide) ?_
    refine ax_istore_n dX4_configure_136 rfl (by decide) ?_
    exact lp_cfg4 T 0 0 _ (Nat.zero_add _) (by rw [nu_n (by decide)]; exact hT) (rf_nu hw hC (by exact trivial)) (fun i => by rw [nu_n (by decide)]; exact hv i) hV
  | succ q ih =>
    intro m ρ hk hT h3 hw hv hV
    rw [List.range'_succ, List.foldl_cons] at hV
    refine ax_iload_n dX4_configure_87 rfl ?_
    refine ax_bipush (nI 6) dX4_configure_88 (by decide) ?_
    refine ax_nge 123 dX4_configure_90 (by decide) (by omega) (by omega) (fun c90 => absurd c90 (by omega)) (fun c90 => ?_)
    refine ax_aload_n dX4_configure_93 rfl ?_
    refine rg_2 dX4_configure_94 ?_
    refine ax_iload_n dX4_configure_97 rfl ?_
    refine ax_aload_n dX4_configure_98 rfl ?_
    refine rg_1 dX4_configure_99 ?_
    refine ax_iload_n dX4_configure_102 rfl ?_
    refine rl_1 dX4_configure_103 (by omega) ?_
    refine rs_2 dX4_configure_104 (by omega) ?_
    refine ax_aload_n dX4_configure_105 rfl ?_
    refine rg_1 dX4_configure_106 ?_
    refine ax_iload_n dX4_configure_109 rfl ?_
    refine ax_aload_n dX4_configure_110 rfl ?_
    refine rg_0 dX4_configure_111 ?_
    refine ax_iload_n dX4_configure_114 rfl ?_
    refine rl_0 dX4_configure_115 (by omega) ?_
    refine rs_1 dX4_configure_116 (by omega) ?_
    refine ax_iincn (n := 1) dX4_configure_117 rfl (by decide) rfl ?_
    refine ax_goto 87 dX4_configure_120 (by decide) ?_
    refine ax_hq (h2 := fh c (rC3 ρ m)) (congrArg (fh c) (by simp [rC3, bu])) ?_
    exact ih (m + 1) (rC3 ρ m) (by omega) hT h3 (rC3_ok hw) hv hV
theorem lp_cfg2 {T C R : Nat} {V : Int32 × ax_R} (hC : C + 1 < 1000000) : ∀ (q r : Nat) (ρ : ax_R), r + q = R → ρ.1 4 0 = R → ρ.1 10 0 = T → ρ.1 3 0 = C → rf_ok ρ → (∀ i, ρ.1 21 i + 1 < 1000000) → (nI ((List.range' 0 T).foldl rC4 (0, nu ((List.range' 0 6).foldl rC3 ((List.range' r q).foldl rC2 ρ)) 3 0 (C + 1))).1, ((List.range' 0 T).foldl rC4 (0, nu ((List.range' 0 6).foldl rC3 ((List.range' r q).foldl rC2 ρ)) 3 0 (C + 1))).2) = V → ax_Z mX4_configure 6 0 0 (ax_D (ax_i V.1) (fh c V.2)) 60 [some (ax_r (80, 0)), none, some (ax_i (nI r)), none] [] (fh c ρ) 0 0 := by
  intro q
  induction q with
  | zero =>
    intro r ρ hk hR hT h3 hw hv hV
    have h4 := rk_4 hw
    refine ax_iload_n dX4_configure_60 rfl ?_
    refine ax_aload_n dX4_configure_61 rfl ?_
    refine rg_4 dX4_configure_62 ?_
    refine ax_nge 85 dX4_configure_65 (by decide) (by omega) (by omega) (fun c65 => ?_) (fun c65 => absurd c65 (by omega))
    refine ax_iconst (nI 0) dX4_configure_85 (by decide) ?_
    refine ax_istore_n dX4_configure_86 rfl (by decide) ?_
    exact lp_cfg3 hC 6 0 ρ rfl hT h3 hw hv hV
  | succ q ih =>
    intro r ρ hk hR hT h3 hw hv hV
    have h4 := rk_4 hw
    rw [List.range'_succ, List.foldl_cons] at hV
    refine ax_iload_n dX4_configure_60 rfl ?_
    refine ax_aload_n dX4_configure_61 rfl ?_
    refine rg_4 dX4_configure_62 ?_
    refine ax_nge 85 dX4_configure_65 (by decide) (by omega) (by omega) (fun c65 => absurd c65 (by omega)) (fun c65 => ?_)
    refine ax_aload_n dX4_configure_68 rfl ?_
    refine rg_31 dX4_configure_69 ?_
    refine ax_iload_n dX4_configure_72 rfl ?_
    refine ax_aload_n dX4_configure_73 rfl ?_
    refine ax_iload_n dX4_configure_74 rfl ?_
    refine ax_V1 cv_X4_124 dX4_configure_75 fh_M rfl (ok_primary hw (by omega)) (by decide) (Nat.le_refl _) (Nat.le_refl _) (Nat.le_of_ble_eq_true rfl) ?_
    refine rs_31 dX4_configure_78 (by omega) ?_
    refine ax_iincn (n := 1) dX4_configure_79 rfl (by decide) rfl ?_
    refine ax_goto 60 dX4_configure_82 (by decide) ?_
    exact ih (r + 1) (rC2 ρ r) (by omega) hR hT h3 (rC2_ok hw) hv hV
theorem lp_cfg1 (hw : rf_ok ρ) (hv : ∀ i, ρ.1 21 i + 1 < 1000000) (hC : ρ.1 3 0 + 1 < 1000000) : ∀ (q m : Nat) (b : Bool), m + q = 6 → (b && (List.range' m q).all (fun m => ρ.2.1 0 m || !ρ.2.1 1 m)) = rCfS ρ → ax_Z mX4_configure 6 0 0 (ax_D (ax_i (rCf ρ).1) (fh c (rCf ρ).2)) 4 [some (ax_r (80, 0)), some (ax_i (ax_b b)), some (ax_i (nI m)), none] [] (fh c ρ) 0 0 := by
  intro q
  induction q with
  | zero =>
    intro m b hk hV
    have hV := ls_al2 hV
    subst hV
    have hup := rUp_le ρ
    refine ax_iload_n dX4_configure_4 rfl ?_
    refine ax_bipush (nI 6) dX4_configure_5 (by decide) ?_
    refine ax_nge 44 dX4_configure_7 (by decide) (by omega) (by omega) (fun c7 => ?_) (fun c7 => absurd c7 (by omega))
    refine ax_iload_n dX4_configure_44 rfl ?_
    refine ax_bne 55 dX4_configure_45 (by decide) (fun c45 => ?_) (fun c45 => ?_)
    · refine ax_bipush (-3) dX4_configure_55 (by decide) ?_
      refine ax_iretD dX4_configure_57 rfl ⟨(Nat.le_refl _), (Nat.le_refl _)⟩ ?_ ?_
      · simp [rCf, c7, c45]
      · simp [rCf, c7, c45]
    · refine ax_aload_n dX4_configure_48 rfl ?_
      refine ax_V0 cv_X4_112 dX4_configure_49 fh_M rfl (ok_up hw) (by decide) (Nat.le_refl _) (Nat.le_refl _) (Nat.le_of_ble_eq_true rfl) ?_
      refine ax_zne 58 dX4_configure_52 (by decide) (by omega) (fun c52 => ?_) (fun c52 => ?_)
      · refine ax_iconst (nI 0) dX4_configure_58 (by decide) ?_
        refine ax_istore_n dX4_configure_59 rfl (by decide) ?_
        refine ax_fg [true, false, true, false] rfl ?_
        have e : rCf ρ = (nI ((List.range' 0 (ρ.1 10 0)).foldl rC4 (0, rCf1 ρ)).1, ((List.range' 0 (ρ.1 10 0)).foldl rC4 (0, rCf1 ρ)).2) := by rw [rCf, if_neg (by simp [c7, c45, c52])]
        exact lp_cfg2 hC (ρ.1 4 0) 0 ρ (Nat.zero_add _) rfl rfl rfl hw hv e.symm
      · refine ax_bipush (-3) dX4_configure_55 (by decide) ?_
        refine ax_iretD dX4_configure_57 rfl ⟨(Nat.le_refl _), (Nat.le_refl _)⟩ ?_ ?_
        · simp [rCf, c7, c45, c52]
        · simp [rCf, c7, c45, c52]
  | succ q ih =>
    intro m b hk hV
    refine ax_iload_n dX4_configure_4 rfl ?_
    refine ax_bipush (nI 6) dX4_configure_5 (by decide) ?_
    refine ax_nge 44 dX4_configure_7 (by decide) (by omega) (by omega) (fun c7 => absurd c7 (by omega)) (fun c7 => ?_)
    refine ax_iload_n dX4_configure_10 rfl ?_
    refine ax_beq 36 dX4_configure_11 (by decide) (fun c11 => ?_) (fun c11 => ?_)
    · refine ax_iconst (ax_b false) dX4_configure_36 (by decide) ?_
      refine ax_istore_n dX4_configure_37 rfl (by decide) ?_
      refine ax_iincn (n := 1) dX4_configure_38 rfl (by decide) rfl ?_
      refine ax_goto 4 dX4_configure_41 (by decide) ?_
      first | exact ih (m + 1) true (by omega) (by simpa [c7, c11] using ls_al hV) | exact ih (m + 1) false (by omega) (by simpa [c7, c11] using ls_al hV)
    · refine ax_aload_n dX4_configure_14 rfl ?_
      refine rg_0 dX4_configure_15 ?_
      refine ax_iload_n dX4_configure_18 rfl ?_
      refine rl_0 dX4_configure_19 (by omega) ?_
      refine ax_bne 32 dX4_configure_20 (by decide) (fun c20 => ?_) (fun c20 => ?_)
      · refine ax_iconst (ax_b true) dX4_configure_32 (by decide) ?_
        refine ax_goto 37 dX4_configure_33 (by decide) ?_
        refine ax_istore_n dX4_configure_37 rfl (by decide) ?_
        refine ax_iincn (n := 1) dX4_configure_38 rfl (by decide) rfl ?_
        refine ax_goto 4 dX4_configure_41 (by decide) ?_
        first | exact ih (m + 1) true (by omega) (by simpa [c7, c11, c20] using ls_al hV) | exact ih (m + 1) false (by omega) (by simpa [c7, c11, c20] using ls_al hV)
      · refine ax_aload_n dX4_configure_23 rfl ?_
        refine rg_1 dX4_configure_24 ?_
        refine ax_iload_n dX4_configure_27 rfl ?_
        refine rl_1 dX4_configure_28 (by omega) ?_
        refine ax_bne 36 dX4_configure_29 (by decide) (fun c29 => ?_) (fun c29 => ?_)
        · refine ax_iconst (ax_b false) dX4_configure_36 (by decide) ?_
          refine ax_istore_n dX4_configure_37 rfl (by decide) ?_
          refine ax_iincn (n := 1) dX4_configure_38 rfl (by decide) rfl ?_
          refine ax_goto 4 dX4_configure_41 (by decide) ?_
          first | exact ih (m + 1) true (by omega) (by simpa [c7, c11, c20, c29] using ls_al hV) | exact ih (m + 1) false (by omega) (by simpa [c7, c11, c20, c29] using ls_al hV)
        · refine ax_iconst (ax_b true) dX4_configure_32 (by decide) ?_
          refine ax_goto 37 dX4_configure_33 (by decide) ?_
          refine ax_istore_n dX4_configure_37 rfl (by decide) ?_
          refine ax_iincn (n := 1) dX4_configure_38 rfl (by decide) rfl ?_
          refine ax_goto 4 dX4_configure_41 (by decide) ?_
          first | exact ih (m + 1) true (by omega) (by simpa [c7, c11, c20, c29] using ls_al hV) | exact ih (m + 1) false (by omega) (by simpa [c7, c11, c20, c29] using ls_al hV)
theorem ok_configure (hw : rf_ok ρ) (hv : ∀ i, ρ.1 21 i + 1 < 1000000) (hC : ρ.1 3 0 + 1 < 1000000) : ax_Ok mX4_configure yX4_configure 6 0 0 [ax_r (80, 0)] (fh c ρ) (ax_D (ax_i (rCf ρ).1) (fh c (rCf ρ).2)) := by
  refine ax_Ok.of (by decide) rfl (fun q => by cases q) (Nat.le_of_ble_eq_true rfl) rfl ?_
  refine ax_iconst (ax_b true) dX4_configure_0 (by decide) ?_
  refine ax_istore_n dX4_configure_1 rfl (by decide) ?_
  refine ax_iconst (nI 0) dX4_configure_2 (by decide) ?_
  refine ax_istore_n dX4_configure_3 rfl (by decide) ?_
  exact lp_cfg1 hw hv hC 6 0 true rfl (Bool.true_and _)
end REFM
