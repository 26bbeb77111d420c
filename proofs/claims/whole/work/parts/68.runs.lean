section RUNS
variable {κ ρ : ax_R} {c : ax_H}
theorem lp_runJ {t n : Nat} (ht : t < 60) (hn : n ≤ 100) (J : Nat → ax_R → Prop) (hJ : ∀ m ρ, J (m + 1) ρ → rGp ρ t) (hJ2 : ∀ m ρ, J (m + 1) ρ → rAc ρ t = true → ¬ (rGo ρ t).1 < 0 → J m (rGo ρ t).2) : ∀ (m k : Nat) (ρ : ax_R) (V : Nat × ax_R), k + m = n → J m ρ → ((rRn m ρ t).1 + k, (rRn m ρ t).2) = V → ax_Z mX4_run 9 0 0 (ax_D (ax_i (nI V.1)) (fh c V.2)) 38 [some (ax_r (80, 0)), some (ax_i (nI t)), some (ax_i (nI n)), some (ax_i (nI k))] [] (fh c ρ) 0 0 := by
  intro m
  induction m with
  | zero =>
    intro k ρ V hk hj hV
    subst hV
    refine ax_iload_n dX4_run_38 rfl ?_
    refine ax_iload_n dX4_run_39 rfl ?_
    refine ax_nge 65 dX4_run_40 (by decide) (by omega) (by omega) (fun c40 => ?_) (fun c40 => absurd c40 (by omega))
    refine ax_iload_n dX4_run_65 rfl ?_
    refine ax_iretD dX4_run_66 rfl ⟨(Nat.le_refl _), (Nat.le_refl _)⟩ ?_ ?_
    · show nI k = nI (0 + k); rw [Nat.zero_add]
    · rfl
  | succ m ih =>
    intro k ρ V hk hj hV
    have hg := hJ m ρ hj
    have hw := hg.1
    subst hV
    refine ax_iload_n dX4_run_38 rfl ?_
    refine ax_iload_n dX4_run_39 rfl ?_
    refine ax_nge 65 dX4_run_40 (by decide) (by omega) (by omega) (fun c40 => absurd c40 (by omega)) (fun c40 => ?_)
    refine ax_aload_n dX4_run_43 rfl ?_
    refine ax_iload_n dX4_run_44 rfl ?_
    refine ax_V1 cv_X4_133 dX4_run_45 fh_M rfl (ok_isActive hw ht) (by decide) (Nat.le_refl _) (Nat.le_refl _) (Nat.le_of_ble_eq_true rfl) ?_
    refine ax_beq 65 dX4_run_48 (by decide) (fun c48 => ?_) (fun c48 => ?_)
    · refine ax_iload_n dX4_run_65 rfl ?_
      refine ax_iretD dX4_run_66 rfl ⟨(Nat.le_refl _), (Nat.le_refl _)⟩ ?_ ?_
      · simp [rRn, c40, c48]
      · simp [rRn, c40, c48]
    · refine ax_aload_n dX4_run_51 rfl ?_
      refine ax_iload_n dX4_run_52 rfl ?_
      refine ax_V1 cv_X4_210 dX4_run_53 fh_M rfl (ok_go ht hg) (by decide) (Nat.le_refl _) (Nat.le_refl _) (Nat.le_of_ble_eq_true rfl) ?_
      refine ax_if_lt 65 dX4_run_56 (by decide) (fun c56 => ?_) (fun c56 => ?_)
      · refine ax_iload_n dX4_run_65 rfl ?_
        refine ax_iretD dX4_run_66 rfl ⟨(Nat.le_refl _), (Nat.le_refl _)⟩ ?_ ?_
        · simp [rRn, c40, c48, c56]
        · simp [rRn, c40, c48, c56]
      · refine ax_iincn (n := 1) dX4_run_59 rfl (by decide) rfl ?_
        refine ax_goto 38 dX4_run_62 (by decide) ?_
        exact ih (k + 1) (rGo ρ t).2 _ (by omega) (hJ2 m ρ hj c48 c56) (by simp [rRn, c48, c56]; omega)
theorem ok_runJ {t n : Nat} (hw : rf_ok ρ) (ht : t < 60) (h1 : 1 ≤ n) (hn : n ≤ 100) (J : Nat → ax_R → Prop) (hJ : ∀ m ρ, J (m + 1) ρ → rGp ρ t) (hJ2 : ∀ m ρ, J (m + 1) ρ → rAc ρ t = true → ¬ (rGo ρ t).1 < 0 → J m (rGo ρ t).2) (hj : J n ρ) (ha : rAc ρ t = true) (hk : (decide (0 ≤ nI t) && decide (nI t ≤ nI (ρ.1 10 0) - 1)) = true) : ax_Ok mX4_run yX4_run 9 0 0 [ax_r (80, 0), ax_i (nI t), ax_i (nI n)] (fh c ρ) (ax_D (ax_i (nI (rRn n ρ t).1)) (fh c (rRn n ρ t).2)) := by
  refine ax_Ok.of (by decide) rfl (fun q => by cases q) (Nat.le_of_ble_eq_true rfl) rfl ?_
  have hy : (decide ((1 : Int64) ≤ (nI n).toInt64) && decide ((nI n).toInt64 ≤ (100 : Int64))) = (decide (1 ≤ nI n) && decide (nI n ≤ 100)) := by rw [show (1 : Int64) = (1 : Int32).toInt64 by decide, show (100 : Int64) = (100 : Int32).toInt64 by decide]; simp only [i64_le]
  have hn1 : ¬ (decide (1 ≤ nI n) && decide (nI n ≤ 100)) = false := by have a1 : (1 : Int32) ≤ nI n := nI_le (a := 1) h1 (by omega); have a2 : nI n ≤ (100 : Int32) := nI_le (b := 100) hn (by decide); simp [a1, a2]
  refine ax_aload_n dX4_run_0 rfl ?_
  refine ax_iload_n dX4_run_1 rfl ?_
  refine ax_V1 cv_X4_143 dX4_run_2 fh_M rfl (ok_isTransaction _) (by decide) (Nat.le_refl _) (Nat.le_refl _) (Nat.le_of_ble_eq_true rfl) ?_
  refine ax_bne 10 dX4_run_5 (by decide) (fun c5 => ?_) (fun c5 => absurd c5 (by rw [hk]; simp))
  refine ax_iload_n dX4_run_10 rfl ?_
  refine ax_i2l _ dX4_run_11 rfl ?_
  refine ax_lconst 1 dX4_run_12 (by decide) ?_
  refine ax_ldc2 dX4_run_13 co_X4_213 ?_
  refine ax_S3 cs_X4_88 dX4_run_16 (ok_in _ _ _) (by decide) (Nat.le_refl _) (Nat.le_refl _) (Nat.le_of_ble_eq_true rfl) ?_
  refine ax_bne 25 dX4_run_19 (by decide) (fun c19 => ?_) (fun c19 => absurd c19 (by rw [hy]; exact hn1))
  refine ax_aload_n dX4_run_25 rfl ?_
  refine ax_iload_n dX4_run_26 rfl ?_
  refine ax_V1 cv_X4_133 dX4_run_27 fh_M rfl (ok_isActive hw ht) (by decide) (Nat.le_refl _) (Nat.le_refl _) (Nat.le_of_ble_eq_true rfl) ?_
  refine ax_bne 36 dX4_run_30 (by decide) (fun c30 => ?_) (fun c30 => absurd c30 (by simp [ha]))
  refine ax_iconst (nI 0) dX4_run_36 (by decide) ?_
  refine ax_istore_n dX4_run_37 rfl (by decide) ?_
  exact lp_runJ ht hn J hJ hJ2 n 0 ρ _ (Nat.zero_add _) hj rfl
theorem lp_crunJ {t n : Nat} (hn : n ≤ 100) (J : Nat → ax_R → Prop) (hJ : ∀ m κ, J (m + 1) κ → cGp κ t ∧ t < κ.1 10 0) (hJ2 : ∀ m κ, J (m + 1) κ → ¬ (cTa κ t).1 < 0 → J m (cTa κ t).2) : ∀ (m k : Nat) (κ : ax_R) (uc us : Nat) (V : Nat × ax_R), k + m = n → J m κ → uc ≤ k → us ≤ 73 * k → ((cRn m κ t).1 + k, (cRn m κ t).2) = V → ax_Z mX3_run 11 100 7300 (ax_D (ax_i (nI V.1)) (fh (ch V.2) ρ)) 39 [some (ax_r (1, 0)), some (ax_i (nI t)), some (ax_i (nI n)), some (ax_r (8, t)), some (ax_i (nI k))] [] (fh (ch κ) ρ) uc us := by
  intro m
  induction m with
  | zero =>
    intro k κ uc us V hk hj hu hs hV
    subst hV
    refine ax_iload dX3_run_39 rfl ?_
    refine ax_iload_n dX3_run_41 rfl ?_
    refine ax_nge 59 dX3_run_42 (by decide) (by omega) (by omega) (fun c42 => ?_) (fun c42 => absurd c42 (by omega))
    refine ax_iload dX3_run_59 rfl ?_
    refine ax_iretD dX3_run_61 rfl ⟨(by omega), (by omega)⟩ ?_ ?_
    · show nI k = nI (0 + k); rw [Nat.zero_add]
    · rfl
  | succ m ih =>
    intro k κ uc us V hk hj hu hs hV
    obtain ⟨hg, ht⟩ := hJ m κ hj
    have hw := hg.1
    subst hV
    refine ax_iload dX3_run_39 rfl ?_
    refine ax_iload_n dX3_run_41 rfl ?_
    refine ax_nge 59 dX3_run_42 (by decide) (by omega) (by omega) (fun c42 => absurd c42 (by omega)) (fun c42 => ?_)
    refine ax_aload_n dX3_run_45 rfl ?_
    refine ax_aload_n dX3_run_46 rfl ?_
    refine ax_V1 cv_X3_198 dX3_run_47 ch_O rfl (ok_tryAct hg ht) (by decide) (by omega) (by omega) (Nat.le_of_ble_eq_true rfl) ?_
    refine ax_if_lt 59 dX3_run_50 (by decide) (fun c50 => ?_) (fun c50 => ?_)
    · refine ax_iload dX3_run_59 rfl ?_
      refine ax_iretD dX3_run_61 rfl ⟨(by omega), (by omega)⟩ ?_ ?_
      · simp [cRn, c42, c50]
      · simp [cRn, c42, c50]
    · refine ax_iincn (n := 1) dX3_run_53 rfl (by decide) rfl ?_
      refine ax_goto 39 dX3_run_56 (by decide) ?_
      exact ih (k + 1) (cTa κ t).2 _ _ _ (by omega) (hJ2 m κ hj c50) (by omega) (by omega) (by simp [cRn, c50]; omega)
theorem ok_crunJ (hw : kf κ) {t n : Nat} (ht : t < κ.1 10 0) (h1 : 1 ≤ n) (hn : n ≤ 100) (J : Nat → ax_R → Prop) (hJ : ∀ m κ, J (m + 1) κ → cGp κ t ∧ t < κ.1 10 0) (hJ2 : ∀ m κ, J (m + 1) κ → ¬ (cTa κ t).1 < 0 → J m (cTa κ t).2) (hj : J n κ) (ha : rAc κ t = true) : ax_Ok mX3_run yX3_run 11 100 7300 [ax_r (1, 0), ax_i (nI t), ax_i (nI n)] (fh (ch κ) ρ) (ax_D (ax_i (nI (cRn n κ t).1)) (fh (ch (cRn n κ t).2) ρ)) := by
  refine ax_Ok.of (by decide) rfl (fun q => by cases q) (Nat.le_of_ble_eq_true rfl) rfl ?_
  refine ax_aload_n dX3_run_0 rfl ?_
  refine ax_iload_n dX3_run_1 rfl ?_
  refine ax_V1 cv_X3_160 dX3_run_2 ch_O rfl (ok_transactionAt hw ht) (by decide) (by decide) (by decide) (Nat.le_of_ble_eq_true rfl) ?_
  refine ax_astore_n dX3_run_5 rfl (by decide) ?_
  refine ax_aload_n dX3_run_6 rfl ?_
  refine ax_ifnonnull 12 dX3_run_7 (by decide) (fun c7 => ?_) (fun c7 => absurd c7 (by intro z; cases z))
  refine ax_iload_n dX3_run_12 rfl ?_
  refine ax_iconst (nI 1) dX3_run_13 (by decide) ?_
  refine ax_nlt 23 dX3_run_14 (by decide) (by omega) (by omega) (fun c14 => absurd c14 (by omega)) (fun c14 => ?_)
  refine ax_iload_n dX3_run_17 rfl ?_
  refine ax_bipush (nI 100) dX3_run_18 (by decide) ?_
  refine ax_nle 26 dX3_run_20 (by decide) (by omega) (by omega) (fun c20 => ?_) (fun c20 => absurd c20 (by omega))
  refine ax_aload_n dX3_run_26 rfl ?_
  refine ax_V0 cv_X3_201 dX3_run_27 (ch_T (by assumption)) rfl (ok_isUnderWay hw (by assumption)) (by decide) (by decide) (by decide) (Nat.le_of_ble_eq_true rfl) ?_
  refine ax_bne 36 dX3_run_30 (by decide) (fun c30 => ?_) (fun c30 => absurd c30 (by rw [ha]; simp))
  refine ax_iconst (nI 0) dX3_run_36 (by decide) ?_
  refine ax_istore dX3_run_37 rfl (by decide) ?_
  exact lp_crunJ hn J hJ hJ2 n 0 κ _ _ _ (Nat.zero_add _) hj (by decide) (by decide) rfl
end RUNS
