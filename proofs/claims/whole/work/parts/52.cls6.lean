section CLS6
variable {κ ρ : ax_R}
theorem lp_tin (hw : kf κ) {p : Nat} (hp : p < 10) : ∀ (m : Nat) (t n V : Nat), t + m = κ.1 10 0 → n + (List.range' t m).countP (fun t => decide (κ.1 12 t = p)) = V → ax_Z mX3_transactionsIn 4 0 0 (ax_D (ax_i (nI V)) (fh (ch κ) ρ)) 4 [some (ax_r (1, 0)), some (ax_i (nI p)), some (ax_i (nI n)), some (ax_i (nI t))] [] (fh (ch κ) ρ) 0 0 := by
  intro m
  induction m with
  | zero =>
    intro t n V hk hV
    have h6 := hw.nT
    refine ax_iload_n dX3_transactionsIn_4 rfl ?_
    refine ax_aload_n dX3_transactionsIn_5 rfl ?_
    refine ax_get (ci := 4) (k := 1) (T := TX3) dX3_transactionsIn_6 ch_O rfl (by decide) fl_X3_16 rfl ?_
    refine ax_V0 cv_X3_46 dX3_transactionsIn_9 ch_lT rfl (ok_szT) (by decide) (Nat.le_refl _) (Nat.le_refl _) (Nat.le_of_ble_eq_true rfl) ?_
    refine ax_nge 42 dX3_transactionsIn_12 (by decide) (by omega) (by omega) (fun c12 => ?_) (fun c12 => absurd c12 (by omega))
    refine ax_iload_n dX3_transactionsIn_42 rfl ?_
    refine ax_iretD dX3_transactionsIn_43 rfl ⟨(Nat.le_refl _), (Nat.le_refl _)⟩ ?_ ?_
    · rw [ls_c2 hV]
    · rfl
  | succ m ih =>
    intro t n V hk hV
    have h6 := hw.nT
    have ht : t < κ.1 10 0 := by omega
    have h12 := hw.p8 t
    refine ax_iload_n dX3_transactionsIn_4 rfl ?_
    refine ax_aload_n dX3_transactionsIn_5 rfl ?_
    refine ax_get (ci := 4) (k := 1) (T := TX3) dX3_transactionsIn_6 ch_O rfl (by decide) fl_X3_16 rfl ?_
    refine ax_V0 cv_X3_46 dX3_transactionsIn_9 ch_lT rfl (ok_szT) (by decide) (Nat.le_refl _) (Nat.le_refl _) (Nat.le_of_ble_eq_true rfl) ?_
    refine ax_nge 42 dX3_transactionsIn_12 (by decide) (by omega) (by omega) (fun c12 => absurd c12 (by omega)) (fun c12 => ?_)
    refine ax_aload_n dX3_transactionsIn_15 rfl ?_
    refine ax_get (ci := 4) (k := 1) (T := TX3) dX3_transactionsIn_16 ch_O rfl (by decide) fl_X3_16 rfl ?_
    refine ax_iload_n dX3_transactionsIn_19 rfl ?_
    refine ax_V1 cv_X3_77 dX3_transactionsIn_20 ch_lT rfl (ok_geT hw (by first | assumption | omega)) (by decide) (Nat.le_refl _) (Nat.le_refl _) (Nat.le_of_ble_eq_true rfl) ?_
    refine ax_cast (ci := 3) dX3_transactionsIn_23 cl_X3_81 (ch_T (by assumption)) rfl ?_
    refine ax_get (ci := 3) (k := 3) (T := TX2) dX3_transactionsIn_26 (ch_T (by assumption)) rfl (by decide) fl_X3_83 rfl ?_
    refine ax_iload_n dX3_transactionsIn_29 rfl ?_
    refine ax_nne 36 dX3_transactionsIn_30 (by decide) (by omega) (by omega) (fun c30 => ?_) (fun c30 => ?_)
    · refine ax_iincn (n := 1) dX3_transactionsIn_36 rfl (by decide) rfl ?_
      refine ax_goto 4 dX3_transactionsIn_39 (by decide) ?_
      first | exact ih (t + 1) (n + 0) V (by omega) (ls_c0 (by simp [c30]) hV) | exact ih (t + 1) (n + 1) V (by omega) (ls_c1 (by simp [c30]) hV)
    · refine ax_iincn (n := 1) dX3_transactionsIn_33 rfl (by decide) rfl ?_
      refine ax_iincn (n := 1) dX3_transactionsIn_36 rfl (by decide) rfl ?_
      refine ax_goto 4 dX3_transactionsIn_39 (by decide) ?_
      first | exact ih (t + 1) (n + 0) V (by omega) (ls_c0 (by simp [c30]) hV) | exact ih (t + 1) (n + 1) V (by omega) (ls_c1 (by simp [c30]) hV)
theorem ok_transactionsIn (hw : kf κ) {p : Nat} (hp : p < 10) : ax_Ok mX3_transactionsIn yX3_transactionsIn 4 0 0 [ax_r (1, 0), ax_i (nI p)] (fh (ch κ) ρ) (ax_D (ax_i (nI (rIp κ p))) (fh (ch κ) ρ)) := by
  refine ax_Ok.of (by decide) rfl (fun q => by cases q) (Nat.le_of_ble_eq_true rfl) rfl ?_
  refine ax_iconst (nI 0) dX3_transactionsIn_0 (by decide) ?_
  refine ax_istore_n dX3_transactionsIn_1 rfl (by decide) ?_
  refine ax_iconst (nI 0) dX3_transactionsIn_2 (by decide) ?_
  refine ax_istore_n dX3_transactionsIn_3 rfl (by decide) ?_
  exact lp_tin hw hp (κ.1 10 0) 0 0 _ (Nat.zero_add _) (Nat.zero_add _)
theorem lp_lost (hw : kf κ)  : ∀ (m : Nat) (r n V : Nat), r + m = κ.1 4 0 → n + (List.range' r m).countP (fun r => decide (rM κ r = 0)) = V → ax_Z mX3_lostRegions 4 0 0 (ax_D (ax_i (nI V)) (fh (ch κ) ρ)) 4 [some (ax_r (1, 0)), some (ax_i (nI n)), some (ax_i (nI r))] [] (fh (ch κ) ρ) 0 0 := by
  intro m
  induction m with
  | zero =>
    intro r n V hk hV
    have h6 := hw.nR
    refine ax_iload_n dX3_lostRegions_4 rfl ?_
    refine ax_aload_n dX3_lostRegions_5 rfl ?_
    refine ax_get (ci := 4) (k := 0) (T := TX3) dX3_lostRegions_6 ch_O rfl (by decide) fl_X3_10 rfl ?_
    refine ax_V0 cv_X3_46 dX3_lostRegions_9 ch_lR rfl (ok_szR) (by decide) (Nat.le_refl _) (Nat.le_refl _) (Nat.le_of_ble_eq_true rfl) ?_
    refine ax_nge 42 dX3_lostRegions_12 (by decide) (by omega) (by omega) (fun c12 => ?_) (fun c12 => absurd c12 (by omega))
    refine ax_iload_n dX3_lostRegions_42 rfl ?_
    refine ax_iretD dX3_lostRegions_43 rfl ⟨(Nat.le_refl _), (Nat.le_refl _)⟩ ?_ ?_
    · rw [ls_c2 hV]
    · rfl
  | succ m ih =>
    intro r n V hk hV
    have h6 := hw.nR
    have hr : r < κ.1 4 0 := by omega
    refine ax_iload_n dX3_lostRegions_4 rfl ?_
    refine ax_aload_n dX3_lostRegions_5 rfl ?_
    refine ax_get (ci := 4) (k := 0) (T := TX3) dX3_lostRegions_6 ch_O rfl (by decide) fl_X3_10 rfl ?_
    refine ax_V0 cv_X3_46 dX3_lostRegions_9 ch_lR rfl (ok_szR) (by decide) (Nat.le_refl _) (Nat.le_refl _) (Nat.le_of_ble_eq_true rfl) ?_
    refine ax_nge 42 dX3_lostRegions_12 (by decide) (by omega) (by omega) (fun c12 => absurd c12 (by omega)) (fun c12 => ?_)
    refine ax_aload_n dX3_lostRegions_15 rfl ?_
    refine ax_aload_n dX3_lostRegions_16 rfl ?_
    refine ax_get (ci := 4) (k := 0) (T := TX3) dX3_lostRegions_17 ch_O rfl (by decide) fl_X3_10 rfl ?_
    refine ax_iload_n dX3_lostRegions_20 rfl ?_
    refine ax_V1 cv_X3_77 dX3_lostRegions_21 ch_lR rfl (ok_geR hw (by first | assumption | omega)) (by decide) (Nat.le_refl _) (Nat.le_refl _) (Nat.le_of_ble_eq_true rfl) ?_
    refine ax_cast (ci := 2) dX3_lostRegions_24 cl_X3_50 (ch_R (by first | assumption | exact ik.r hw (by assumption))) rfl ?_
    refine ax_V1 cv_X3_284 dX3_lostRegions_27 ch_O rfl (ok_cIsLost hw (by first | assumption | exact ik.r hw (by assumption))) (by decide) (Nat.le_refl _) (Nat.le_refl _) (Nat.le_of_ble_eq_true rfl) ?_
    refine ax_beq 36 dX3_lostRegions_30 (by decide) (fun c30 => ?_) (fun c30 => ?_)
    · refine ax_iincn (n := 1) dX3_lostRegions_36 rfl (by decide) rfl ?_
      refine ax_goto 4 dX3_lostRegions_39 (by decide) ?_
      first | exact ih (r + 1) (n + 0) V (by omega) (ls_c0 c30 hV) | exact ih (r + 1) (n + 1) V (by omega) (ls_c1 c30 hV)
    · refine ax_iincn (n := 1) dX3_lostRegions_33 rfl (by decide) rfl ?_
      refine ax_iincn (n := 1) dX3_lostRegions_36 rfl (by decide) rfl ?_
      refine ax_goto 4 dX3_lostRegions_39 (by decide) ?_
      first | exact ih (r + 1) (n + 0) V (by omega) (ls_c0 c30 hV) | exact ih (r + 1) (n + 1) V (by omega) (ls_c1 c30 hV)
theorem ok_lostRegions (hw : kf κ)  : ax_Ok mX3_lostRegions yX3_lostRegions 4 0 0 [ax_r (1, 0)] (fh (ch κ) ρ) (ax_D (ax_i (nI (rQl κ))) (fh (ch κ) ρ)) := by
  refine ax_Ok.of (by decide) rfl (fun q => by cases q) (Nat.le_of_ble_eq_true rfl) rfl ?_
  refine ax_iconst (nI 0) dX3_lostRegions_0 (by decide) ?_
  refine ax_istore_n dX3_lostRegions_1 rfl (by decide) ?_
  refine ax_iconst (nI 0) dX3_lostRegions_2 (by decide) ?_
  refine ax_istore_n dX3_lostRegions_3 rfl (by decide) ?_
  exact lp_lost hw (κ.1 4 0) 0 0 _ (Nat.zero_add _) (Nat.zero_add _)
def cLr (κ : ax_R) (r : Nat) : Nat := (List.range' 0 8).countP (fun i => !decide (rM κ r = 0) && !decide (κ.2.2 9 (8 * r + i) = -9))
def cLk (κ : ax_R) : Nat := (List.range' 0 (κ.1 4 0)).foldl (fun a r => a + cLr κ r) 0
theorem lp_lo1 (hw : kf κ) {Fi : Option ax_V → ax_H → Prop} {r : Nat} (hr : r < κ.1 4 0) : ∀ (m : Nat) (i n V : Nat), i + m = 8 → n + (List.range' i m).countP (fun i => !decide (rM κ r = 0) && !decide (κ.2.2 9 (8 * r + i) = -9)) = V → ax_Z mX3_lockedObjects 4 0 0 Fi 66 [some (ax_r (1, 0)), some (ax_i (nI V)), some (ax_i (nI r)), some (ax_r (3, r)), some (ax_i (nI 8))] [] (fh (ch κ) ρ) 0 0 → ax_Z mX3_lockedObjects 4 0 0 (Fi) 30 [some (ax_r (1, 0)), some (ax_i (nI n)), some (ax_i (nI r)), some (ax_r (3, r)), some (ax_i (nI i))] [] (fh (ch κ) ρ) 0 0 := by
  intro m
  induction m with
  | zero =>
    intro i n V hk hV hK
    refine ax_iload dX3_lockedObjects_30 rfl ?_
    refine ax_bipush (nI 8) dX3_lockedObjects_32 (by decide) ?_
    refine ax_nge 66 dX3_lockedObjects_34 (by decide) (by omega) (by omega) (fun c34 => ?_) (fun c34 => absurd c34 (by omega))
    rw [ls_c2 hV] at *
    have e : i = 8 := by omega
    subst e
    exact hK
  | succ m ih =>
    intro i n V hk hV hK
    refine ax_iload dX3_lockedObjects_30 rfl ?_
    refine ax_bipush (nI 8) dX3_lockedObjects_32 (by decide) ?_
    refine ax_nge 66 dX3_lockedObjects_34 (by decide) (by omega) (by omega) (fun c34 => absurd c34 (by omega)) (fun c34 => ?_)
    refine ax_aload_n dX3_lockedObjects_37 rfl ?_
    refine ax_aload_n dX3_lockedObjects_38 rfl ?_
    refine ax_V1 cv_X3_284 dX3_lockedObjects_39 ch_O rfl (ok_cIsLost hw (by first | assumption | exact ik.r hw (by assumption))) (by decide) (Nat.le_refl _) (Nat.le_refl _) (Nat.le_of_ble_eq_true rfl) ?_
    refine ax_bne 60 dX3_lockedObjects_42 (by decide) (fun c42 => ?_) (fun c42 => ?_)
    · refine ax_iincn (n := 1) dX3_lockedObjects_60 rfl (by decide) rfl ?_
      refine ax_goto 30 dX3_lockedObjects_63 (by decide) ?_
      exact ih (i + 1) (n + 0) V (by omega) (ls_c0 (by simp [c34, c42]) hV) hK
    · refine ax_aload_n dX3_lockedObjects_45 rfl ?_
      refine ax_get (ci := 2) (k := 6) (T := TX1) dX3_lockedObjects_46 (ch_R (by first | assumption | exact ik.r hw (by assumption))) rfl (by decide) fl_X3_149 rfl ?_
      refine ax_iload dX3_lockedObjects_49 rfl ?_
      refine cl_lk dX3_lockedObjects_51 (by first | assumption | exact ik.r hw (by assumption)) (by first | omega | exact hw.o8 _) ?_
      refine ax_bipush (-9) dX3_lockedObjects_52 (by decide) ?_
      refine ax_icmp_eq 60 dX3_lockedObjects_54 (by decide) (fun c54 => ?_) (fun c54 => ?_)
      · refine ax_iincn (n := 1) dX3_lockedObjects_60 rfl (by decide) rfl ?_
        refine ax_goto 30 dX3_lockedObjects_63 (by decide) ?_
        first | exact ih (i + 1) (n + 0) V (by omega) (ls_c0 (by simp [c54]) hV) hK | exact ih (i + 1) (n + 1) V (by omega) (ls_c1 (by simpa [c54] using c42) hV) hK
      · refine ax_iincn (n := 1) dX3_lockedObjects_57 rfl (by decide) rfl ?_
        refine ax_iincn (n := 1) dX3_lockedObjects_60 rfl (by decide) rfl ?_
        refine ax_goto 30 dX3_lockedObjects_63 (by decide) ?_
        first | exact ih (i + 1) (n + 0) V (by omega) (ls_c0 (by simp [c54]) hV) hK | exact ih (i + 1) (n + 1) V (by omega) (ls_c1 (by simpa [c54] using c42) hV) hK
theorem lp_lo (hw : kf κ)  : ∀ (m : Nat) (r n V : Nat), r + m = κ.1 4 0 → (List.range' r m).foldl (fun a r => a + cLr κ r) n = V → ax_Z mX3_lockedObjects 4 0 0 (ax_D (ax_i (nI V)) (fh (ch κ) ρ)) 4 [some (ax_r (1, 0)), some (ax_i (nI n)), some (ax_i (nI r)), none, none] [] (fh (ch κ) ρ) 0 0 := by
  intro m
  induction m with
  | zero =>
    intro r n V hk hV
    have h6 := hw.nR
    refine ax_iload_n dX3_lockedObjects_4 rfl ?_
    refine ax_aload_n dX3_lockedObjects_5 rfl ?_
    refine ax_get (ci := 4) (k := 0) (T := TX3) dX3_lockedObjects_6 ch_O rfl (by decide) fl_X3_10 rfl ?_
    refine ax_V0 cv_X3_46 dX3_lockedObjects_9 ch_lR rfl (ok_szR) (by decide) (Nat.le_refl _) (Nat.le_refl _) (Nat.le_of_ble_eq_true rfl) ?_
    refine ax_nge 72 dX3_lockedObjects_12 (by decide) (by omega) (by omega) (fun c12 => ?_) (fun c12 => absurd c12 (by omega))
    refine ax_iload_n dX3_lockedObjects_72 rfl ?_
    refine ax_iretD dX3_lockedObjects_73 rfl ⟨(Nat.le_refl _), (Nat.le_refl _)⟩ ?_ ?_
    · rw [← hV]; rfl
    · rfl
  | succ m ih =>
    intro r n V hk hV
    have h6 := hw.nR
    have hr : r < κ.1 4 0 := by omega
    refine ax_iload_n dX3_lockedObjects_4 rfl ?_
    refine ax_aload_n dX3_lockedObjects_5 rfl ?_
    refine ax_get (ci := 4) (k := 0) (T := TX3) dX3_lockedObjects_6 ch_O rfl (by decide) fl_X3_10 rfl ?_
    refine ax_V0 cv_X3_46 dX3_lockedObjects_9 ch_lR rfl (ok_szR) (by decide) (Nat.le_refl _) (Nat.le_refl _) (Nat.le_of_ble_eq_true rfl) ?_
    refine ax_nge 72 dX3_lockedObjects_12 (by decide) (by omega) (by omega) (fun c12 => absurd c12 (by omega)) (fun c12 => ?_)
    refine ax_aload_n dX3_lockedObjects_15 rfl ?_
    refine ax_get (ci := 4) (k := 0) (T := TX3) dX3_lockedObjects_16 ch_O rfl (by decide) fl_X3_10 rfl ?_
    refine ax_iload_n dX3_lockedObjects_19 rfl ?_
    refine ax_V1 cv_X3_77 dX3_lockedObjects_20 ch_lR rfl (ok_geR hw (by first | assumption | omega)) (by decide) (Nat.le_refl _) (Nat.le_refl _) (Nat.le_of_ble_eq_true rfl) ?_
    refine ax_cast (ci := 2) dX3_lockedObjects_23 cl_X3_50 (ch_R (by first | assumption | exact ik.r hw (by assumption))) rfl ?_
    refine ax_astore_n dX3_lockedObjects_26 rfl (by decide) ?_
    refine ax_iconst (nI 0) dX3_lockedObjects_27 (by decide) ?_
    refine ax_istore dX3_lockedObjects_28 rfl (by decide) ?_
    refine lp_lo1 hw hr 8 0 n _ rfl rfl ?_
    refine ax_iincn (n := 1) dX3_lockedObjects_66 rfl (by decide) rfl ?_
    refine ax_goto 4 dX3_lockedObjects_69 (by decide) ?_
    refine ax_fg [true, true, true, false, false] rfl ?_
    exact ih (r + 1) _ V (by omega) hV
theorem ok_lockedObjects (hw : kf κ)  : ax_Ok mX3_lockedObjects yX3_lockedObjects 4 0 0 [ax_r (1, 0)] (fh (ch κ) ρ) (ax_D (ax_i (nI (cLk κ))) (fh (ch κ) ρ)) := by
  refine ax_Ok.of (by decide) rfl (fun q => by cases q) (Nat.le_of_ble_eq_true rfl) rfl ?_
  refine ax_iconst (nI 0) dX3_lockedObjects_0 (by decide) ?_
  refine ax_istore_n dX3_lockedObjects_1 rfl (by decide) ?_
  refine ax_iconst (nI 0) dX3_lockedObjects_2 (by decide) ?_
  refine ax_istore_n dX3_lockedObjects_3 rfl (by decide) ?_
  exact lp_lo hw (κ.1 4 0) 0 0 _ (Nat.zero_add _) rfl
theorem lp_unl (hw : kf κ)  : ∀ (m : Nat) (r : Nat) (V : Option Nat), r + m = κ.1 4 0 → (List.range' r m).find? (fun r => !cAr κ r) = V → ax_Z mX3_unlike 4 0 0 (ax_D (ax_i (oI V)) (fh (ch κ) ρ)) 2 [some (ax_r (1, 0)), some (ax_i (nI r))] [] (fh (ch κ) ρ) 0 0 := by
  intro m
  induction m with
  | zero =>
    intro r V hk hV
    have h6 := hw.nR
    refine ax_iload_n dX3_unlike_2 rfl ?_
    refine ax_aload_n dX3_unlike_3 rfl ?_
    refine ax_get (ci := 4) (k := 0) (T := TX3) dX3_unlike_4 ch_O rfl (by decide) fl_X3_10 rfl ?_
    refine ax_V0 cv_X3_46 dX3_unlike_7 ch_lR rfl (ok_szR) (by decide) (Nat.le_refl _) (Nat.le_refl _) (Nat.le_of_ble_eq_true rfl) ?_
    refine ax_nge 39 dX3_unlike_10 (by decide) (by omega) (by omega) (fun c10 => ?_) (fun c10 => absurd c10 (by omega))
    refine ax_bipush (-9) dX3_unlike_39 (by decide) ?_
    refine ax_iretD dX3_unlike_41 rfl ⟨(Nat.le_refl _), (Nat.le_refl _)⟩ ?_ ?_
    · rw [ls_d2 hV]; rfl
    · rfl
  | succ m ih =>
    intro r V hk hV
    have h6 := hw.nR
    have hr : r < κ.1 4 0 := by omega
    refine ax_iload_n dX3_unlike_2 rfl ?_
    refine ax_aload_n dX3_unlike_3 rfl ?_
    refine ax_get (ci := 4) (k := 0) (T := TX3) dX3_unlike_4 ch_O rfl (by decide) fl_X3_10 rfl ?_
    refine ax_V0 cv_X3_46 dX3_unlike_7 ch_lR rfl (ok_szR) (by decide) (Nat.le_refl _) (Nat.le_refl _) (Nat.le_of_ble_eq_true rfl) ?_
    refine ax_nge 39 dX3_unlike_10 (by decide) (by omega) (by omega) (fun c10 => absurd c10 (by omega)) (fun c10 => ?_)
    refine ax_aload_n dX3_unlike_13 rfl ?_
    refine ax_aload_n dX3_unlike_14 rfl ?_
    refine ax_get (ci := 4) (k := 0) (T := TX3) dX3_unlike_15 ch_O rfl (by decide) fl_X3_10 rfl ?_
    refine ax_iload_n dX3_unlike_18 rfl ?_
    refine ax_V1 cv_X3_77 dX3_unlike_19 ch_lR rfl (ok_geR hw (by first | assumption | omega)) (by decide) (Nat.le_refl _) (Nat.le_refl _) (Nat.le_of_ble_eq_true rfl) ?_
    refine ax_cast (ci := 2) dX3_unlike_22 cl_X3_50 (ch_R (by first | assumption | exact ik.r hw (by assumption))) rfl ?_
    refine ax_V1 cv_X3_233 dX3_unlike_25 ch_O rfl (ok_copiesAlike hw (by assumption)) (by decide) (Nat.le_refl _) (Nat.le_refl _) (Nat.le_of_ble_eq_true rfl) ?_
    refine ax_bne 33 dX3_unlike_28 (by decide) (fun c28 => ?_) (fun c28 => ?_)
    · refine ax_iincn (n := 1) dX3_unlike_33 rfl (by decide) rfl ?_
      refine ax_goto 2 dX3_unlike_36 (by decide) ?_
      exact ih (r + 1) V (by omega) (ls_d0 (p := fun r => !cAr κ r) (by simp [c28]) hV)
    · refine ax_iload_n dX3_unlike_31 rfl ?_
      refine ax_iretD dX3_unlike_32 rfl ⟨(Nat.le_refl _), (Nat.le_refl _)⟩ ?_ ?_
      · rw [ls_d1 (p := fun r => !cAr κ r) (by simp [c28]) hV]; rfl
      · rfl
def cUn (κ : ax_R) : Int32 := oI ((List.range' 0 (κ.1 4 0)).find? (fun r => !cAr κ r))
theorem ok_cunlike (hw : kf κ)  : ax_Ok mX3_unlike yX3_unlike 4 0 0 [ax_r (1, 0)] (fh (ch κ) ρ) (ax_D (ax_i (cUn κ)) (fh (ch κ) ρ)) := by
  refine ax_Ok.of (by decide) rfl (fun q => by cases q) (Nat.le_of_ble_eq_true rfl) rfl ?_
  refine ax_iconst (nI 0) dX3_unlike_0 (by decide) ?_
  refine ax_istore_n dX3_unlike_1 rfl (by decide) ?_
  exact lp_unl hw (κ.1 4 0) 0 _ (Nat.zero_add _) rfl
def cQc (κ : ax_R) (w : Int32) : Int32 := if w = nI 0 then nI (κ.1 4 0) else if w = nI 1 then nI (κ.1 10 0) else if w = nI 2 then nI (κ.1 3 0) else if w = nI 3 then nI (rQm κ) else if w = nI 4 then nI (rUp κ) else if w = nI 5 then nI (rIp κ 7) else if w = nI 6 then nI (rIp κ 8) else if w = nI 7 then nI (cLk κ) else if w = nI 8 then nI (cRw κ (κ.2.1 1)) else if w = nI 9 then nI (rQl κ) else -2
theorem ok_ccount (hw : kf κ) (w : Int32) : ax_Ok mX3_count yX3_count 5 0 0 [ax_r (1, 0), ax_i w] (fh (ch κ) ρ) (ax_D (ax_i (cQc κ w)) (fh (ch κ) ρ)) := by
  refine ax_Ok.of (by decide) rfl (fun q => by cases q) (Nat.le_of_ble_eq_true rfl) rfl ?_
  by_cases w0 : w = nI 0
  · subst w0
    refine ax_iload_n dX3_count_0 rfl ?_
    · refine ax_tin 56 dX3_count_1 (by decide) (by decide) (by rfl) (by decide) ?_
      refine ax_aload_n dX3_count_56 rfl ?_
      refine ax_get (ci := 4) (k := 0) (T := TX3) dX3_count_57 ch_O rfl (by decide) fl_X3_10 rfl ?_
      refine ax_V0 cv_X3_46 dX3_count_60 ch_lR rfl (ok_szR) (by decide) (Nat.le_refl _) (Nat.le_refl _) (Nat.le_of_ble_eq_true rfl) ?_
      refine ax_iretD dX3_count_63 rfl ⟨(Nat.le_refl _), (Nat.le_refl _)⟩ ?_ ?_
      · first | rfl | (simp [cQc]; done)
      · rfl
  by_cases w1 : w = nI 1
  · subst w1
    refine ax_iload_n dX3_count_0 rfl ?_
    · refine ax_tin 64 dX3_count_1 (by decide) (by decide) (by rfl) (by decide) ?_
      refine ax_aload_n dX3_count_64 rfl ?_
      refine ax_get (ci := 4) (k := 1) (T := TX3) dX3_count_65 ch_O rfl (by decide) fl_X3_16 rfl ?_
      refine ax_V0 cv_X3_46 dX3_count_68 ch_lT rfl (ok_szT) (by decide) (Nat.le_refl _) (Nat.le_refl _) (Nat.le_of_ble_eq_true rfl) ?_
      refine ax_iretD dX3_count_71 rfl ⟨(Nat.le_refl _), (Nat.le_refl _)⟩ ?_ ?_
      · first | rfl | (simp [cQc]; done)
      · rfl
  by_cases w2 : w = nI 2
  · subst w2
    refine ax_iload_n dX3_count_0 rfl ?_
    · refine ax_tin 72 dX3_count_1 (by decide) (by decide) (by rfl) (by decide) ?_
      refine ax_aload_n dX3_count_72 rfl ?_
      refine ax_get (ci := 4) (k := 6) (T := TX3) dX3_count_73 ch_O rfl (by decide) fl_X3_33 rfl ?_
      refine ax_iretD dX3_count_76 rfl ⟨(Nat.le_refl _), (Nat.le_refl _)⟩ ?_ ?_
      · first | rfl | (simp [cQc]; done)
      · rfl
  by_cases w3 : w = nI 3
  · subst w3
    refine ax_iload_n dX3_count_0 rfl ?_
    · refine ax_tin 77 dX3_count_1 (by decide) (by decide) (by rfl) (by decide) ?_
      refine ax_aload_n dX3_count_77 rfl ?_
      refine ax_get (ci := 4) (k := 5) (T := TX3) dX3_count_78 ch_O rfl (by decide) fl_X3_30 rfl ?_
      refine ax_S1 cs_X3_72 dX3_count_81 (ok_bitCount (mk_lt _)) (by decide) (Nat.le_refl _) (Nat.le_refl _) (Nat.le_of_ble_eq_true rfl) ?_
      rw [mk_pc]
      refine ax_iretD dX3_count_84 rfl ⟨(Nat.le_refl _), (Nat.le_refl _)⟩ ?_ ?_
      · first | rfl | (simp [cQc]; done)
      · rfl
  by_cases w4 : w = nI 4
  · subst w4
    refine ax_iload_n dX3_count_0 rfl ?_
    · refine ax_tin 85 dX3_count_1 (by decide) (by decide) (by rfl) (by decide) ?_
      refine ax_aload_n dX3_count_85 rfl ?_
      refine ax_get (ci := 4) (k := 4) (T := TX3) dX3_count_86 ch_O rfl (by decide) fl_X3_26 rfl ?_
      refine ax_S1 cs_X3_72 dX3_count_89 (ok_bitCount (mk_lt _)) (by decide) (Nat.le_refl _) (Nat.le_refl _) (Nat.le_of_ble_eq_true rfl) ?_
      rw [mk_pc]
      refine ax_iretD dX3_count_92 rfl ⟨(Nat.le_refl _), (Nat.le_refl _)⟩ ?_ ?_
      · first | rfl | (simp [cQc]; done)
      · rfl
  by_cases w5 : w = nI 5
  · subst w5
    refine ax_iload_n dX3_count_0 rfl ?_
    · refine ax_tin 93 dX3_count_1 (by decide) (by decide) (by rfl) (by decide) ?_
      refine ax_aload_n dX3_count_93 rfl ?_
      refine ax_bipush (nI 7) dX3_count_94 (by decide) ?_
      refine ax_V1 cv_X3_236 dX3_count_96 ch_O rfl (ok_transactionsIn hw (by decide)) (by decide) (Nat.le_refl _) (Nat.le_refl _) (Nat.le_of_ble_eq_true rfl) ?_
      refine ax_iretD dX3_count_99 rfl ⟨(Nat.le_refl _), (Nat.le_refl _)⟩ ?_ ?_
      · first | rfl | (simp [cQc]; done)
      · rfl
  by_cases w6 : w = nI 6
  · subst w6
    refine ax_iload_n dX3_count_0 rfl ?_
    · refine ax_tin 100 dX3_count_1 (by decide) (by decide) (by rfl) (by decide) ?_
      refine ax_aload_n dX3_count_100 rfl ?_
      refine ax_bipush (nI 8) dX3_count_101 (by decide) ?_
      refine ax_V1 cv_X3_236 dX3_count_103 ch_O rfl (ok_transactionsIn hw (by decide)) (by decide) (Nat.le_refl _) (Nat.le_refl _) (Nat.le_of_ble_eq_true rfl) ?_
      refine ax_iretD dX3_count_106 rfl ⟨(Nat.le_refl _), (Nat.le_refl _)⟩ ?_ ?_
      · first | rfl | (simp [cQc]; done)
      · rfl
  by_cases w7 : w = nI 7
  · subst w7
    refine ax_iload_n dX3_count_0 rfl ?_
    · refine ax_tin 107 dX3_count_1 (by decide) (by decide) (by rfl) (by decide) ?_
      refine ax_aload_n dX3_count_107 rfl ?_
      refine ax_V0 cv_X3_239 dX3_count_108 ch_O rfl (ok_lockedObjects hw) (by decide) (Nat.le_refl _) (Nat.le_refl _) (Nat.le_of_ble_eq_true rfl) ?_
      refine ax_iretD dX3_count_111 rfl ⟨(Nat.le_refl _), (Nat.le_refl _)⟩ ?_ ?_
      · first | rfl | (simp [cQc]; done)
      · rfl
  by_cases w8 : w = nI 8
  · subst w8
    refine ax_iload_n dX3_count_0 rfl ?_
    · refine ax_tin 112 dX3_count_1 (by decide) (by decide) (by rfl) (by decide) ?_
      refine ax_aload_n dX3_count_112 rfl ?_
      refine ax_aload_n dX3_count_113 rfl ?_
      refine ax_get (ci := 4) (k := 5) (T := TX3) dX3_count_114 ch_O rfl (by decide) fl_X3_30 rfl ?_
      refine ax_V1 cv_X3_139 dX3_count_117 ch_O rfl (ok_recordsWithin hw) (by decide) (Nat.le_refl _) (Nat.le_refl _) (Nat.le_of_ble_eq_true rfl) ?_
      refine ax_iretD dX3_count_120 rfl ⟨(Nat.le_refl _), (Nat.le_refl _)⟩ ?_ ?_
      · first | rfl | (simp [cQc]; done)
      · rfl
  by_cases w9 : w = nI 9
  · subst w9
    refine ax_iload_n dX3_count_0 rfl ?_
    · refine ax_tin 121 dX3_count_1 (by decide) (by decide) (by rfl) (by decide) ?_
      refine ax_aload_n dX3_count_121 rfl ?_
      refine ax_V0 cv_X3_242 dX3_count_122 ch_O rfl (ok_lostRegions hw) (by decide) (Nat.le_refl _) (Nat.le_refl _) (Nat.le_of_ble_eq_true rfl) ?_
      refine ax_iretD dX3_count_125 rfl ⟨(Nat.le_refl _), (Nat.le_refl _)⟩ ?_ ?_
      · first | rfl | (simp [cQc]; done)
      · rfl
  refine ax_iload_n dX3_count_0 rfl ?_
  · refine ax_tout 126 dX3_count_1 (sw_out 9 (by decide) (fun k hk => by rcases (show k = 0 ∨ k = 1 ∨ k = 2 ∨ k = 3 ∨ k = 4 ∨ k = 5 ∨ k = 6 ∨ k = 7 ∨ k = 8 ∨ k = 9 by omega) with rfl | rfl | rfl | rfl | rfl | rfl | rfl | rfl | rfl | rfl <;> assumption)) (by decide) ?_
    refine ax_bipush (-2) dX3_count_126 (by decide) ?_
    refine ax_iretD dX3_count_128 rfl ⟨(Nat.le_refl _), (Nat.le_refl _)⟩ ?_ ?_
    · first | rfl | (simp [cQc, w0, w1, w2, w3, w4, w5, w6, w7, w8, w9]; done)
    · rfl
theorem ok_cabout0 {x w : Int32} (hx : ¬ (0 ≤ x ∧ x < nI (κ.1 10 0))) : ax_Ok mX3_about yX3_about 5 0 0 [ax_r (1, 0), ax_i x, ax_i w] (fh (ch κ) ρ) (ax_D (ax_i (-1)) (fh (ch κ) ρ)) := by
  refine ax_Ok.of (by decide) rfl (fun q => by cases q) (Nat.le_of_ble_eq_true rfl) rfl ?_
  refine ax_aload_n dX3_about_0 rfl ?_
  refine ax_iload_n dX3_about_1 rfl ?_
  refine ax_V1 cv_X3_160 dX3_about_2 ch_O rfl (ok_transactionAtN hx) (by decide) (Nat.le_refl _) (Nat.le_refl _) (Nat.le_of_ble_eq_true rfl) ?_
  refine ax_astore_n dX3_about_5 rfl (by decide) ?_
  refine ax_aload_n dX3_about_6 rfl ?_
  refine ax_ifnonnull 12 dX3_about_7 (by decide) (fun c7 => absurd c7 (fun z => z rfl)) (fun c7 => ?_)
  refine ax_iconst (-1) dX3_about_10 (by decide) ?_
  refine ax_iretD dX3_about_11 rfl ⟨(Nat.le_refl _), (Nat.le_refl _)⟩ ?_ ?_
  · rfl
  · rfl
theorem ok_cabout (hw : kf κ) {t : Nat} (ht : t < κ.1 10 0) (w : Int32) : ax_Ok mX3_about yX3_about 5 0 0 [ax_r (1, 0), ax_i (nI t), ax_i w] (fh (ch κ) ρ) (ax_D (ax_i (rAb κ t w)) (fh (ch κ) ρ)) := by
  refine ax_Ok.of (by decide) rfl (fun q => by cases q) (Nat.le_of_ble_eq_true rfl) rfl ?_
  by_cases w0 : w = nI 0
  · subst w0
    refine ax_aload_n dX3_about_0 rfl ?_
    refine ax_iload_n dX3_about_1 rfl ?_
    refine ax_V1 cv_X3_160 dX3_about_2 ch_O rfl (ok_transactionAt hw ht) (by decide) (Nat.le_refl _) (Nat.le_refl _) (Nat.le_of_ble_eq_true rfl) ?_
    refine ax_astore_n dX3_about_5 rfl (by decide) ?_
    refine ax_aload_n dX3_about_6 rfl ?_
    refine ax_ifnonnull 12 dX3_about_7 (by decide) (fun c7 => ?_) (fun c7 => absurd c7 (by intro z; cases z))
    refine ax_iload_n dX3_about_12 rfl ?_
    · refine ax_tin 52 dX3_about_13 (by decide) (by decide) (by rfl) (by decide) ?_
      refine ax_aload_n dX3_about_52 rfl ?_
      refine ax_get (ci := 3) (k := 3) (T := TX2) dX3_about_53 (ch_T (by assumption)) rfl (by decide) fl_X3_83 rfl ?_
      refine ax_iretD dX3_about_56 rfl ⟨(Nat.le_refl _), (Nat.le_refl _)⟩ ?_ ?_
      · first | rfl | (simp [rAb]; done) | (show _ = ax_b (κ.2.1 15 t); simp only [c7]; rfl)
      · rfl
  by_cases w1 : w = nI 1
  · subst w1
    refine ax_aload_n dX3_about_0 rfl ?_
    refine ax_iload_n dX3_about_1 rfl ?_
    refine ax_V1 cv_X3_160 dX3_about_2 ch_O rfl (ok_transactionAt hw ht) (by decide) (Nat.le_refl _) (Nat.le_refl _) (Nat.le_of_ble_eq_true rfl) ?_
    refine ax_astore_n dX3_about_5 rfl (by decide) ?_
    refine ax_aload_n dX3_about_6 rfl ?_
    refine ax_ifnonnull 12 dX3_about_7 (by decide) (fun c7 => ?_) (fun c7 => absurd c7 (by intro z; cases z))
    refine ax_iload_n dX3_about_12 rfl ?_
    · refine ax_tin 57 dX3_about_13 (by decide) (by decide) (by rfl) (by decide) ?_
      refine ax_aload_n dX3_about_57 rfl ?_
      refine ax_get (ci := 3) (k := 1) (T := TX2) dX3_about_58 (ch_T (by assumption)) rfl (by decide) fl_X3_86 rfl ?_
      refine ax_iretD dX3_about_61 rfl ⟨(Nat.le_refl _), (Nat.le_refl _)⟩ ?_ ?_
      · first | rfl | (simp [rAb]; done) | (show _ = ax_b (κ.2.1 15 t); simp only [c7]; rfl)
      · rfl
  by_cases w2 : w = nI 2
  · subst w2
    refine ax_aload_n dX3_about_0 rfl ?_
    refine ax_iload_n dX3_about_1 rfl ?_
    refine ax_V1 cv_X3_160 dX3_about_2 ch_O rfl (ok_transactionAt hw ht) (by decide) (Nat.le_refl _) (Nat.le_refl _) (Nat.le_of_ble_eq_true rfl) ?_
    refine ax_astore_n dX3_about_5 rfl (by decide) ?_
    refine ax_aload_n dX3_about_6 rfl ?_
    refine ax_ifnonnull 12 dX3_about_7 (by decide) (fun c7 => ?_) (fun c7 => absurd c7 (by intro z; cases z))
    refine ax_iload_n dX3_about_12 rfl ?_
    · refine ax_tin 62 dX3_about_13 (by decide) (by decide) (by rfl) (by decide) ?_
      refine ax_aload_n dX3_about_62 rfl ?_
      refine ax_get (ci := 3) (k := 2) (T := TX2) dX3_about_63 (ch_T (by assumption)) rfl (by decide) fl_X3_205 rfl ?_
      refine ax_V0 cv_X3_46 dX3_about_66 (ch_lI (by assumption)) rfl (ok_szI (by assumption)) (by decide) (Nat.le_refl _) (Nat.le_refl _) (Nat.le_of_ble_eq_true rfl) ?_
      refine ax_iretD dX3_about_69 rfl ⟨(Nat.le_refl _), (Nat.le_refl _)⟩ ?_ ?_
      · first | rfl | (simp [rAb]; done) | (show _ = ax_b (κ.2.1 15 t); simp only [c7]; rfl)
      · rfl
  by_cases w3 : w = nI 3
  · subst w3
    refine ax_aload_n dX3_about_0 rfl ?_
    refine ax_iload_n dX3_about_1 rfl ?_
    refine ax_V1 cv_X3_160 dX3_about_2 ch_O rfl (ok_transactionAt hw ht) (by decide) (Nat.le_refl _) (Nat.le_refl _) (Nat.le_of_ble_eq_true rfl) ?_
    refine ax_astore_n dX3_about_5 rfl (by decide) ?_
    refine ax_aload_n dX3_about_6 rfl ?_
    refine ax_ifnonnull 12 dX3_about_7 (by decide) (fun c7 => ?_) (fun c7 => absurd c7 (by intro z; cases z))
    refine ax_iload_n dX3_about_12 rfl ?_
    · refine ax_tin 70 dX3_about_13 (by decide) (by decide) (by rfl) (by decide) ?_
      refine ax_aload_n dX3_about_70 rfl ?_
      refine ax_V0 cv_X3_187 dX3_about_71 (ch_T (by assumption)) rfl (ok_writeCount hw (by assumption)) (by decide) (Nat.le_refl _) (Nat.le_refl _) (Nat.le_of_ble_eq_true rfl) ?_
      refine ax_iretD dX3_about_74 rfl ⟨(Nat.le_refl _), (Nat.le_refl _)⟩ ?_ ?_
      · first | rfl | (simp [rAb]; done) | (show _ = ax_b (κ.2.1 15 t); simp only [c7]; rfl)
      · rfl
  by_cases w4 : w = nI 4
  · subst w4
    refine ax_aload_n dX3_about_0 rfl ?_
    refine ax_iload_n dX3_about_1 rfl ?_
    refine ax_V1 cv_X3_160 dX3_about_2 ch_O rfl (ok_transactionAt hw ht) (by decide) (Nat.le_refl _) (Nat.le_refl _) (Nat.le_of_ble_eq_true rfl) ?_
    refine ax_astore_n dX3_about_5 rfl (by decide) ?_
    refine ax_aload_n dX3_about_6 rfl ?_
    refine ax_ifnonnull 12 dX3_about_7 (by decide) (fun c7 => ?_) (fun c7 => absurd c7 (by intro z; cases z))
    refine ax_iload_n dX3_about_12 rfl ?_
    · refine ax_tin 75 dX3_about_13 (by decide) (by decide) (by rfl) (by decide) ?_
      refine ax_aload_n dX3_about_75 rfl ?_
      refine ax_get (ci := 3) (k := 6) (T := TX2) dX3_about_76 (ch_T (by assumption)) rfl (by decide) fl_X3_208 rfl ?_
      refine ax_beq 86 dX3_about_79 (by decide) (fun c79 => ?_) (fun c79 => ?_)
      · refine ax_iconst (nI 0) dX3_about_86 (by decide) ?_
        refine ax_iretD dX3_about_87 rfl ⟨(Nat.le_refl _), (Nat.le_refl _)⟩ ?_ ?_
        · first | rfl | (simp [rAb]; done) | (show _ = ax_b (κ.2.1 15 t); simp only [c7, c79]; rfl)
        · rfl
      · refine ax_iconst (nI 1) dX3_about_82 (by decide) ?_
        refine ax_goto 87 dX3_about_83 (by decide) ?_
        refine ax_iretD dX3_about_87 rfl ⟨(Nat.le_refl _), (Nat.le_refl _)⟩ ?_ ?_
        · first | rfl | (simp [rAb]; done) | (show _ = ax_b (κ.2.1 15 t); simp only [c7, c79]; rfl)
        · rfl
  by_cases w5 : w = nI 5
  · subst w5
    refine ax_aload_n dX3_about_0 rfl ?_
    refine ax_iload_n dX3_about_1 rfl ?_
    refine ax_V1 cv_X3_160 dX3_about_2 ch_O rfl (ok_transactionAt hw ht) (by decide) (Nat.le_refl _) (Nat.le_refl _) (Nat.le_of_ble_eq_true rfl) ?_
    refine ax_astore_n dX3_about_5 rfl (by decide) ?_
    refine ax_aload_n dX3_about_6 rfl ?_
    refine ax_ifnonnull 12 dX3_about_7 (by decide) (fun c7 => ?_) (fun c7 => absurd c7 (by intro z; cases z))
    refine ax_iload_n dX3_about_12 rfl ?_
    · refine ax_tin 88 dX3_about_13 (by decide) (by decide) (by rfl) (by decide) ?_
      refine ax_aload_n dX3_about_88 rfl ?_
      refine ax_get (ci := 3) (k := 5) (T := TX2) dX3_about_89 (ch_T (by assumption)) rfl (by decide) fl_X3_211 rfl ?_
      refine ax_iretD dX3_about_92 rfl ⟨(Nat.le_refl _), (Nat.le_refl _)⟩ ?_ ?_
      · first | rfl | (simp [rAb]; done) | (show _ = ax_b (κ.2.1 15 t); simp only [c7]; rfl)
      · rfl
  refine ax_aload_n dX3_about_0 rfl ?_
  refine ax_iload_n dX3_about_1 rfl ?_
  refine ax_V1 cv_X3_160 dX3_about_2 ch_O rfl (ok_transactionAt hw ht) (by decide) (Nat.le_refl _) (Nat.le_refl _) (Nat.le_of_ble_eq_true rfl) ?_
  refine ax_astore_n dX3_about_5 rfl (by decide) ?_
  refine ax_aload_n dX3_about_6 rfl ?_
  refine ax_ifnonnull 12 dX3_about_7 (by decide) (fun c7 => ?_) (fun c7 => absurd c7 (by intro z; cases z))
  refine ax_iload_n dX3_about_12 rfl ?_
  · refine ax_tout 93 dX3_about_13 (sw_out 5 (by decide) (fun k hk => by rcases (show k = 0 ∨ k = 1 ∨ k = 2 ∨ k = 3 ∨ k = 4 ∨ k = 5 by omega) with rfl | rfl | rfl | rfl | rfl | rfl <;> assumption)) (by decide) ?_
    refine ax_bipush (-2) dX3_about_93 (by decide) ?_
    refine ax_iretD dX3_about_95 rfl ⟨(Nat.le_refl _), (Nat.le_refl _)⟩ ?_ ?_
    · first | rfl | (simp [rAb, w0, w1, w2, w3, w4, w5]; done) | (show _ = ax_b (κ.2.1 15 t); simp only [c7]; rfl)
    · rfl
theorem ok_citem0 {x y w : Int32} (hx : ¬ (0 ≤ x ∧ x < nI (κ.1 10 0))) : ax_Ok mX3_item yX3_item 5 0 0 [ax_r (1, 0), ax_i x, ax_i y, ax_i w] (fh (ch κ) ρ) (ax_D (ax_i (-1)) (fh (ch κ) ρ)) := by
  refine ax_Ok.of (by decide) rfl (fun q => by cases q) (Nat.le_of_ble_eq_true rfl) rfl ?_
  refine ax_aload_n dX3_item_0 rfl ?_
  refine ax_iload_n dX3_item_1 rfl ?_
  refine ax_V1 cv_X3_160 dX3_item_2 ch_O rfl (ok_transactionAtN hx) (by decide) (Nat.le_refl _) (Nat.le_refl _) (Nat.le_of_ble_eq_true rfl) ?_
  refine ax_astore dX3_item_5 rfl (by decide) ?_
  refine ax_aload dX3_item_7 rfl ?_
  refine ax_ifnonnull 14 dX3_item_9 (by decide) (fun c9 => absurd c9 (fun z => z rfl)) (fun c9 => ?_)
  refine ax_iconst (-1) dX3_item_12 (by decide) ?_
  refine ax_iretD dX3_item_13 rfl ⟨(Nat.le_refl _), (Nat.le_refl _)⟩ ?_ ?_
  · rfl
  · rfl
theorem ok_citem1 (hw : kf κ) {t : Nat} (ht : t < κ.1 10 0) {y w : Int32} (hy : ¬ (0 ≤ y ∧ y < nI (κ.1 14 t))) : ax_Ok mX3_item yX3_item 5 0 0 [ax_r (1, 0), ax_i (nI t), ax_i y, ax_i w] (fh (ch κ) ρ) (ax_D (ax_i (-1)) (fh (ch κ) ρ)) := by
  refine ax_Ok.of (by decide) rfl (fun q => by cases q) (Nat.le_of_ble_eq_true rfl) rfl ?_
  refine ax_aload_n dX3_item_0 rfl ?_
  refine ax_iload_n dX3_item_1 rfl ?_
  refine ax_V1 cv_X3_160 dX3_item_2 ch_O rfl (ok_transactionAt hw ht) (by decide) (Nat.le_refl _) (Nat.le_refl _) (Nat.le_of_ble_eq_true rfl) ?_
  refine ax_astore dX3_item_5 rfl (by decide) ?_
  refine ax_aload dX3_item_7 rfl ?_
  refine ax_ifnonnull 14 dX3_item_9 (by decide) (fun c9 => ?_) (fun c9 => absurd c9 (by intro z; cases z))
  refine ax_aload dX3_item_14 rfl ?_
  refine ax_iload_n dX3_item_16 rfl ?_
  refine ax_V1 cv_X3_214 dX3_item_17 (ch_T (by assumption)) rfl (ok_itemAtN ht hy) (by decide) (Nat.le_refl _) (Nat.le_refl _) (Nat.le_of_ble_eq_true rfl) ?_
  refine ax_astore dX3_item_20 rfl (by decide) ?_
  refine ax_aload dX3_item_22 rfl ?_
  refine ax_ifnonnull 29 dX3_item_24 (by decide) (fun c24 => absurd c24 (fun z => z rfl)) (fun c24 => ?_)
  refine ax_iconst (-1) dX3_item_27 (by decide) ?_
  refine ax_iretD dX3_item_28 rfl ⟨(Nat.le_refl _), (Nat.le_refl _)⟩ ?_ ?_
  · rfl
  · rfl
theorem ok_citem (hw : kf κ) {t i : Nat} (ht : t < κ.1 10 0) (hi : i < κ.1 14 t) (w : Int32) : ax_Ok mX3_item yX3_item 5 0 0 [ax_r (1, 0), ax_i (nI t), ax_i (nI i), ax_i w] (fh (ch κ) ρ) (ax_D (ax_i (rIt κ (8 * t + i) w)) (fh (ch κ) ρ)) := by
  refine ax_Ok.of (by decide) rfl (fun q => by cases q) (Nat.le_of_ble_eq_true rfl) rfl ?_
  have hik : ik κ (8 * t + i) := ik.of hw ht hi
  have hir := ik.r hw hik
  by_cases w0 : w = nI 0
  · subst w0
    refine ax_aload_n dX3_item_0 rfl ?_
    refine ax_iload_n dX3_item_1 rfl ?_
    refine ax_V1 cv_X3_160 dX3_item_2 ch_O rfl (ok_transactionAt hw ht) (by decide) (Nat.le_refl _) (Nat.le_refl _) (Nat.le_of_ble_eq_true rfl) ?_
    refine ax_astore dX3_item_5 rfl (by decide) ?_
    refine ax_aload dX3_item_7 rfl ?_
    refine ax_ifnonnull 14 dX3_item_9 (by decide) (fun c9 => ?_) (fun c9 => absurd c9 (by intro z; cases z))
    refine ax_aload dX3_item_14 rfl ?_
    refine ax_iload_n dX3_item_16 rfl ?_
    refine ax_V1 cv_X3_214 dX3_item_17 (ch_T (by assumption)) rfl (ok_itemAt hw ht hi) (by decide) (Nat.le_refl _) (Nat.le_refl _) (Nat.le_of_ble_eq_true rfl) ?_
    refine ax_astore dX3_item_20 rfl (by decide) ?_
    refine ax_aload dX3_item_22 rfl ?_
    refine ax_ifnonnull 29 dX3_item_24 (by decide) (fun c24 => ?_) (fun c24 => absurd c24 (by intro z; cases z))
    refine ax_iload_n dX3_item_29 rfl ?_
    · refine ax_tin 64 dX3_item_30 (by decide) (by decide) (by rfl) (by decide) ?_
      refine ax_aload dX3_item_64 rfl ?_
      refine ax_get (ci := 1) (k := 0) (T := TX0) dX3_item_66 (ch_I (by assumption)) rfl (by decide) fl_X3_218 rfl ?_
      refine ax_get (ci := 2) (k := 0) (T := TX1) dX3_item_69 (ch_R (by first | assumption | exact ik.r hw (by assumption))) rfl (by decide) fl_X3_62 rfl ?_
      refine ax_iretD dX3_item_72 rfl ⟨(Nat.le_refl _), (Nat.le_refl _)⟩ ?_ ?_
      · first | rfl | (simp [rIt]; done) | (show _ = (if κ.2.1 22 _ = true then _ else _); simp [c9, c24]; done)
      · rfl
  by_cases w1 : w = nI 1
  · subst w1
    refine ax_aload_n dX3_item_0 rfl ?_
    refine ax_iload_n dX3_item_1 rfl ?_
    refine ax_V1 cv_X3_160 dX3_item_2 ch_O rfl (ok_transactionAt hw ht) (by decide) (Nat.le_refl _) (Nat.le_refl _) (Nat.le_of_ble_eq_true rfl) ?_
    refine ax_astore dX3_item_5 rfl (by decide) ?_
    refine ax_aload dX3_item_7 rfl ?_
    refine ax_ifnonnull 14 dX3_item_9 (by decide) (fun c9 => ?_) (fun c9 => absurd c9 (by intro z; cases z))
    refine ax_aload dX3_item_14 rfl ?_
    refine ax_iload_n dX3_item_16 rfl ?_
    refine ax_V1 cv_X3_214 dX3_item_17 (ch_T (by assumption)) rfl (ok_itemAt hw ht hi) (by decide) (Nat.le_refl _) (Nat.le_refl _) (Nat.le_of_ble_eq_true rfl) ?_
    refine ax_astore dX3_item_20 rfl (by decide) ?_
    refine ax_aload dX3_item_22 rfl ?_
    refine ax_ifnonnull 29 dX3_item_24 (by decide) (fun c24 => ?_) (fun c24 => absurd c24 (by intro z; cases z))
    refine ax_iload_n dX3_item_29 rfl ?_
    · refine ax_tin 73 dX3_item_30 (by decide) (by decide) (by rfl) (by decide) ?_
      refine ax_aload dX3_item_73 rfl ?_
      refine ax_get (ci := 1) (k := 1) (T := TX0) dX3_item_75 (ch_I (by assumption)) rfl (by decide) fl_X3_222 rfl ?_
      refine ax_iretD dX3_item_78 rfl ⟨(Nat.le_refl _), (Nat.le_refl _)⟩ ?_ ?_
      · first | rfl | (simp [rIt]; done) | (show _ = (if κ.2.1 22 _ = true then _ else _); simp [c9, c24]; done)
      · rfl
  by_cases w2 : w = nI 2
  · subst w2
    refine ax_aload_n dX3_item_0 rfl ?_
    refine ax_iload_n dX3_item_1 rfl ?_
    refine ax_V1 cv_X3_160 dX3_item_2 ch_O rfl (ok_transactionAt hw ht) (by decide) (Nat.le_refl _) (Nat.le_refl _) (Nat.le_of_ble_eq_true rfl) ?_
    refine ax_astore dX3_item_5 rfl (by decide) ?_
    refine ax_aload dX3_item_7 rfl ?_
    refine ax_ifnonnull 14 dX3_item_9 (by decide) (fun c9 => ?_) (fun c9 => absurd c9 (by intro z; cases z))
    refine ax_aload dX3_item_14 rfl ?_
    refine ax_iload_n dX3_item_16 rfl ?_
    refine ax_V1 cv_X3_214 dX3_item_17 (ch_T (by assumption)) rfl (ok_itemAt hw ht hi) (by decide) (Nat.le_refl _) (Nat.le_refl _) (Nat.le_of_ble_eq_true rfl) ?_
    refine ax_astore dX3_item_20 rfl (by decide) ?_
    refine ax_aload dX3_item_22 rfl ?_
    refine ax_ifnonnull 29 dX3_item_24 (by decide) (fun c24 => ?_) (fun c24 => absurd c24 (by intro z; cases z))
    refine ax_iload_n dX3_item_29 rfl ?_
    · refine ax_tin 79 dX3_item_30 (by decide) (by decide) (by rfl) (by decide) ?_
      refine ax_aload dX3_item_79 rfl ?_
      refine ax_get (ci := 1) (k := 2) (T := TX0) dX3_item_81 (ch_I (by assumption)) rfl (by decide) fl_X3_181 rfl ?_
      refine ax_iretD dX3_item_84 rfl ⟨(Nat.le_refl _), (Nat.le_refl _)⟩ ?_ ?_
      · first | rfl | (simp [rIt]; done) | (show _ = (if κ.2.1 22 _ = true then _ else _); simp [c9, c24]; done)
      · rfl
  by_cases w3 : w = nI 3
  · subst w3
    refine ax_aload_n dX3_item_0 rfl ?_
    refine ax_iload_n dX3_item_1 rfl ?_
    refine ax_V1 cv_X3_160 dX3_item_2 ch_O rfl (ok_transactionAt hw ht) (by decide) (Nat.le_refl _) (Nat.le_refl _) (Nat.le_of_ble_eq_true rfl) ?_
    refine ax_astore dX3_item_5 rfl (by decide) ?_
    refine ax_aload dX3_item_7 rfl ?_
    refine ax_ifnonnull 14 dX3_item_9 (by decide) (fun c9 => ?_) (fun c9 => absurd c9 (by intro z; cases z))
    refine ax_aload dX3_item_14 rfl ?_
    refine ax_iload_n dX3_item_16 rfl ?_
    refine ax_V1 cv_X3_214 dX3_item_17 (ch_T (by assumption)) rfl (ok_itemAt hw ht hi) (by decide) (Nat.le_refl _) (Nat.le_refl _) (Nat.le_of_ble_eq_true rfl) ?_
    refine ax_astore dX3_item_20 rfl (by decide) ?_
    refine ax_aload dX3_item_22 rfl ?_
    refine ax_ifnonnull 29 dX3_item_24 (by decide) (fun c24 => ?_) (fun c24 => absurd c24 (by intro z; cases z))
    refine ax_iload_n dX3_item_29 rfl ?_
    · refine ax_tin 85 dX3_item_30 (by decide) (by decide) (by rfl) (by decide) ?_
      refine ax_aload dX3_item_85 rfl ?_
      refine ax_get (ci := 1) (k := 3) (T := TX0) dX3_item_87 (ch_I (by assumption)) rfl (by decide) fl_X3_223 rfl ?_
      refine ax_iretD dX3_item_90 rfl ⟨(Nat.le_refl _), (Nat.le_refl _)⟩ ?_ ?_
      · first | rfl | (simp [rIt]; done) | (show _ = (if κ.2.1 22 _ = true then _ else _); simp [c9, c24]; done)
      · rfl
  by_cases w4 : w = nI 4
  · subst w4
    refine ax_aload_n dX3_item_0 rfl ?_
    refine ax_iload_n dX3_item_1 rfl ?_
    refine ax_V1 cv_X3_160 dX3_item_2 ch_O rfl (ok_transactionAt hw ht) (by decide) (Nat.le_refl _) (Nat.le_refl _) (Nat.le_of_ble_eq_true rfl) ?_
    refine ax_astore dX3_item_5 rfl (by decide) ?_
    refine ax_aload dX3_item_7 rfl ?_
    refine ax_ifnonnull 14 dX3_item_9 (by decide) (fun c9 => ?_) (fun c9 => absurd c9 (by intro z; cases z))
    refine ax_aload dX3_item_14 rfl ?_
    refine ax_iload_n dX3_item_16 rfl ?_
    refine ax_V1 cv_X3_214 dX3_item_17 (ch_T (by assumption)) rfl (ok_itemAt hw ht hi) (by decide) (Nat.le_refl _) (Nat.le_refl _) (Nat.le_of_ble_eq_true rfl) ?_
    refine ax_astore dX3_item_20 rfl (by decide) ?_
    refine ax_aload dX3_item_22 rfl ?_
    refine ax_ifnonnull 29 dX3_item_24 (by decide) (fun c24 => ?_) (fun c24 => absurd c24 (by intro z; cases z))
    refine ax_iload_n dX3_item_29 rfl ?_
    · refine ax_tin 91 dX3_item_30 (by decide) (by decide) (by rfl) (by decide) ?_
      refine ax_aload dX3_item_91 rfl ?_
      refine ax_get (ci := 1) (k := 4) (T := TX0) dX3_item_93 (ch_I (by assumption)) rfl (by decide) fl_X3_172 rfl ?_
      refine ax_beq 107 dX3_item_96 (by decide) (fun c96 => ?_) (fun c96 => ?_)
      · refine ax_bipush (-9) dX3_item_107 (by decide) ?_
        refine ax_iretD dX3_item_109 rfl ⟨(Nat.le_refl _), (Nat.le_refl _)⟩ ?_ ?_
        · first | rfl | (simp [rIt]; done) | (show _ = (if κ.2.1 22 _ = true then _ else _); simp [c9, c24, c96]; done)
        · rfl
      · refine ax_aload dX3_item_99 rfl ?_
        refine ax_get (ci := 1) (k := 5) (T := TX0) dX3_item_101 (ch_I (by assumption)) rfl (by decide) fl_X3_178 rfl ?_
        refine ax_goto 109 dX3_item_104 (by decide) ?_
        refine ax_iretD dX3_item_109 rfl ⟨(Nat.le_refl _), (Nat.le_refl _)⟩ ?_ ?_
        · first | rfl | (simp [rIt]; done) | (show _ = (if κ.2.1 22 _ = true then _ else _); simp [c9, c24, c96]; done)
        · rfl
  refine ax_aload_n dX3_item_0 rfl ?_
  refine ax_iload_n dX3_item_1 rfl ?_
  refine ax_V1 cv_X3_160 dX3_item_2 ch_O rfl (ok_transactionAt hw ht) (by decide) (Nat.le_refl _) (Nat.le_refl _) (Nat.le_of_ble_eq_true rfl) ?_
  refine ax_astore dX3_item_5 rfl (by decide) ?_
  refine ax_aload dX3_item_7 rfl ?_
  refine ax_ifnonnull 14 dX3_item_9 (by decide) (fun c9 => ?_) (fun c9 => absurd c9 (by intro z; cases z))
  refine ax_aload dX3_item_14 rfl ?_
  refine ax_iload_n dX3_item_16 rfl ?_
  refine ax_V1 cv_X3_214 dX3_item_17 (ch_T (by assumption)) rfl (ok_itemAt hw ht hi) (by decide) (Nat.le_refl _) (Nat.le_refl _) (Nat.le_of_ble_eq_true rfl) ?_
  refine ax_astore dX3_item_20 rfl (by decide) ?_
  refine ax_aload dX3_item_22 rfl ?_
  refine ax_ifnonnull 29 dX3_item_24 (by decide) (fun c24 => ?_) (fun c24 => absurd c24 (by intro z; cases z))
  refine ax_iload_n dX3_item_29 rfl ?_
  · refine ax_tout 110 dX3_item_30 (sw_out 4 (by decide) (fun k hk => by rcases (show k = 0 ∨ k = 1 ∨ k = 2 ∨ k = 3 ∨ k = 4 by omega) with rfl | rfl | rfl | rfl | rfl <;> assumption)) (by decide) ?_
    refine ax_bipush (-2) dX3_item_110 (by decide) ?_
    refine ax_iretD dX3_item_112 rfl ⟨(Nat.le_refl _), (Nat.le_refl _)⟩ ?_ ?_
    · first | rfl | (simp [rIt, w0, w1, w2, w3, w4]; done) | (show _ = (if κ.2.1 22 _ = true then _ else _); simp [c9, c24]; done)
    · rfl
theorem ok_ccopyAt0 {x y : Int32} (hx : ¬ (0 ≤ x ∧ x < nI (κ.1 4 0))) : ax_Ok mX3_copyAt yX3_copyAt 5 0 0 [ax_r (1, 0), ax_i x, ax_i y] (fh (ch κ) ρ) (ax_D (ax_i (-1)) (fh (ch κ) ρ)) := by
  refine ax_Ok.of (by decide) rfl (fun q => by cases q) (Nat.le_of_ble_eq_true rfl) rfl ?_
  refine ax_aload_n dX3_copyAt_0 rfl ?_
  refine ax_iload_n dX3_copyAt_1 rfl ?_
  refine ax_V1 cv_X3_100 dX3_copyAt_2 ch_O rfl (ok_regionAtN hx) (by decide) (Nat.le_refl _) (Nat.le_refl _) (Nat.le_of_ble_eq_true rfl) ?_
  refine ax_astore_n dX3_copyAt_5 rfl (by decide) ?_
  refine ax_aload_n dX3_copyAt_6 rfl ?_
  refine ax_ifnonnull 14 dX3_copyAt_7 (by decide) (fun c7 => absurd c7 (fun z => z rfl)) (fun c7 => ?_)
  refine ax_iconst (-1) dX3_copyAt_10 (by decide) ?_
  refine ax_goto 20 dX3_copyAt_11 (by decide) ?_
  refine ax_iretD dX3_copyAt_20 rfl ⟨(Nat.le_refl _), (Nat.le_refl _)⟩ ?_ ?_
  · rfl
  · rfl
theorem ok_ccopyAt (hw : kf κ) {r : Nat} (hr : r < κ.1 4 0) {y : Int32} : ax_Ok mX3_copyAt yX3_copyAt 5 0 0 [ax_r (1, 0), ax_i (nI r), ax_i y] (fh (ch κ) ρ) (ax_D (ax_i (cMo κ r y)) (fh (ch κ) ρ)) := by
  refine ax_Ok.of (by decide) rfl (fun q => by cases q) (Nat.le_of_ble_eq_true rfl) rfl ?_
  refine ax_aload_n dX3_copyAt_0 rfl ?_
  refine ax_iload_n dX3_copyAt_1 rfl ?_
  refine ax_V1 cv_X3_100 dX3_copyAt_2 ch_O rfl (ok_regionAt hw hr) (by decide) (Nat.le_refl _) (Nat.le_refl _) (Nat.le_of_ble_eq_true rfl) ?_
  refine ax_astore_n dX3_copyAt_5 rfl (by decide) ?_
  refine ax_aload_n dX3_copyAt_6 rfl ?_
  refine ax_ifnonnull 14 dX3_copyAt_7 (by decide) (fun c7 => ?_) (fun c7 => absurd c7 (by intro z; cases z))
  refine ax_aload_n dX3_copyAt_14 rfl ?_
  refine ax_aload_n dX3_copyAt_15 rfl ?_
  refine ax_iload_n dX3_copyAt_16 rfl ?_
  refine ax_V2 cv_X3_142 dX3_copyAt_17 ch_O rfl (ok_machineOfCopy hw (by assumption)) (by decide) (Nat.le_refl _) (Nat.le_refl _) (Nat.le_of_ble_eq_true rfl) ?_
  refine ax_iretD dX3_copyAt_20 rfl ⟨(Nat.le_refl _), (Nat.le_refl _)⟩ ?_ ?_
  · rfl
  · rfl
theorem ok_cmachine0 {x w : Int32} (hx : isM x = false) : ax_Ok mX3_machine yX3_machine 5 0 0 [ax_r (1, 0), ax_i x, ax_i w] (fh (ch κ) ρ) (ax_D (ax_i (-1)) (fh (ch κ) ρ)) := by
  refine ax_Ok.of (by decide) rfl (fun q => by cases q) (Nat.le_of_ble_eq_true rfl) rfl ?_
  refine ax_iload_n dX3_machine_0 rfl ?_
  refine ax_S1 cs_X3_36 dX3_machine_1 (ok_cIsM _) (by decide) (Nat.le_refl _) (Nat.le_refl _) (Nat.le_of_ble_eq_true rfl) ?_
  refine ax_bne 9 dX3_machine_4 (by decide) (fun c4 => absurd c4 (by rw [hx]; simp)) (fun c4 => ?_)
  refine ax_iconst (-1) dX3_machine_7 (by decide) ?_
  refine ax_iretD dX3_machine_8 rfl ⟨(Nat.le_refl _), (Nat.le_refl _)⟩ ?_ ?_
  · rfl
  · rfl
def cMa2 (κ : ax_R) (m : Nat) (w : Int32) : Int32 := if w = nI 0 then ax_b (κ.2.1 0 m) else if w = nI 1 then ax_b (κ.2.1 1 m) else if w = nI 2 then nI ((List.range' 0 (κ.1 4 0)).countP (fun r => pm κ r (fun _ => true) m)) else if w = nI 3 then nI (cRw κ (fun x => decide (x = m))) else -2
theorem ok_cmachine (hw : kf κ) {m : Nat} (hm : m < 6) (w : Int32) : ax_Ok mX3_machine yX3_machine 5 0 0 [ax_r (1, 0), ax_i (nI m), ax_i w] (fh (ch κ) ρ) (ax_D (ax_i (cMa2 κ m w)) (fh (ch κ) ρ)) := by
  refine ax_Ok.of (by decide) rfl (fun q => by cases q) (Nat.le_of_ble_eq_true rfl) rfl ?_
  have hM : isM (nI m) = true := isM_n hm
  by_cases w0 : w = nI 0
  · subst w0
    refine ax_iload_n dX3_machine_0 rfl ?_
    refine ax_S1 cs_X3_36 dX3_machine_1 (ok_cIsM _) (by decide) (Nat.le_refl _) (Nat.le_refl _) (Nat.le_of_ble_eq_true rfl) ?_
    refine ax_bne 9 dX3_machine_4 (by decide) (fun c4 => ?_) (fun c4 => absurd c4 (by rw [hM]; simp))
    refine ax_iload_n dX3_machine_9 rfl ?_
    · refine ax_tin 40 dX3_machine_10 (by decide) (by decide) (by rfl) (by decide) ?_
      refine ax_aload_n dX3_machine_40 rfl ?_
      refine ax_iload_n dX3_machine_41 rfl ?_
      refine ax_V1 cv_X3_65 dX3_machine_42 ch_O rfl (ok_isUp (by first | omega | exact hw.m6 _ | exact hw.co6 _)) (by decide) (Nat.le_refl _) (Nat.le_refl _) (Nat.le_of_ble_eq_true rfl) ?_
      refine ax_beq 52 dX3_machine_45 (by decide) (fun c45 => ?_) (fun c45 => ?_)
      · refine ax_iconst (nI 0) dX3_machine_52 (by decide) ?_
        refine ax_iretD dX3_machine_53 rfl ⟨(Nat.le_refl _), (Nat.le_refl _)⟩ ?_ ?_
        · first | rfl | (simp [cMa2]; done) | (show _ = ax_b _; simp only [c4, c45]; rfl)
        · rfl
      · refine ax_iconst (nI 1) dX3_machine_48 (by decide) ?_
        refine ax_goto 53 dX3_machine_49 (by decide) ?_
        refine ax_iretD dX3_machine_53 rfl ⟨(Nat.le_refl _), (Nat.le_refl _)⟩ ?_ ?_
        · first | rfl | (simp [cMa2]; done) | (show _ = ax_b _; simp only [c4, c45]; rfl)
        · rfl
  by_cases w1 : w = nI 1
  · subst w1
    refine ax_iload_n dX3_machine_0 rfl ?_
    refine ax_S1 cs_X3_36 dX3_machine_1 (ok_cIsM _) (by decide) (Nat.le_refl _) (Nat.le_refl _) (Nat.le_of_ble_eq_true rfl) ?_
    refine ax_bne 9 dX3_machine_4 (by decide) (fun c4 => ?_) (fun c4 => absurd c4 (by rw [hM]; simp))
    refine ax_iload_n dX3_machine_9 rfl ?_
    · refine ax_tin 54 dX3_machine_10 (by decide) (by decide) (by rfl) (by decide) ?_
      refine ax_aload_n dX3_machine_54 rfl ?_
      refine ax_iload_n dX3_machine_55 rfl ?_
      refine ax_V1 cv_X3_43 dX3_machine_56 ch_O rfl (ok_isMember (by first | omega | exact hw.m6 _ | exact hw.co6 _)) (by decide) (Nat.le_refl _) (Nat.le_refl _) (Nat.le_of_ble_eq_true rfl) ?_
      refine ax_beq 66 dX3_machine_59 (by decide) (fun c59 => ?_) (fun c59 => ?_)
      · refine ax_iconst (nI 0) dX3_machine_66 (by decide) ?_
        refine ax_iretD dX3_machine_67 rfl ⟨(Nat.le_refl _), (Nat.le_refl _)⟩ ?_ ?_
        · first | rfl | (simp [cMa2]; done) | (show _ = ax_b _; simp only [c4, c59]; rfl)
        · rfl
      · refine ax_iconst (nI 1) dX3_machine_62 (by decide) ?_
        refine ax_goto 67 dX3_machine_63 (by decide) ?_
        refine ax_iretD dX3_machine_67 rfl ⟨(Nat.le_refl _), (Nat.le_refl _)⟩ ?_ ?_
        · first | rfl | (simp [cMa2]; done) | (show _ = ax_b _; simp only [c4, c59]; rfl)
        · rfl
  by_cases w2 : w = nI 2
  · subst w2
    refine ax_iload_n dX3_machine_0 rfl ?_
    refine ax_S1 cs_X3_36 dX3_machine_1 (ok_cIsM _) (by decide) (Nat.le_refl _) (Nat.le_refl _) (Nat.le_of_ble_eq_true rfl) ?_
    refine ax_bne 9 dX3_machine_4 (by decide) (fun c4 => ?_) (fun c4 => absurd c4 (by rw [hM]; simp))
    refine ax_iload_n dX3_machine_9 rfl ?_
    · refine ax_tin 68 dX3_machine_10 (by decide) (by decide) (by rfl) (by decide) ?_
      refine ax_aload_n dX3_machine_68 rfl ?_
      refine ax_iload_n dX3_machine_69 rfl ?_
      refine ax_V1 cv_X3_136 dX3_machine_70 ch_O rfl (ok_copiesOn hw hm) (by decide) (Nat.le_refl _) (Nat.le_refl _) (Nat.le_of_ble_eq_true rfl) ?_
      refine ax_iretD dX3_machine_73 rfl ⟨(Nat.le_refl _), (Nat.le_refl _)⟩ ?_ ?_
      · first | rfl | (simp [cMa2]; done) | (show _ = ax_b _; simp only [c4]; rfl)
      · rfl
  by_cases w3 : w = nI 3
  · subst w3
    refine ax_iload_n dX3_machine_0 rfl ?_
    refine ax_S1 cs_X3_36 dX3_machine_1 (ok_cIsM _) (by decide) (Nat.le_refl _) (Nat.le_refl _) (Nat.le_of_ble_eq_true rfl) ?_
    refine ax_bne 9 dX3_machine_4 (by decide) (fun c4 => ?_) (fun c4 => absurd c4 (by rw [hM]; simp))
    refine ax_iload_n dX3_machine_9 rfl ?_
    · refine ax_tin 74 dX3_machine_10 (by decide) (by decide) (by rfl) (by decide) ?_
      refine ax_aload_n dX3_machine_74 rfl ?_
      refine ax_iload_n dX3_machine_75 rfl ?_
      refine ax_S1 cs_X3_68 dX3_machine_76 (ok_cbit (by first | omega | exact hw.m6 _)) (by decide) (Nat.le_refl _) (Nat.le_refl _) (Nat.le_of_ble_eq_true rfl) ?_
      refine ax_V1 cv_X3_139 dX3_machine_79 ch_O rfl (ok_recordsWithin hw) (by decide) (Nat.le_refl _) (Nat.le_refl _) (Nat.le_of_ble_eq_true rfl) ?_
      refine ax_iretD dX3_machine_82 rfl ⟨(Nat.le_refl _), (Nat.le_refl _)⟩ ?_ ?_
      · first | rfl | (simp [cMa2]; done) | (show _ = ax_b _; simp only [c4]; rfl)
      · rfl
  refine ax_iload_n dX3_machine_0 rfl ?_
  refine ax_S1 cs_X3_36 dX3_machine_1 (ok_cIsM _) (by decide) (Nat.le_refl _) (Nat.le_refl _) (Nat.le_of_ble_eq_true rfl) ?_
  refine ax_bne 9 dX3_machine_4 (by decide) (fun c4 => ?_) (fun c4 => absurd c4 (by rw [hM]; simp))
  refine ax_iload_n dX3_machine_9 rfl ?_
  · refine ax_tout 83 dX3_machine_10 (sw_out 3 (by decide) (fun k hk => by rcases (show k = 0 ∨ k = 1 ∨ k = 2 ∨ k = 3 by omega) with rfl | rfl | rfl | rfl <;> assumption)) (by decide) ?_
    refine ax_bipush (-2) dX3_machine_83 (by decide) ?_
    refine ax_iretD dX3_machine_85 rfl ⟨(Nat.le_refl _), (Nat.le_refl _)⟩ ?_ ?_
    · first | rfl | (simp [cMa2, w0, w1, w2, w3]; done) | (show _ = ax_b _; simp only [c4]; rfl)
    · rfl
theorem ok_cobject0 {x y z w : Int32} (hx : ¬ (0 ≤ x ∧ x < nI (κ.1 4 0))) : ax_Ok mX3_object yX3_object 6 0 0 [ax_r (1, 0), ax_i x, ax_i y, ax_i z, ax_i w] (fh (ch κ) ρ) (ax_D (ax_i (-1)) (fh (ch κ) ρ)) := by
  refine ax_Ok.of (by decide) rfl (fun q => by cases q) (Nat.le_of_ble_eq_true rfl) rfl ?_
  refine ax_aload_n dX3_object_0 rfl ?_
  refine ax_iload_n dX3_object_1 rfl ?_
  refine ax_V1 cv_X3_100 dX3_object_2 ch_O rfl (ok_regionAtN hx) (by decide) (Nat.le_refl _) (Nat.le_refl _) (Nat.le_of_ble_eq_true rfl) ?_
  refine ax_astore dX3_object_5 rfl (by decide) ?_
  refine ax_aload dX3_object_7 rfl ?_
  refine ax_ifnull 19 dX3_object_9 (by decide) (fun c9 => ?_) (fun c9 => absurd c9 (fun z => z rfl))
  refine ax_iconst (-1) dX3_object_19 (by decide) ?_
  refine ax_iretD dX3_object_20 rfl ⟨(Nat.le_refl _), (Nat.le_refl _)⟩ ?_ ?_
  · rfl
  · rfl
theorem ok_cobject1 (hw : kf κ) {r : Nat} (hr : r < κ.1 4 0) {y z w : Int32} (hz : isO z = false) : ax_Ok mX3_object yX3_object 6 0 0 [ax_r (1, 0), ax_i (nI r), ax_i y, ax_i z, ax_i w] (fh (ch κ) ρ) (ax_D (ax_i (-1)) (fh (ch κ) ρ)) := by
  refine ax_Ok.of (by decide) rfl (fun q => by cases q) (Nat.le_of_ble_eq_true rfl) rfl ?_
  refine ax_aload_n dX3_object_0 rfl ?_
  refine ax_iload_n dX3_object_1 rfl ?_
  refine ax_V1 cv_X3_100 dX3_object_2 ch_O rfl (ok_regionAt hw hr) (by decide) (Nat.le_refl _) (Nat.le_refl _) (Nat.le_of_ble_eq_true rfl) ?_
  refine ax_astore dX3_object_5 rfl (by decide) ?_
  refine ax_aload dX3_object_7 rfl ?_
  refine ax_ifnull 19 dX3_object_9 (by decide) (fun c9 => absurd c9 (by intro z; cases z)) (fun c9 => ?_)
  refine ax_iload_n dX3_object_12 rfl ?_
  refine ax_S1 cs_X3_146 dX3_object_13 (ok_cIsO _) (by decide) (Nat.le_refl _) (Nat.le_refl _) (Nat.le_of_ble_eq_true rfl) ?_
  refine ax_bne 21 dX3_object_16 (by decide) (fun c16 => absurd c16 (by rw [hz]; simp)) (fun c16 => ?_)
  refine ax_iconst (-1) dX3_object_19 (by decide) ?_
  refine ax_iretD dX3_object_20 rfl ⟨(Nat.le_refl _), (Nat.le_refl _)⟩ ?_ ?_
  · rfl
  · rfl
theorem isO_n : ∀ m, m < 8 → isO (nI m) = true := by decide
theorem ok_cobject2 (hw : kf κ) {r q : Nat} (hr : r < κ.1 4 0) (hq : q < 8) {y w : Int32} (hp : cMo κ r y = -9) : ax_Ok mX3_object yX3_object 6 0 0 [ax_r (1, 0), ax_i (nI r), ax_i y, ax_i (nI q), ax_i w] (fh (ch κ) ρ) (ax_D (ax_i (-1)) (fh (ch κ) ρ)) := by
  refine ax_Ok.of (by decide) rfl (fun q => by cases q) (Nat.le_of_ble_eq_true rfl) rfl ?_
  refine ax_aload_n dX3_object_0 rfl ?_
  refine ax_iload_n dX3_object_1 rfl ?_
  refine ax_V1 cv_X3_100 dX3_object_2 ch_O rfl (ok_regionAt hw hr) (by decide) (Nat.le_refl _) (Nat.le_refl _) (Nat.le_of_ble_eq_true rfl) ?_
  refine ax_astore dX3_object_5 rfl (by decide) ?_
  refine ax_aload dX3_object_7 rfl ?_
  refine ax_ifnull 19 dX3_object_9 (by decide) (fun c9 => absurd c9 (by intro z; cases z)) (fun c9 => ?_)
  refine ax_iload_n dX3_object_12 rfl ?_
  refine ax_S1 cs_X3_146 dX3_object_13 (ok_cIsO _) (by decide) (Nat.le_refl _) (Nat.le_refl _) (Nat.le_of_ble_eq_true rfl) ?_
  refine ax_bne 21 dX3_object_16 (by decide) (fun c16 => ?_) (fun c16 => absurd c16 (by rw [isO_n _ hq]; simp))
  refine ax_aload_n dX3_object_21 rfl ?_
  refine ax_aload dX3_object_22 rfl ?_
  refine ax_iload_n dX3_object_24 rfl ?_
  refine ax_V2 cv_X3_142 dX3_object_25 ch_O rfl (ok_machineOfCopy hw (by assumption)) (by decide) (Nat.le_refl _) (Nat.le_refl _) (Nat.le_of_ble_eq_true rfl) ?_
  refine ax_istore dX3_object_28 rfl (by decide) ?_
  refine ax_iload dX3_object_30 rfl ?_
  refine ax_bipush (-9) dX3_object_32 (by decide) ?_
  refine ax_icmp_ne 39 dX3_object_34 (by decide) (fun c34 => absurd c34 (fun z => z hp)) (fun c34 => ?_)
  refine ax_iconst (-1) dX3_object_37 (by decide) ?_
  refine ax_iretD dX3_object_38 rfl ⟨(Nat.le_refl _), (Nat.le_refl _)⟩ ?_ ?_
  · rfl
  · rfl
def cOb (κ : ax_R) (r p q : Nat) (w : Int32) : Int32 := if w = nI 0 then κ.2.2 7 (8 * (6 * r + p) + q) else if w = nI 1 then nI (κ.1 8 (8 * (6 * r + p) + q)) else if w = nI 2 then (if cPr κ r = some p then κ.2.2 9 (8 * r + q) else -9) else if w = nI 3 then nI ((List.range' 0 (κ.1 10 0)).countP (cRo κ r q (κ.1 6 (6 * r + p)))) else -2
theorem ok_cobject (hw : kf κ) {r q p : Nat} (hr : r < κ.1 4 0) (hq : q < 8) (hps : p < κ.1 5 r) {y w : Int32} (hp : cMo κ r y = nI (κ.1 6 (6 * r + p))) : ax_Ok mX3_object yX3_object 6 0 0 [ax_r (1, 0), ax_i (nI r), ax_i y, ax_i (nI q), ax_i w] (fh (ch κ) ρ) (ax_D (ax_i (cOb κ r p q w)) (fh (ch κ) ρ)) := by
  refine ax_Ok.of (by decide) rfl (fun q => by cases q) (Nat.le_of_ble_eq_true rfl) rfl ?_
  have hm6 := hw.m6 (6 * r + p)
  by_cases w0 : w = nI 0
  · subst w0
    refine ax_aload_n dX3_object_0 rfl ?_
    refine ax_iload_n dX3_object_1 rfl ?_
    refine ax_V1 cv_X3_100 dX3_object_2 ch_O rfl (ok_regionAt hw hr) (by decide) (Nat.le_refl _) (Nat.le_refl _) (Nat.le_of_ble_eq_true rfl) ?_
    refine ax_astore dX3_object_5 rfl (by decide) ?_
    refine ax_aload dX3_object_7 rfl ?_
    refine ax_ifnull 19 dX3_object_9 (by decide) (fun c9 => absurd c9 (by intro z; cases z)) (fun c9 => ?_)
    refine ax_iload_n dX3_object_12 rfl ?_
    refine ax_S1 cs_X3_146 dX3_object_13 (ok_cIsO _) (by decide) (Nat.le_refl _) (Nat.le_refl _) (Nat.le_of_ble_eq_true rfl) ?_
    refine ax_bne 21 dX3_object_16 (by decide) (fun c16 => ?_) (fun c16 => absurd c16 (by rw [isO_n _ hq]; simp))
    refine ax_aload_n dX3_object_21 rfl ?_
    refine ax_aload dX3_object_22 rfl ?_
    refine ax_iload_n dX3_object_24 rfl ?_
    refine ax_V2 cv_X3_142 dX3_object_25 ch_O rfl (ok_machineOfCopy hw hr) (by decide) (Nat.le_refl _) (Nat.le_refl _) (Nat.le_of_ble_eq_true rfl) ?_
    rw [hp]
    refine ax_istore dX3_object_28 rfl (by decide) ?_
    refine ax_iload dX3_object_30 rfl ?_
    refine ax_bipush (-9) dX3_object_32 (by decide) ?_
    refine ax_icmp_ne 39 dX3_object_34 (by decide) (fun c34 => ?_) (fun c34 => absurd c34 (nI_ne9 (by omega)))
    refine ax_iload dX3_object_39 rfl ?_
    · refine ax_tin 72 dX3_object_41 (by decide) (by decide) (by rfl) (by decide) ?_
      refine ax_aload dX3_object_72 rfl ?_
      refine ax_get (ci := 2) (k := 4) (T := TX1) dX3_object_74 (ch_R (by first | assumption | exact ik.r hw (by assumption))) rfl (by decide) fl_X3_126 rfl ?_
      refine ax_iload dX3_object_77 rfl ?_
      refine ax_iload_n dX3_object_79 rfl ?_
      refine ax_S2 cs_X3_122 dX3_object_80 (ok_ccell) (by decide) (Nat.le_refl _) (Nat.le_refl _) (Nat.le_of_ble_eq_true rfl) ?_
      refine cl_vv hw dX3_object_83 (by first | assumption | exact ik.r hw (by assumption)) ⟨hps, hq⟩ ?_
      refine ax_iretD dX3_object_84 rfl ⟨(Nat.le_refl _), (Nat.le_refl _)⟩ ?_ ?_
      · first | rfl | (simp [cOb]; done) | (show _ = (if cPr κ r = some p then _ else _); simp [c9, c16, c34]; done)
      · rfl
  by_cases w1 : w = nI 1
  · subst w1
    refine ax_aload_n dX3_object_0 rfl ?_
    refine ax_iload_n dX3_object_1 rfl ?_
    refine ax_V1 cv_X3_100 dX3_object_2 ch_O rfl (ok_regionAt hw hr) (by decide) (Nat.le_refl _) (Nat.le_refl _) (Nat.le_of_ble_eq_true rfl) ?_
    refine ax_astore dX3_object_5 rfl (by decide) ?_
    refine ax_aload dX3_object_7 rfl ?_
    refine ax_ifnull 19 dX3_object_9 (by decide) (fun c9 => absurd c9 (by intro z; cases z)) (fun c9 => ?_)
    refine ax_iload_n dX3_object_12 rfl ?_
    refine ax_S1 cs_X3_146 dX3_object_13 (ok_cIsO _) (by decide) (Nat.le_refl _) (Nat.le_refl _) (Nat.le_of_ble_eq_true rfl) ?_
    refine ax_bne 21 dX3_object_16 (by decide) (fun c16 => ?_) (fun c16 => absurd c16 (by rw [isO_n _ hq]; simp))
    refine ax_aload_n dX3_object_21 rfl ?_
    refine ax_aload dX3_object_22 rfl ?_
    refine ax_iload_n dX3_object_24 rfl ?_
    refine ax_V2 cv_X3_142 dX3_object_25 ch_O rfl (ok_machineOfCopy hw hr) (by decide) (Nat.le_refl _) (Nat.le_refl _) (Nat.le_of_ble_eq_true rfl) ?_
    rw [hp]
    refine ax_istore dX3_object_28 rfl (by decide) ?_
    refine ax_iload dX3_object_30 rfl ?_
    refine ax_bipush (-9) dX3_object_32 (by decide) ?_
    refine ax_icmp_ne 39 dX3_object_34 (by decide) (fun c34 => ?_) (fun c34 => absurd c34 (nI_ne9 (by omega)))
    refine ax_iload dX3_object_39 rfl ?_
    · refine ax_tin 85 dX3_object_41 (by decide) (by decide) (by rfl) (by decide) ?_
      refine ax_aload dX3_object_85 rfl ?_
      refine ax_get (ci := 2) (k := 5) (T := TX1) dX3_object_87 (ch_R (by first | assumption | exact ik.r hw (by assumption))) rfl (by decide) fl_X3_129 rfl ?_
      refine ax_iload dX3_object_90 rfl ?_
      refine ax_iload_n dX3_object_92 rfl ?_
      refine ax_S2 cs_X3_122 dX3_object_93 (ok_ccell) (by decide) (Nat.le_refl _) (Nat.le_refl _) (Nat.le_of_ble_eq_true rfl) ?_
      refine cl_vn hw dX3_object_96 (by first | assumption | exact ik.r hw (by assumption)) ⟨hps, hq⟩ ?_
      refine ax_iretD dX3_object_97 rfl ⟨(Nat.le_refl _), (Nat.le_refl _)⟩ ?_ ?_
      · first | rfl | (simp [cOb]; done) | (show _ = (if cPr κ r = some p then _ else _); simp [c9, c16, c34]; done)
      · rfl
  by_cases w2 : w = nI 2
  · subst w2
    refine ax_aload_n dX3_object_0 rfl ?_
    refine ax_iload_n dX3_object_1 rfl ?_
    refine ax_V1 cv_X3_100 dX3_object_2 ch_O rfl (ok_regionAt hw hr) (by decide) (Nat.le_refl _) (Nat.le_refl _) (Nat.le_of_ble_eq_true rfl) ?_
    refine ax_astore dX3_object_5 rfl (by decide) ?_
    refine ax_aload dX3_object_7 rfl ?_
    refine ax_ifnull 19 dX3_object_9 (by decide) (fun c9 => absurd c9 (by intro z; cases z)) (fun c9 => ?_)
    refine ax_iload_n dX3_object_12 rfl ?_
    refine ax_S1 cs_X3_146 dX3_object_13 (ok_cIsO _) (by decide) (Nat.le_refl _) (Nat.le_refl _) (Nat.le_of_ble_eq_true rfl) ?_
    refine ax_bne 21 dX3_object_16 (by decide) (fun c16 => ?_) (fun c16 => absurd c16 (by rw [isO_n _ hq]; simp))
    refine ax_aload_n dX3_object_21 rfl ?_
    refine ax_aload dX3_object_22 rfl ?_
    refine ax_iload_n dX3_object_24 rfl ?_
    refine ax_V2 cv_X3_142 dX3_object_25 ch_O rfl (ok_machineOfCopy hw hr) (by decide) (Nat.le_refl _) (Nat.le_refl _) (Nat.le_of_ble_eq_true rfl) ?_
    rw [hp]
    refine ax_istore dX3_object_28 rfl (by decide) ?_
    refine ax_iload dX3_object_30 rfl ?_
    refine ax_bipush (-9) dX3_object_32 (by decide) ?_
    refine ax_icmp_ne 39 dX3_object_34 (by decide) (fun c34 => ?_) (fun c34 => absurd c34 (nI_ne9 (by omega)))
    refine ax_iload dX3_object_39 rfl ?_
    · refine ax_tin 98 dX3_object_41 (by decide) (by decide) (by rfl) (by decide) ?_
      refine ax_iload dX3_object_98 rfl ?_
      refine ax_aload_n dX3_object_100 rfl ?_
      refine ax_aload dX3_object_101 rfl ?_
      refine ax_V1 cv_X3_104 dX3_object_103 ch_O rfl (ok_primaryOf hw (by first | assumption | exact ik.r hw (by assumption))) (by decide) (Nat.le_refl _) (Nat.le_refl _) (Nat.le_of_ble_eq_true rfl) ?_
      refine ax_icmp_ne 119 dX3_object_106 (by decide) (fun c106 => ?_) (fun c106 => ?_)
      · rw [oM_eq hw hps] at c106
        refine ax_bipush (-9) dX3_object_119 (by decide) ?_
        refine ax_iretD dX3_object_121 rfl ⟨(Nat.le_refl _), (Nat.le_refl _)⟩ ?_ ?_
        · first | rfl | (simp [cOb]; done) | (show _ = (if cPr κ r = some p then _ else _); simp [c9, c16, c34, c106]; done)
        · rfl
      · rw [oM_eq hw hps] at c106
        refine ax_aload dX3_object_109 rfl ?_
        refine ax_get (ci := 2) (k := 6) (T := TX1) dX3_object_111 (ch_R (by first | assumption | exact ik.r hw (by assumption))) rfl (by decide) fl_X3_149 rfl ?_
        refine ax_iload_n dX3_object_114 rfl ?_
        refine cl_lk dX3_object_115 (by first | assumption | exact ik.r hw (by assumption)) hq ?_
        refine ax_goto 121 dX3_object_116 (by decide) ?_
        refine ax_iretD dX3_object_121 rfl ⟨(Nat.le_refl _), (Nat.le_refl _)⟩ ?_ ?_
        · first | rfl | (simp [cOb]; done) | (show _ = (if cPr κ r = some p then _ else _); simp [c9, c16, c34, c106]; done)
        · rfl
  by_cases w3 : w = nI 3
  · subst w3
    refine ax_aload_n dX3_object_0 rfl ?_
    refine ax_iload_n dX3_object_1 rfl ?_
    refine ax_V1 cv_X3_100 dX3_object_2 ch_O rfl (ok_regionAt hw hr) (by decide) (Nat.le_refl _) (Nat.le_refl _) (Nat.le_of_ble_eq_true rfl) ?_
    refine ax_astore dX3_object_5 rfl (by decide) ?_
    refine ax_aload dX3_object_7 rfl ?_
    refine ax_ifnull 19 dX3_object_9 (by decide) (fun c9 => absurd c9 (by intro z; cases z)) (fun c9 => ?_)
    refine ax_iload_n dX3_object_12 rfl ?_
    refine ax_S1 cs_X3_146 dX3_object_13 (ok_cIsO _) (by decide) (Nat.le_refl _) (Nat.le_refl _) (Nat.le_of_ble_eq_true rfl) ?_
    refine ax_bne 21 dX3_object_16 (by decide) (fun c16 => ?_) (fun c16 => absurd c16 (by rw [isO_n _ hq]; simp))
    refine ax_aload_n dX3_object_21 rfl ?_
    refine ax_aload dX3_object_22 rfl ?_
    refine ax_iload_n dX3_object_24 rfl ?_
    refine ax_V2 cv_X3_142 dX3_object_25 ch_O rfl (ok_machineOfCopy hw hr) (by decide) (Nat.le_refl _) (Nat.le_refl _) (Nat.le_of_ble_eq_true rfl) ?_
    rw [hp]
    refine ax_istore dX3_object_28 rfl (by decide) ?_
    refine ax_iload dX3_object_30 rfl ?_
    refine ax_bipush (-9) dX3_object_32 (by decide) ?_
    refine ax_icmp_ne 39 dX3_object_34 (by decide) (fun c34 => ?_) (fun c34 => absurd c34 (nI_ne9 (by omega)))
    refine ax_iload dX3_object_39 rfl ?_
    · refine ax_tin 122 dX3_object_41 (by decide) (by decide) (by rfl) (by decide) ?_
      refine ax_aload_n dX3_object_122 rfl ?_
      refine ax_aload dX3_object_123 rfl ?_
      refine ax_iload_n dX3_object_125 rfl ?_
      refine ax_iload dX3_object_126 rfl ?_
      refine ax_V3 cv_X3_152 dX3_object_128 ch_O rfl (ok_recordsOf hw hr hq hm6) (by decide) (Nat.le_refl _) (Nat.le_refl _) (Nat.le_of_ble_eq_true rfl) ?_
      refine ax_iretD dX3_object_131 rfl ⟨(Nat.le_refl _), (Nat.le_refl _)⟩ ?_ ?_
      · first | rfl | (simp [cOb]; done) | (show _ = (if cPr κ r = some p then _ else _); simp [c9, c16, c34]; done)
      · rfl
  refine ax_aload_n dX3_object_0 rfl ?_
  refine ax_iload_n dX3_object_1 rfl ?_
  refine ax_V1 cv_X3_100 dX3_object_2 ch_O rfl (ok_regionAt hw hr) (by decide) (Nat.le_refl _) (Nat.le_refl _) (Nat.le_of_ble_eq_true rfl) ?_
  refine ax_astore dX3_object_5 rfl (by decide) ?_
  refine ax_aload dX3_object_7 rfl ?_
  refine ax_ifnull 19 dX3_object_9 (by decide) (fun c9 => absurd c9 (by intro z; cases z)) (fun c9 => ?_)
  refine ax_iload_n dX3_object_12 rfl ?_
  refine ax_S1 cs_X3_146 dX3_object_13 (ok_cIsO _) (by decide) (Nat.le_refl _) (Nat.le_refl _) (Nat.le_of_ble_eq_true rfl) ?_
  refine ax_bne 21 dX3_object_16 (by decide) (fun c16 => ?_) (fun c16 => absurd c16 (by rw [isO_n _ hq]; simp))
  refine ax_aload_n dX3_object_21 rfl ?_
  refine ax_aload dX3_object_22 rfl ?_
  refine ax_iload_n dX3_object_24 rfl ?_
  refine ax_V2 cv_X3_142 dX3_object_25 ch_O rfl (ok_machineOfCopy hw hr) (by decide) (Nat.le_refl _) (Nat.le_refl _) (Nat.le_of_ble_eq_true rfl) ?_
  rw [hp]
  refine ax_istore dX3_object_28 rfl (by decide) ?_
  refine ax_iload dX3_object_30 rfl ?_
  refine ax_bipush (-9) dX3_object_32 (by decide) ?_
  refine ax_icmp_ne 39 dX3_object_34 (by decide) (fun c34 => ?_) (fun c34 => absurd c34 (nI_ne9 (by omega)))
  refine ax_iload dX3_object_39 rfl ?_
  · refine ax_tout 132 dX3_object_41 (sw_out 3 (by decide) (fun k hk => by rcases (show k = 0 ∨ k = 1 ∨ k = 2 ∨ k = 3 by omega) with rfl | rfl | rfl | rfl <;> assumption)) (by decide) ?_
    refine ax_bipush (-2) dX3_object_132 (by decide) ?_
    refine ax_iretD dX3_object_134 rfl ⟨(Nat.le_refl _), (Nat.le_refl _)⟩ ?_ ?_
    · first | rfl | (simp [cOb, w0, w1, w2, w3]; done) | (show _ = (if cPr κ r = some p then _ else _); simp [c9, c16, c34]; done)
    · rfl
theorem ok_cfail0 {x : Int32} (hx : isM x = false) : ax_Ok mX3_fail yX3_fail 3 0 0 [ax_r (1, 0), ax_i x] (fh (ch κ) ρ) (ax_D (ax_i (-1)) (fh (ch κ) ρ)) := by
  refine ax_Ok.of (by decide) rfl (fun q => by cases q) (Nat.le_of_ble_eq_true rfl) rfl ?_
  refine ax_iload_n dX3_fail_0 rfl ?_
  refine ax_S1 cs_X3_36 dX3_fail_1 (ok_cIsM _) (by decide) (Nat.le_refl _) (Nat.le_refl _) (Nat.le_of_ble_eq_true rfl) ?_
  refine ax_bne 9 dX3_fail_4 (by decide) (fun c4 => absurd c4 (by rw [hx]; simp)) (fun c4 => ?_)
  refine ax_iconst (-1) dX3_fail_7 (by decide) ?_
  refine ax_iretD dX3_fail_8 rfl ⟨(Nat.le_refl _), (Nat.le_refl _)⟩ ?_ ?_
  · rfl
  · rfl
theorem ok_cfail {m : Nat} (hm : m < 6) : ax_Ok mX3_fail yX3_fail 3 0 0 [ax_r (1, 0), ax_i (nI m)] (fh (ch κ) ρ) (ax_D (ax_i (rFa κ m).1) (fh (ch (rFa κ m).2) ρ)) := by
  refine ax_Ok.of (by decide) rfl (fun q => by cases q) (Nat.le_of_ble_eq_true rfl) rfl ?_
  refine ax_iload_n dX3_fail_0 rfl ?_
  refine ax_S1 cs_X3_36 dX3_fail_1 (ok_cIsM _) (by decide) (Nat.le_refl _) (Nat.le_refl _) (Nat.le_of_ble_eq_true rfl) ?_
  refine ax_bne 9 dX3_fail_4 (by decide) (fun c4 => ?_) (fun c4 => absurd c4 (by rw [isM_n hm]; simp))
  refine ax_aload_n dX3_fail_9 rfl ?_
  refine ax_iload_n dX3_fail_10 rfl ?_
  refine ax_V1 cv_X3_65 dX3_fail_11 ch_O rfl (ok_isUp (by first | omega | exact hw.m6 _ | exact hw.co6 _)) (by decide) (Nat.le_refl _) (Nat.le_refl _) (Nat.le_of_ble_eq_true rfl) ?_
  refine ax_bne 20 dX3_fail_14 (by decide) (fun c14 => ?_) (fun c14 => ?_)
  · refine ax_aload_n dX3_fail_20 rfl ?_
    refine ax_dup dX3_fail_21 rfl ?_
    refine ax_get (ci := 4) (k := 4) (T := TX3) dX3_fail_22 ch_O rfl (by decide) fl_X3_26 rfl ?_
    refine ax_iload_n dX3_fail_25 rfl ?_
    refine ax_S1 cs_X3_68 dX3_fail_26 (ok_cbit (by first | omega | exact hw.m6 _)) (by decide) (Nat.le_refl _) (Nat.le_refl _) (Nat.le_of_ble_eq_true rfl) ?_
    refine ax_iconst (-1) dX3_fail_29 (by decide) ?_
    refine ax_ixor (nI (mk (fun x => decide (x = m))) ^^^ -1) dX3_fail_30 (rfl) ?_
    refine ax_iand (nI (mk (fun x => κ.2.1 0 x && !decide (x = m)))) dX3_fail_31 (k_nt _ _) ?_
    refine ax_put (ci := 4) (k := 4) (T := TX3) (ty := .int) dX3_fail_32 ch_O rfl (by decide) (Nat.le_of_ble_eq_true rfl) fl_X3_26 rfl (by decide +kernel) (fun _ => rfl) (fun _ => rfl) cu_up ?_
    refine ax_aload_n dX3_fail_35 rfl ?_
    refine ax_get (ci := 4) (k := 4) (T := TX3) dX3_fail_36 ch_O rfl (by decide) fl_X3_26 rfl ?_
    refine ax_S1 cs_X3_72 dX3_fail_39 (ok_bitCount (mk_lt _)) (by decide) (Nat.le_refl _) (Nat.le_refl _) (Nat.le_of_ble_eq_true rfl) ?_
    rw [mk_pc]
    refine ax_iretD dX3_fail_42 rfl ⟨(Nat.le_refl _), (Nat.le_refl _)⟩ ?_ ?_
    · first | (simp [rFa, c4, c14]; done) | (simp [rFa, c4, c14]; rfl)
    · simp [rFa, c4, c14]
  · refine ax_bipush (-3) dX3_fail_17 (by decide) ?_
    refine ax_iretD dX3_fail_19 rfl ⟨(Nat.le_refl _), (Nat.le_refl _)⟩ ?_ ?_
    · first | (simp [rFa, c4, c14]; done) | (simp [rFa, c4, c14]; rfl)
    · simp [rFa, c4, c14]
def cDr (κ : ax_R) (t : Nat) : Int32 × ax_R := if cEn κ t = 0 then (8, nu (nu κ 12 t 8) 44 t 0) else (cEn κ t, κ)
theorem ok_cdrop0 {x : Int32} (hx : ¬ (0 ≤ x ∧ x < nI (κ.1 10 0))) : ax_Ok mX3_drop yX3_drop 5 0 0 [ax_r (1, 0), ax_i x] (fh (ch κ) ρ) (ax_D (ax_i (-1)) (fh (ch κ) ρ)) := by
  refine ax_Ok.of (by decide) rfl (fun q => by cases q) (Nat.le_of_ble_eq_true rfl) rfl ?_
  refine ax_aload_n dX3_drop_0 rfl ?_
  refine ax_iload_n dX3_drop_1 rfl ?_
  refine ax_V1 cv_X3_160 dX3_drop_2 ch_O rfl (ok_transactionAtN hx) (by decide) (Nat.le_refl _) (Nat.le_refl _) (Nat.le_of_ble_eq_true rfl) ?_
  refine ax_astore_n dX3_drop_5 rfl (by decide) ?_
  refine ax_aload_n dX3_drop_6 rfl ?_
  refine ax_ifnonnull 12 dX3_drop_7 (by decide) (fun c7 => absurd c7 (fun z => z rfl)) (fun c7 => ?_)
  refine ax_iconst (-1) dX3_drop_10 (by decide) ?_
  refine ax_iretD dX3_drop_11 rfl ⟨(Nat.le_refl _), (Nat.le_refl _)⟩ ?_ ?_
  · rfl
  · rfl
theorem ok_cdrop (hw : kf κ) {t : Nat} (ht : t < κ.1 10 0) : ax_Ok mX3_drop yX3_drop 5 0 0 [ax_r (1, 0), ax_i (nI t)] (fh (ch κ) ρ) (ax_D (ax_i (cDr κ t).1) (fh (ch (cDr κ t).2) ρ)) := by
  refine ax_Ok.of (by decide) rfl (fun q => by cases q) (Nat.le_of_ble_eq_true rfl) rfl ?_
  refine ax_aload_n dX3_drop_0 rfl ?_
  refine ax_iload_n dX3_drop_1 rfl ?_
  refine ax_V1 cv_X3_160 dX3_drop_2 ch_O rfl (ok_transactionAt hw ht) (by decide) (Nat.le_refl _) (Nat.le_refl _) (Nat.le_of_ble_eq_true rfl) ?_
  refine ax_astore_n dX3_drop_5 rfl (by decide) ?_
  refine ax_aload_n dX3_drop_6 rfl ?_
  refine ax_ifnonnull 12 dX3_drop_7 (by decide) (fun c7 => ?_) (fun c7 => absurd c7 (by intro z; cases z))
  refine ax_aload_n dX3_drop_12 rfl ?_
  refine ax_aload_n dX3_drop_13 rfl ?_
  refine ax_V1 cv_X3_190 dX3_drop_14 ch_O rfl (ok_endingRefusal hw ht) (by decide) (Nat.le_refl _) (Nat.le_refl _) (Nat.le_of_ble_eq_true rfl) ?_
  refine ax_istore_n dX3_drop_17 rfl (by decide) ?_
  refine ax_iload_n dX3_drop_18 rfl ?_
  refine ax_if_eq 24 dX3_drop_19 (by decide) (fun c19 => ?_) (fun c19 => ?_)
  · refine ax_aload_n dX3_drop_24 rfl ?_
    refine ax_bipush (nI 8) dX3_drop_25 (by decide) ?_
    refine ax_V1v cv_X3_89 dX3_drop_27 (ch_T (by assumption)) rfl (ok_enter ht) (by decide) (Nat.le_refl _) (Nat.le_refl _) (Nat.le_of_ble_eq_true rfl) ?_
    refine ax_aload_n dX3_drop_30 rfl ?_
    refine ax_get (ci := 3) (k := 3) (T := TX2) dX3_drop_31 (ch_T (by assumption)) rfl (by decide) fl_X3_83 rfl ?_
    refine ax_iretD dX3_drop_34 rfl ⟨(Nat.le_refl _), (Nat.le_refl _)⟩ ?_ ?_
    · first | (simp [cDr, c7, c19]; done) | (simp [cDr, nu, c7, c19]; rfl)
    · simp [cDr, c7, c19]
  · refine ax_iload_n dX3_drop_22 rfl ?_
    refine ax_iretD dX3_drop_23 rfl ⟨(Nat.le_refl _), (Nat.le_refl _)⟩ ?_ ?_
    · first | (simp [cDr, c7, c19]; done) | (simp [cDr, nu, c7, c19]; rfl)
    · simp [cDr, c7, c19]
theorem lp_rwl (hw : kf κ) {t : Nat} (ht : t < κ.1 10 0) : ∀ (m : Nat) (i : Nat) (V : Bool), i + m = κ.1 14 t → (List.range' (8 * t + i) m).all (fun k => decide (κ.2.2 32 (8 * κ.1 18 k + κ.1 19 k) = κ.2.2 20 k)) = V → ax_Z mX3_readWhatWasLeft 4 0 0 (ax_D (ax_i (ax_b V)) (fh (ch κ) ρ)) 2 [some (ax_r (1, 0)), some (ax_r (8, t)), some (ax_i (nI i)), none] [] (fh (ch κ) ρ) 0 0 := by
  intro m
  induction m with
  | zero =>
    intro i V hk hV
    have h8 := hw.i8 t
    refine ax_iload_n dX3_readWhatWasLeft_2 rfl ?_
    refine ax_aload_n dX3_readWhatWasLeft_3 rfl ?_
    refine ax_get (ci := 3) (k := 2) (T := TX2) dX3_readWhatWasLeft_4 (ch_T (by assumption)) rfl (by decide) fl_X3_205 rfl ?_
    refine ax_V0 cv_X3_46 dX3_readWhatWasLeft_7 (ch_lI (by assumption)) rfl (ok_szI (by assumption)) (by decide) (Nat.le_refl _) (Nat.le_refl _) (Nat.le_of_ble_eq_true rfl) ?_
    refine ax_nge 59 dX3_readWhatWasLeft_10 (by decide) (by omega) (by omega) (fun c10 => ?_) (fun c10 => absurd c10 (by omega))
    refine ax_iconst (ax_b true) dX3_readWhatWasLeft_59 (by decide) ?_
    refine ax_bret dX3_readWhatWasLeft_60 rfl ⟨(Nat.le_refl _), (Nat.le_refl _)⟩ ?_ ?_
    · rw [← hV]; rfl
    · rfl
  | succ m ih =>
    intro i V hk hV
    have h8 := hw.i8 t
    have hik : ik κ (8 * t + i) := ik.of hw ht (by omega)
    have hir := ik.r hw hik
    have ho := hw.o8 (8 * t + i)
    have hr6 := hw.r6 (8 * t + i)
    refine ax_iload_n dX3_readWhatWasLeft_2 rfl ?_
    refine ax_aload_n dX3_readWhatWasLeft_3 rfl ?_
    refine ax_get (ci := 3) (k := 2) (T := TX2) dX3_readWhatWasLeft_4 (ch_T (by assumption)) rfl (by decide) fl_X3_205 rfl ?_
    refine ax_V0 cv_X3_46 dX3_readWhatWasLeft_7 (ch_lI (by assumption)) rfl (ok_szI (by assumption)) (by decide) (Nat.le_refl _) (Nat.le_refl _) (Nat.le_of_ble_eq_true rfl) ?_
    refine ax_nge 59 dX3_readWhatWasLeft_10 (by decide) (by omega) (by omega) (fun c10 => absurd c10 (by omega)) (fun c10 => ?_)
    refine ax_aload_n dX3_readWhatWasLeft_13 rfl ?_
    refine ax_get (ci := 3) (k := 2) (T := TX2) dX3_readWhatWasLeft_14 (ch_T (by assumption)) rfl (by decide) fl_X3_205 rfl ?_
    refine ax_iload_n dX3_readWhatWasLeft_17 rfl ?_
    refine ax_V1 cv_X3_77 dX3_readWhatWasLeft_18 (ch_lI (by assumption)) rfl (ok_geI hw (by assumption) (by first | assumption | omega)) (by decide) (Nat.le_refl _) (Nat.le_refl _) (Nat.le_of_ble_eq_true rfl) ?_
    refine ax_cast (ci := 1) dX3_readWhatWasLeft_21 cl_X3_173 (ch_I (by assumption)) rfl ?_
    refine ax_astore_n dX3_readWhatWasLeft_24 rfl (by decide) ?_
    refine ax_aload_n dX3_readWhatWasLeft_25 rfl ?_
    refine ax_get (ci := 4) (k := 3) (T := TX3) dX3_readWhatWasLeft_26 ch_O rfl (by decide) fl_X3_22 rfl ?_
    refine ax_aload_n dX3_readWhatWasLeft_29 rfl ?_
    refine ax_get (ci := 1) (k := 0) (T := TX0) dX3_readWhatWasLeft_30 (ch_I (by assumption)) rfl (by decide) fl_X3_218 rfl ?_
    refine ax_get (ci := 2) (k := 0) (T := TX1) dX3_readWhatWasLeft_33 (ch_R (by first | assumption | exact ik.r hw (by assumption))) rfl (by decide) fl_X3_62 rfl ?_
    refine ax_aload_n dX3_readWhatWasLeft_36 rfl ?_
    refine ax_get (ci := 1) (k := 1) (T := TX0) dX3_readWhatWasLeft_37 (ch_I (by assumption)) rfl (by decide) fl_X3_222 rfl ?_
    refine ax_S2 cs_X3_122 dX3_readWhatWasLeft_40 (ok_ccell) (by decide) (Nat.le_refl _) (Nat.le_refl _) (Nat.le_of_ble_eq_true rfl) ?_
    rw [Nat.mul_comm (κ.1 18 (8 * t + i)) 8]
    refine cl_mm dX3_readWhatWasLeft_43 (by omega) ?_
    refine ax_aload_n dX3_readWhatWasLeft_44 rfl ?_
    refine ax_get (ci := 1) (k := 2) (T := TX0) dX3_readWhatWasLeft_45 (ch_I (by assumption)) rfl (by decide) fl_X3_181 rfl ?_
    refine ax_icmp_eq 53 dX3_readWhatWasLeft_48 (by decide) (fun c48 => ?_) (fun c48 => ?_)
    · refine ax_iincn (n := 1) dX3_readWhatWasLeft_53 rfl (by decide) rfl ?_
      refine ax_goto 2 dX3_readWhatWasLeft_56 (by decide) ?_
      refine ax_fg [true, true, true, false] rfl ?_
      exact ih (i + 1) V (by omega) (by rw [← hV, List.range'_succ, List.all_cons]; simp [c48, Nat.add_assoc])
    · refine ax_iconst (ax_b false) dX3_readWhatWasLeft_51 (by decide) ?_
      refine ax_bret dX3_readWhatWasLeft_52 rfl ⟨(Nat.le_refl _), (Nat.le_refl _)⟩ ?_ ?_
      · rw [← hV, List.range'_succ, List.all_cons]; simp [c10, c48]
      · rfl
theorem ok_readWhatWasLeft (hw : kf κ) {t : Nat} (ht : t < κ.1 10 0) : ax_Ok mX3_readWhatWasLeft yX3_readWhatWasLeft 4 0 0 [ax_r (1, 0), ax_r (8, t)] (fh (ch κ) ρ) (ax_D (ax_i (ax_b (rKa κ t))) (fh (ch κ) ρ)) := by
  refine ax_Ok.of (by decide) rfl (fun q => by cases q) (Nat.le_of_ble_eq_true rfl) rfl ?_
  refine ax_iconst (nI 0) dX3_readWhatWasLeft_0 (by decide) ?_
  refine ax_istore_n dX3_readWhatWasLeft_1 rfl (by decide) ?_
  exact lp_rwl hw ht (κ.1 14 t) 0 _ (Nat.zero_add _) rfl
def cKb (κ : ax_R) (i : Nat) : ax_R := if κ.2.1 22 i = true then ru κ 32 (8 * κ.1 18 i + κ.1 19 i) (κ.2.2 23 i) else κ
theorem cKb_1 {i k j : Nat} : (cKb κ i).1 k j = κ.1 k j := by unfold cKb; split <;> rfl
theorem kf_kb (hw : kf κ) {i : Nat} : kf (cKb κ i) := by
  unfold cKb
  split
  · exact kf_mm hw
  · exact hw
theorem lp_rep {t : Nat} : ∀ (m : Nat) (κ : ax_R) (hw : kf κ) (ht : t < κ.1 10 0) (i : Nat) (V : ax_R), i + m = κ.1 14 t → (List.range' (8 * t + i) m).foldl cKb κ = V → ax_Z mX3_replay 4 0 0 (ax_DV (fh (ch V) ρ)) 2 [some (ax_r (1, 0)), some (ax_r (8, t)), some (ax_i (nI i)), none] [] (fh (ch κ) ρ) 0 0 := by
  intro m
  induction m with
  | zero =>
    intro κ hw ht i V hk hV
    have h8 := hw.i8 t
    refine ax_iload_n dX3_replay_2 rfl ?_
    refine ax_aload_n dX3_replay_3 rfl ?_
    refine ax_get (ci := 3) (k := 2) (T := TX2) dX3_replay_4 (ch_T (by assumption)) rfl (by decide) fl_X3_205 rfl ?_
    refine ax_V0 cv_X3_46 dX3_replay_7 (ch_lI (by assumption)) rfl (ok_szI (by assumption)) (by decide) (Nat.le_refl _) (Nat.le_refl _) (Nat.le_of_ble_eq_true rfl) ?_
    refine ax_nge 61 dX3_replay_10 (by decide) (by omega) (by omega) (fun c10 => ?_) (fun c10 => absurd c10 (by omega))
    refine ax_vretD dX3_replay_61 rfl ⟨(Nat.le_refl _), (Nat.le_refl _)⟩ ?_
    rw [← hV]; rfl
  | succ m ih =>
    intro κ hw ht i V hk hV
    have h8 := hw.i8 t
    have hik : ik κ (8 * t + i) := ik.of hw ht (by omega)
    have hir := ik.r hw hik
    have ho := hw.o8 (8 * t + i)
    have hr6 := hw.r6 (8 * t + i)
    refine ax_iload_n dX3_replay_2 rfl ?_
    refine ax_aload_n dX3_replay_3 rfl ?_
    refine ax_get (ci := 3) (k := 2) (T := TX2) dX3_replay_4 (ch_T (by assumption)) rfl (by decide) fl_X3_205 rfl ?_
    refine ax_V0 cv_X3_46 dX3_replay_7 (ch_lI (by assumption)) rfl (ok_szI (by assumption)) (by decide) (Nat.le_refl _) (Nat.le_refl _) (Nat.le_of_ble_eq_true rfl) ?_
    refine ax_nge 61 dX3_replay_10 (by decide) (by omega) (by omega) (fun c10 => absurd c10 (by omega)) (fun c10 => ?_)
    refine ax_aload_n dX3_replay_13 rfl ?_
    refine ax_get (ci := 3) (k := 2) (T := TX2) dX3_replay_14 (ch_T (by assumption)) rfl (by decide) fl_X3_205 rfl ?_
    refine ax_iload_n dX3_replay_17 rfl ?_
    refine ax_V1 cv_X3_77 dX3_replay_18 (ch_lI (by assumption)) rfl (ok_geI hw (by assumption) (by first | assumption | omega)) (by decide) (Nat.le_refl _) (Nat.le_refl _) (Nat.le_of_ble_eq_true rfl) ?_
    refine ax_cast (ci := 1) dX3_replay_21 cl_X3_173 (ch_I (by assumption)) rfl ?_
    refine ax_astore_n dX3_replay_24 rfl (by decide) ?_
    refine ax_aload_n dX3_replay_25 rfl ?_
    refine ax_get (ci := 1) (k := 4) (T := TX0) dX3_replay_26 (ch_I (by assumption)) rfl (by decide) fl_X3_172 rfl ?_
    refine ax_beq 55 dX3_replay_29 (by decide) (fun c29 => ?_) (fun c29 => ?_)
    · refine ax_iincn (n := 1) dX3_replay_55 rfl (by decide) rfl ?_
      refine ax_goto 2 dX3_replay_58 (by decide) ?_
      refine ax_fg [true, true, true, false] rfl ?_
      first | (refine ih _ hw ht (i + 1) V (by omega) (by rw [← hV, List.range'_succ, List.foldl_cons, cKb, if_neg (by simp [c29])]; rfl); done) | exact ih _ (kf_mm hw) ht (i + 1) V (show i + 1 + m = κ.1 14 t by omega) (by rw [← hV, List.range'_succ, List.foldl_cons, cKb, if_pos c29]; rfl)
    · refine ax_aload_n dX3_replay_32 rfl ?_
      refine ax_get (ci := 4) (k := 3) (T := TX3) dX3_replay_33 ch_O rfl (by decide) fl_X3_22 rfl ?_
      refine ax_aload_n dX3_replay_36 rfl ?_
      refine ax_get (ci := 1) (k := 0) (T := TX0) dX3_replay_37 (ch_I (by assumption)) rfl (by decide) fl_X3_218 rfl ?_
      refine ax_get (ci := 2) (k := 0) (T := TX1) dX3_replay_40 (ch_R (by first | assumption | exact ik.r hw (by assumption))) rfl (by decide) fl_X3_62 rfl ?_
      refine ax_aload_n dX3_replay_43 rfl ?_
      refine ax_get (ci := 1) (k := 1) (T := TX0) dX3_replay_44 (ch_I (by assumption)) rfl (by decide) fl_X3_222 rfl ?_
      refine ax_S2 cs_X3_122 dX3_replay_47 (ok_ccell) (by decide) (Nat.le_refl _) (Nat.le_refl _) (Nat.le_of_ble_eq_true rfl) ?_
      refine ax_aload_n dX3_replay_50 rfl ?_
      rw [Nat.mul_comm (κ.1 18 (8 * t + i)) 8]
      refine ax_get (ci := 1) (k := 5) (T := TX0) dX3_replay_51 (ch_I (by assumption)) rfl (by decide) fl_X3_178 rfl ?_
      rw [if_pos c29]
      refine ct_mm dX3_replay_54 (by omega) ?_
      refine ax_iincn (n := 1) dX3_replay_55 rfl (by decide) rfl ?_
      refine ax_goto 2 dX3_replay_58 (by decide) ?_
      refine ax_fg [true, true, true, false] rfl ?_
      first | (refine ih _ hw ht (i + 1) V (by omega) (by rw [← hV, List.range'_succ, List.foldl_cons, cKb, if_neg (by simp [c29])]; rfl); done) | exact ih _ (kf_mm hw) ht (i + 1) V (show i + 1 + m = κ.1 14 t by omega) (by rw [← hV, List.range'_succ, List.foldl_cons, cKb, if_pos c29]; rfl)
theorem ok_replay (hw : kf κ) {t : Nat} (ht : t < κ.1 10 0) : ax_Ok mX3_replay yX3_replay 4 0 0 [ax_r (1, 0), ax_r (8, t)] (fh (ch κ) ρ) (ax_DV (fh (ch ((rI κ t).foldl cKb κ)) ρ)) := by
  refine ax_Ok.of (by decide) rfl (fun q => by cases q) (Nat.le_of_ble_eq_true rfl) rfl ?_
  refine ax_iconst (nI 0) dX3_replay_0 (by decide) ?_
  refine ax_istore_n dX3_replay_1 rfl (by decide) ?_
  exact lp_rep (κ.1 14 t) κ hw ht 0 _ (Nat.zero_add _) rfl
theorem kb_1 : ∀ (l : List Nat) (κ : ax_R) (k j : Nat), (l.foldl cKb κ).1 k j = κ.1 k j
  | [], _, _, _ => rfl
  | x :: l, κ, k, j => by rw [List.foldl_cons, kb_1 l, cKb_1]
theorem kf_kbs : ∀ (l : List Nat) (κ : ax_R), kf κ → kf (l.foldl cKb κ)
  | [], _, h => h
  | _ :: l, _, h => kf_kbs l _ (kf_kb h)
def cKt : List Nat → ax_R → Option Nat × ax_R
  | [], κ => (none, κ)
  | p :: l, κ => if κ.1 12 (κ.1 47 p) = 7 then (if rKa κ (κ.1 47 p) = true then cKt l ((rI κ (κ.1 47 p)).foldl cKb κ) else (some (κ.1 47 p), κ)) else cKt l κ
def cCk (κ : ax_R) : Option Nat × ax_R := cKt (List.range' 0 (κ.1 17 0)) ((List.range' 0 48).foldl rKm κ)
theorem lp_cck1 {Fi : Option ax_V → ax_H → Prop}  : ∀ (m : Nat) (κ : ax_R) (hw : kf κ) (k : Nat) (V : ax_R), k + m = 48 → (List.range' k m).foldl rKm κ = V → ax_Z mX3_check 5 0 0 Fi 24 [some (ax_r (1, 0)), some (ax_i (nI 48)), none] [] (fh (ch V) ρ) 0 0 → ax_Z mX3_check 5 0 0 (Fi) 2 [some (ax_r (1, 0)), some (ax_i (nI k)), none] [] (fh (ch κ) ρ) 0 0 := by
  intro m
  induction m with
  | zero =>
    intro κ hw k V hk hV hK
    refine ax_iload_n dX3_check_2 rfl ?_
    refine ax_aload_n dX3_check_3 rfl ?_
    refine ax_get (ci := 4) (k := 3) (T := TX3) dX3_check_4 ch_O rfl (by decide) fl_X3_22 rfl ?_
    refine ax_alen (nI 48) dX3_check_7 ch_M rfl ?_
    refine ax_nge 24 dX3_check_8 (by decide) (by omega) (by omega) (fun c8 => ?_) (fun c8 => absurd c8 (by omega))
    have e : k = 48 := by omega
    subst e
    subst hV
    exact hK
  | succ m ih =>
    intro κ hw k V hk hV hK
    refine ax_iload_n dX3_check_2 rfl ?_
    refine ax_aload_n dX3_check_3 rfl ?_
    refine ax_get (ci := 4) (k := 3) (T := TX3) dX3_check_4 ch_O rfl (by decide) fl_X3_22 rfl ?_
    refine ax_alen (nI 48) dX3_check_7 ch_M rfl ?_
    refine ax_nge 24 dX3_check_8 (by decide) (by omega) (by omega) (fun c8 => absurd c8 (by omega)) (fun c8 => ?_)
    refine ax_aload_n dX3_check_11 rfl ?_
    refine ax_get (ci := 4) (k := 3) (T := TX3) dX3_check_12 ch_O rfl (by decide) fl_X3_22 rfl ?_
    refine ax_iload_n dX3_check_15 rfl ?_
    refine ax_iconst (0) dX3_check_16 (by decide) ?_
    refine ct_mm dX3_check_17 (by omega) ?_
    refine ax_iincn (n := 1) dX3_check_18 rfl (by decide) rfl ?_
    refine ax_goto 2 dX3_check_21 (by decide) ?_
    exact ih _ (kf_mm hw) (k + 1) V (by omega) (by rw [← hV, List.range'_succ, List.foldl_cons]; rfl) hK
theorem lp_cck2  : ∀ (m : Nat) (κ : ax_R) (hw : kf κ) (p : Nat) (V : Option Nat × ax_R), p + m = κ.1 17 0 → cKt (List.range' p m) κ = V → ax_Z mX3_check 5 0 0 (ax_D (ax_i (oI V.1)) (fh (ch V.2) ρ)) 26 [some (ax_r (1, 0)), some (ax_i (nI p)), none] [] (fh (ch κ) ρ) 0 0 := by
  intro m
  induction m with
  | zero =>
    intro κ hw p V hk hV
    have h6 := hw.nP
    refine ax_iload_n dX3_check_26 rfl ?_
    refine ax_aload_n dX3_check_27 rfl ?_
    refine ax_get (ci := 4) (k := 2) (T := TX3) dX3_check_28 ch_O rfl (by decide) fl_X3_19 rfl ?_
    refine ax_V0 cv_X3_46 dX3_check_31 ch_lP rfl (ok_szP) (by decide) (Nat.le_refl _) (Nat.le_refl _) (Nat.le_of_ble_eq_true rfl) ?_
    refine ax_nge 82 dX3_check_34 (by decide) (by omega) (by omega) (fun c34 => ?_) (fun c34 => absurd c34 (by omega))
    refine ax_bipush (-9) dX3_check_82 (by decide) ?_
    refine ax_iretD dX3_check_84 rfl ⟨(Nat.le_refl _), (Nat.le_refl _)⟩ ?_ ?_
    · rw [← hV]; rfl
    · rw [← hV]; rfl
  | succ m ih =>
    intro κ hw p V hk hV
    have h6 := hw.nP
    have hpp : p < κ.1 17 0 := by omega
    have ht := hw.bp p hpp
    have h12 := hw.p8 (κ.1 47 p)
    refine ax_iload_n dX3_check_26 rfl ?_
    refine ax_aload_n dX3_check_27 rfl ?_
    refine ax_get (ci := 4) (k := 2) (T := TX3) dX3_check_28 ch_O rfl (by decide) fl_X3_19 rfl ?_
    refine ax_V0 cv_X3_46 dX3_check_31 ch_lP rfl (ok_szP) (by decide) (Nat.le_refl _) (Nat.le_refl _) (Nat.le_of_ble_eq_true rfl) ?_
    refine ax_nge 82 dX3_check_34 (by decide) (by omega) (by omega) (fun c34 => absurd c34 (by omega)) (fun c34 => ?_)
    refine ax_aload_n dX3_check_37 rfl ?_
    refine ax_get (ci := 4) (k := 2) (T := TX3) dX3_check_38 ch_O rfl (by decide) fl_X3_19 rfl ?_
    refine ax_iload_n dX3_check_41 rfl ?_
    refine ax_V1 cv_X3_77 dX3_check_42 ch_lP rfl (ok_geP hw hpp) (by decide) (Nat.le_refl _) (Nat.le_refl _) (Nat.le_of_ble_eq_true rfl) ?_
    refine ax_cast (ci := 3) dX3_check_45 cl_X3_81 (ch_T (by assumption)) rfl ?_
    refine ax_astore_n dX3_check_48 rfl (by decide) ?_
    refine ax_aload_n dX3_check_49 rfl ?_
    refine ax_get (ci := 3) (k := 3) (T := TX2) dX3_check_50 (ch_T (by assumption)) rfl (by decide) fl_X3_83 rfl ?_
    refine ax_bipush (nI 7) dX3_check_53 (by decide) ?_
    refine ax_nne 76 dX3_check_55 (by decide) (by omega) (by omega) (fun c55 => ?_) (fun c55 => ?_)
    · refine ax_iincn (n := 1) dX3_check_76 rfl (by decide) rfl ?_
      refine ax_goto 26 dX3_check_79 (by decide) ?_
      refine ax_fg [true, true, false] rfl ?_
      exact ih κ hw (p + 1) V (by omega) (by rw [← hV, List.range'_succ, cKt, if_neg c55])
    · refine ax_aload_n dX3_check_58 rfl ?_
      refine ax_aload_n dX3_check_59 rfl ?_
      refine ax_V1 cv_X3_226 dX3_check_60 ch_O rfl (ok_readWhatWasLeft hw (by assumption)) (by decide) (Nat.le_refl _) (Nat.le_refl _) (Nat.le_of_ble_eq_true rfl) ?_
      refine ax_bne 71 dX3_check_63 (by decide) (fun c63 => ?_) (fun c63 => ?_)
      · refine ax_aload_n dX3_check_71 rfl ?_
        refine ax_aload_n dX3_check_72 rfl ?_
        refine ax_V1v cv_X3_230 dX3_check_73 ch_O rfl (ok_replay hw ht) (by decide) (Nat.le_refl _) (Nat.le_refl _) (Nat.le_of_ble_eq_true rfl) ?_
        refine ax_iincn (n := 1) dX3_check_76 rfl (by decide) rfl ?_
        refine ax_goto 26 dX3_check_79 (by decide) ?_
        refine ax_fg [true, true, false] rfl ?_
        exact ih _ (kf_kbs _ _ hw) (p + 1) V (by rw [kb_1]; omega) (by rw [← hV, List.range'_succ, cKt, if_pos c55, if_pos c63])
      · refine ax_aload_n dX3_check_66 rfl ?_
        refine ax_get (ci := 3) (k := 0) (T := TX2) dX3_check_67 (ch_T (by assumption)) rfl (by decide) fl_X3_159 rfl ?_
        refine ax_iretD dX3_check_70 rfl ⟨(Nat.le_refl _), (Nat.le_refl _)⟩ ?_ ?_
        · rw [← hV, List.range'_succ, cKt, if_pos c55, if_neg (by simp [c63])]; rfl
        · rw [← hV, List.range'_succ, cKt, if_pos c55, if_neg (by simp [c63])]
theorem km_1 : ∀ (l : List Nat) (κ : ax_R) (k j : Nat), (l.foldl rKm κ).1 k j = κ.1 k j
  | [], _, _, _ => rfl
  | x :: l, κ, k, j => by rw [List.foldl_cons, km_1 l]; rfl
theorem kf_km : ∀ (l : List Nat) (κ : ax_R), kf κ → kf (l.foldl rKm κ)
  | [], _, h => h
  | _ :: l, _, h => kf_km l _ (kf_mm h)
theorem ok_ccheck (hw : kf κ)  : ax_Ok mX3_check yX3_check 5 0 0 [ax_r (1, 0)] (fh (ch κ) ρ) (ax_D (ax_i (oI (cCk κ).1)) (fh (ch (cCk κ).2) ρ)) := by
  refine ax_Ok.of (by decide) rfl (fun q => by cases q) (Nat.le_of_ble_eq_true rfl) rfl ?_
  refine ax_iconst (nI 0) dX3_check_0 (by decide) ?_
  refine ax_istore_n dX3_check_1 rfl (by decide) ?_
  refine lp_cck1 48 κ hw 0 _ rfl rfl ?_
  refine ax_iconst (nI 0) dX3_check_24 (by decide) ?_
  refine ax_istore_n dX3_check_25 rfl (by decide) ?_
  exact lp_cck2 (κ.1 17 0) _ (kf_km _ _ hw) 0 _ (by rw [km_1]; omega) rfl
end CLS6
