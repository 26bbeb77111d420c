section CLS2
variable {κ ρ : ax_R}
def cHt (κ : ax_R) (r : Nat) (Q : Nat → Bool) : Bool := (List.range' 0 (κ.1 5 r)).any (fun s => Q (κ.1 6 (6 * r + s)))
theorem hit_iff (hw : kf κ) {r : Nat} {Q : Nat → Bool} : nI (mk (fun m => pm κ r (fun _ => true) m && Q m)) = 0 ↔ cHt κ r Q = false := by
  rw [k_z, pm_any hw]
  simp only [Bool.true_and]
  exact Iff.rfl
theorem ok_prN (hw : kf κ) {r : Nat} (hr : r < κ.1 4 0) (hp : cPr κ r = none) : ax_Ok mX3_primaryOf yX3_primaryOf 2 0 0 [ax_r (1, 0), ax_r (3, r)] (fh (ch κ) ρ) (ax_D (ax_i (-9)) (fh (ch κ) ρ)) := by
  have := ok_primaryOf (ρ := ρ) hw hr
  rw [hp] at this
  exact this
theorem ok_prS (hw : kf κ) {r p : Nat} (hr : r < κ.1 4 0) (hp : cPr κ r = some p) : ax_Ok mX3_primaryOf yX3_primaryOf 2 0 0 [ax_r (1, 0), ax_r (3, r)] (fh (ch κ) ρ) (ax_D (ax_i (nI (κ.1 6 (6 * r + p)))) (fh (ch κ) ρ)) := by
  have := ok_primaryOf (ρ := ρ) hw hr
  rw [hp] at this
  exact this
theorem ok_isUnderWay (hw : kf κ) {t : Nat} (ht : t < κ.1 10 0) : ax_Ok mX2_isUnderWay yX2_isUnderWay 1 0 0 [ax_r (8, t)] (fh (ch κ) ρ) (ax_D (ax_i (ax_b (rAc κ t))) (fh (ch κ) ρ)) := by
  refine ax_Ok.of (by decide) rfl (fun q => by cases q) (Nat.le_of_ble_eq_true rfl) rfl ?_
  have h8 := hw.p8 t
  refine ax_aload_n dX2_isUnderWay_0 rfl ?_
  refine ax_get (ci := 3) (k := 3) (T := TX2) dX2_isUnderWay_1 (ch_T (by assumption)) rfl (by decide) fl_X2_18 rfl ?_
  refine ax_zeq 29 dX2_isUnderWay_4 (by decide) (by omega) (fun c4 => ?_) (fun c4 => ?_)
  · refine ax_iconst (ax_b false) dX2_isUnderWay_29 (by decide) ?_
    refine ax_bret dX2_isUnderWay_30 rfl ⟨(Nat.le_refl _), (Nat.le_refl _)⟩ ?_ ?_
    · symm; first | (simp only [rAc, Bool.and_eq_true, decide_eq_true_eq]; omega) | (simp only [rAc, Bool.and_eq_false_iff, decide_eq_false_iff_not]; omega)
    · rfl
  · refine ax_aload_n dX2_isUnderWay_7 rfl ?_
    refine ax_get (ci := 3) (k := 3) (T := TX2) dX2_isUnderWay_8 (ch_T (by assumption)) rfl (by decide) fl_X2_18 rfl ?_
    refine ax_bipush (nI 7) dX2_isUnderWay_11 (by decide) ?_
    refine ax_neq 29 dX2_isUnderWay_13 (by decide) (by omega) (by omega) (fun c13 => ?_) (fun c13 => ?_)
    · refine ax_iconst (ax_b false) dX2_isUnderWay_29 (by decide) ?_
      refine ax_bret dX2_isUnderWay_30 rfl ⟨(Nat.le_refl _), (Nat.le_refl _)⟩ ?_ ?_
      · symm; first | (simp only [rAc, Bool.and_eq_true, decide_eq_true_eq]; omega) | (simp only [rAc, Bool.and_eq_false_iff, decide_eq_false_iff_not]; omega)
      · rfl
    · refine ax_aload_n dX2_isUnderWay_16 rfl ?_
      refine ax_get (ci := 3) (k := 3) (T := TX2) dX2_isUnderWay_17 (ch_T (by assumption)) rfl (by decide) fl_X2_18 rfl ?_
      refine ax_bipush (nI 8) dX2_isUnderWay_20 (by decide) ?_
      refine ax_neq 29 dX2_isUnderWay_22 (by decide) (by omega) (by omega) (fun c22 => ?_) (fun c22 => ?_)
      · refine ax_iconst (ax_b false) dX2_isUnderWay_29 (by decide) ?_
        refine ax_bret dX2_isUnderWay_30 rfl ⟨(Nat.le_refl _), (Nat.le_refl _)⟩ ?_ ?_
        · symm; first | (simp only [rAc, Bool.and_eq_true, decide_eq_true_eq]; omega) | (simp only [rAc, Bool.and_eq_false_iff, decide_eq_false_iff_not]; omega)
        · rfl
      · refine ax_iconst (ax_b true) dX2_isUnderWay_25 (by decide) ?_
        refine ax_goto 30 dX2_isUnderWay_26 (by decide) ?_
        refine ax_bret dX2_isUnderWay_30 rfl ⟨(Nat.le_refl _), (Nat.le_refl _)⟩ ?_ ?_
        · symm; first | (simp only [rAc, Bool.and_eq_true, decide_eq_true_eq]; omega) | (simp only [rAc, Bool.and_eq_false_iff, decide_eq_false_iff_not]; omega)
        · rfl
theorem ok_enter {t p : Nat} (ht : t < κ.1 10 0) : ax_Ok mX2_enter yX2_enter 1 0 0 [ax_r (8, t), ax_i (nI p)] (fh (ch κ) ρ) (ax_DV (fh (ch (nu (nu κ 12 t p) 44 t 0)) ρ)) := by
  refine ax_Ok.of (by decide) rfl (fun q => by cases q) (Nat.le_of_ble_eq_true rfl) rfl ?_
  refine ax_aload_n dX2_enter_0 rfl ?_
  refine ax_iload_n dX2_enter_1 rfl ?_
  refine ax_put (ci := 3) (k := 3) (T := TX2) (ty := .int) dX2_enter_2 (ch_T (by assumption)) rfl (by decide) (Nat.le_of_ble_eq_true rfl) fl_X2_18 rfl (by decide +kernel) (fun _ => rfl) (fun _ => rfl) (cu_ph (by assumption)) ?_
  refine ax_aload_n dX2_enter_5 rfl ?_
  refine ax_iconst (nI 0) dX2_enter_6 (by decide) ?_
  refine ax_put (ci := 3) (k := 4) (T := TX2) (ty := .int) dX2_enter_7 (ch_T (by assumption)) rfl (by decide) (Nat.le_of_ble_eq_true rfl) fl_X2_22 rfl (by decide +kernel) (fun _ => rfl) (fun _ => rfl) (cu_cu (by assumption)) ?_
  refine ax_vretD dX2_enter_10 rfl ⟨(Nat.le_refl _), (Nat.le_refl _)⟩ ?_
  rfl
theorem ok_cursorEnd {t : Nat} (ht : t < κ.1 10 0) : ax_Ok mX2_cursorEnd yX2_cursorEnd 2 0 0 [ax_r (8, t)] (fh (ch κ) ρ) (ax_D (ax_i (nI (κ.1 14 t * 6))) (fh (ch κ) ρ)) := by
  refine ax_Ok.of (by decide) rfl (fun q => by cases q) (Nat.le_of_ble_eq_true rfl) rfl ?_
  refine ax_aload_n dX2_cursorEnd_0 rfl ?_
  refine ax_get (ci := 3) (k := 2) (T := TX2) dX2_cursorEnd_1 (ch_T (by assumption)) rfl (by decide) fl_X2_12 rfl ?_
  refine ax_V0 cv_X2_38 dX2_cursorEnd_4 (ch_lI (by assumption)) rfl (ok_szI (by assumption)) (by decide) (Nat.le_refl _) (Nat.le_refl _) (Nat.le_of_ble_eq_true rfl) ?_
  refine ax_bipush (nI 6) dX2_cursorEnd_7 (by decide) ?_
  refine ax_imuln dX2_cursorEnd_9 ?_
  refine ax_iretD dX2_cursorEnd_10 rfl ⟨(Nat.le_refl _), (Nat.le_refl _)⟩ ?_ ?_
  · rfl
  · rfl
theorem ok_slot (hw : kf κ) {t : Nat} (ht : t < κ.1 10 0) : ax_Ok mX2_slot yX2_slot 1 0 0 [ax_r (8, t)] (fh (ch κ) ρ) (ax_D (ax_i (nI (κ.1 44 t % 6))) (fh (ch κ) ρ)) := by
  refine ax_Ok.of (by decide) rfl (fun q => by cases q) (Nat.le_of_ble_eq_true rfl) rfl ?_
  refine ax_aload_n dX2_slot_0 rfl ?_
  refine ax_get (ci := 3) (k := 4) (T := TX2) dX2_slot_1 (ch_T (by assumption)) rfl (by decide) fl_X2_22 rfl ?_
  refine ax_bipush (nI 6) dX2_slot_4 (by decide) ?_
  refine ax_iremn dX2_slot_6 (by decide) (by have := hw.lt 44 t; omega) (by decide) ?_
  refine ax_iretD dX2_slot_7 rfl ⟨(Nat.le_refl _), (Nat.le_refl _)⟩ ?_ ?_
  · rfl
  · rfl
theorem ok_itemAt (hw : kf κ) {t i : Nat} (ht : t < κ.1 10 0) (hi : i < κ.1 14 t) : ax_Ok mX2_itemAt yX2_itemAt 4 0 0 [ax_r (8, t), ax_i (nI i)] (fh (ch κ) ρ) (ax_D (ax_r (9, 8 * t + i)) (fh (ch κ) ρ)) := by
  refine ax_Ok.of (by decide) rfl (fun q => by cases q) (Nat.le_of_ble_eq_true rfl) rfl ?_
  have h6 := hw.i8 t
  have hik : ik κ (8 * t + i) := ik.of hw ht hi
  refine ax_iload_n dX2_itemAt_0 rfl ?_
  refine ax_zlt dX2_itemAt_1 29 (by decide) (by omega) ?_
  refine ax_iload_n dX2_itemAt_4 rfl ?_
  refine ax_aload_n dX2_itemAt_5 rfl ?_
  refine ax_get (ci := 3) (k := 2) (T := TX2) dX2_itemAt_6 (ch_T (by assumption)) rfl (by decide) fl_X2_12 rfl ?_
  refine ax_V0 cv_X2_38 dX2_itemAt_9 (ch_lI (by assumption)) rfl (ok_szI (by assumption)) (by decide) (Nat.le_refl _) (Nat.le_refl _) (Nat.le_of_ble_eq_true rfl) ?_
  refine ax_nge 29 dX2_itemAt_12 (by decide) (by omega) (by omega) (fun c12 => absurd c12 (by omega)) (fun c12 => ?_)
  refine ax_aload_n dX2_itemAt_15 rfl ?_
  refine ax_get (ci := 3) (k := 2) (T := TX2) dX2_itemAt_16 (ch_T (by assumption)) rfl (by decide) fl_X2_12 rfl ?_
  refine ax_iload_n dX2_itemAt_19 rfl ?_
  refine ax_V1 cv_X2_42 dX2_itemAt_20 (ch_lI (by assumption)) rfl (ok_geI hw (by assumption) (by first | assumption | omega)) (by decide) (Nat.le_refl _) (Nat.le_refl _) (Nat.le_of_ble_eq_true rfl) ?_
  refine ax_cast (ci := 1) dX2_itemAt_23 cl_X2_46 (ch_I (by assumption)) rfl ?_
  refine ax_goto 30 dX2_itemAt_26 (by decide) ?_
  refine ax_aret dX2_itemAt_30 rfl (Or.inl ⟨_, rfl⟩) ⟨(Nat.le_refl _), (Nat.le_refl _)⟩ ?_
  exact ⟨rfl, rfl⟩
theorem ok_itemAtN {t : Nat} {x : Int32} (ht : t < κ.1 10 0) (hx : ¬ (0 ≤ x ∧ x < nI (κ.1 14 t))) : ax_Ok mX2_itemAt yX2_itemAt 4 0 0 [ax_r (8, t), ax_i x] (fh (ch κ) ρ) (ax_D (ax_z) (fh (ch κ) ρ)) := by
  refine ax_Ok.of (by decide) rfl (fun q => by cases q) (Nat.le_of_ble_eq_true rfl) rfl ?_
  refine ax_iload_n dX2_itemAt_0 rfl ?_
  refine ax_if_lt 29 dX2_itemAt_1 (by decide) (fun c1 => ?_) (fun c1 => ?_)
  · refine ax_null dX2_itemAt_29 ?_
    refine ax_aret dX2_itemAt_30 rfl (Or.inl ⟨_, rfl⟩) ⟨(Nat.le_refl _), (Nat.le_refl _)⟩ ?_
    exact ⟨rfl, rfl⟩
  · refine ax_iload_n dX2_itemAt_4 rfl ?_
    refine ax_aload_n dX2_itemAt_5 rfl ?_
    refine ax_get (ci := 3) (k := 2) (T := TX2) dX2_itemAt_6 (ch_T (by assumption)) rfl (by decide) fl_X2_12 rfl ?_
    refine ax_V0 cv_X2_38 dX2_itemAt_9 (ch_lI (by assumption)) rfl (ok_szI (by assumption)) (by decide) (Nat.le_refl _) (Nat.le_refl _) (Nat.le_of_ble_eq_true rfl) ?_
    refine ax_icmp_ge 29 dX2_itemAt_12 (by decide) (fun c12 => ?_) (fun c12 => absurd c12 (by intro z; exact hx ⟨Int32.not_lt.mp c1, Int32.not_le.mp z⟩))
    refine ax_null dX2_itemAt_29 ?_
    refine ax_aret dX2_itemAt_30 rfl (Or.inl ⟨_, rfl⟩) ⟨(Nat.le_refl _), (Nat.le_refl _)⟩ ?_
    exact ⟨rfl, rfl⟩
theorem nm3 {a b : Nat} : (some ((3, a) : ax_N) = some (3, b)) ↔ a = b := by
  constructor
  · intro e; injection e with e; injection e
  · intro e; rw [e]
theorem lp_itemOfC (hw : kf κ) {t r q : Nat} (ht : t < κ.1 10 0) (hq : q < 8) : ∀ (m : Nat) (i : Nat) (V : Option Nat), i + m = κ.1 14 t → (List.range' (8 * t + i) m).find? (fun k => decide (κ.1 18 k = r) && decide (κ.1 19 k = q)) = V → ax_Z mX2_itemOf 4 0 0 (ax_D (ax_q (V.map (fun k => (9, k)))) (fh (ch κ) ρ)) 2 [some (ax_r (8, t)), some (ax_r (3, r)), some (ax_i (nI q)), some (ax_i (nI i)), none] [] (fh (ch κ) ρ) 0 0 := by
  intro m
  induction m with
  | zero =>
    intro i V hk hV
    have h8 := hw.i8 t
    refine ax_iload_n dX2_itemOf_2 rfl ?_
    refine ax_aload_n dX2_itemOf_3 rfl ?_
    refine ax_get (ci := 3) (k := 2) (T := TX2) dX2_itemOf_4 (ch_T (by assumption)) rfl (by decide) fl_X2_12 rfl ?_
    refine ax_V0 cv_X2_38 dX2_itemOf_7 (ch_lI (by assumption)) rfl (ok_szI (by assumption)) (by decide) (Nat.le_refl _) (Nat.le_refl _) (Nat.le_of_ble_eq_true rfl) ?_
    refine ax_nge 53 dX2_itemOf_10 (by decide) (by omega) (by omega) (fun c10 => ?_) (fun c10 => absurd c10 (by omega))
    refine ax_null dX2_itemOf_53 ?_
    refine ax_aret dX2_itemOf_54 rfl (Or.inl ⟨_, rfl⟩) ⟨(Nat.le_refl _), (Nat.le_refl _)⟩ ?_
    exact ⟨by rw [ls_d2 hV]; rfl, rfl⟩
  | succ m ih =>
    intro i V hk hV
    have h8 := hw.i8 t
    have hik : ik κ (8 * t + i) := ik.of hw ht (by omega)
    have hir := ik.r hw hik
    have ho := hw.o8 (8 * t + i)
    refine ax_iload_n dX2_itemOf_2 rfl ?_
    refine ax_aload_n dX2_itemOf_3 rfl ?_
    refine ax_get (ci := 3) (k := 2) (T := TX2) dX2_itemOf_4 (ch_T (by assumption)) rfl (by decide) fl_X2_12 rfl ?_
    refine ax_V0 cv_X2_38 dX2_itemOf_7 (ch_lI (by assumption)) rfl (ok_szI (by assumption)) (by decide) (Nat.le_refl _) (Nat.le_refl _) (Nat.le_of_ble_eq_true rfl) ?_
    refine ax_nge 53 dX2_itemOf_10 (by decide) (by omega) (by omega) (fun c10 => absurd c10 (by omega)) (fun c10 => ?_)
    refine ax_aload_n dX2_itemOf_13 rfl ?_
    refine ax_get (ci := 3) (k := 2) (T := TX2) dX2_itemOf_14 (ch_T (by assumption)) rfl (by decide) fl_X2_12 rfl ?_
    refine ax_iload_n dX2_itemOf_17 rfl ?_
    refine ax_V1 cv_X2_42 dX2_itemOf_18 (ch_lI (by assumption)) rfl (ok_geI hw (by assumption) (by first | assumption | omega)) (by decide) (Nat.le_refl _) (Nat.le_refl _) (Nat.le_of_ble_eq_true rfl) ?_
    refine ax_cast (ci := 1) dX2_itemOf_21 cl_X2_46 (ch_I (by assumption)) rfl ?_
    refine ax_astore dX2_itemOf_24 rfl (by decide) ?_
    refine ax_aload dX2_itemOf_26 rfl ?_
    refine ax_get (ci := 1) (k := 0) (T := TX0) dX2_itemOf_28 (ch_I (by assumption)) rfl (by decide) fl_X2_48 rfl ?_
    refine ax_aload_n dX2_itemOf_31 rfl ?_
    refine ax_acmp_ne 47 dX2_itemOf_32 (by decide) (fun c32 => ?_) (fun c32 => ?_)
    · rw [nm3] at c32
      refine ax_iincn (n := 1) dX2_itemOf_47 rfl (by decide) rfl ?_
      refine ax_goto 2 dX2_itemOf_50 (by decide) ?_
      refine ax_fg [true, true, true, true, false] rfl ?_
      exact ih (i + 1) V (by omega) (ls_d0 (by simp [c10, c32]) hV)
    · rw [nm3] at c32
      refine ax_aload dX2_itemOf_35 rfl ?_
      refine ax_get (ci := 1) (k := 1) (T := TX0) dX2_itemOf_37 (ch_I (by assumption)) rfl (by decide) fl_X2_52 rfl ?_
      refine ax_iload_n dX2_itemOf_40 rfl ?_
      refine ax_nne 47 dX2_itemOf_41 (by decide) (by omega) (by omega) (fun c41 => ?_) (fun c41 => ?_)
      · refine ax_iincn (n := 1) dX2_itemOf_47 rfl (by decide) rfl ?_
        refine ax_goto 2 dX2_itemOf_50 (by decide) ?_
        refine ax_fg [true, true, true, true, false] rfl ?_
        exact ih (i + 1) V (by omega) (ls_d0 (by simp [c10, c32, c41]) hV)
      · refine ax_aload dX2_itemOf_44 rfl ?_
        refine ax_aret dX2_itemOf_46 rfl (Or.inl ⟨_, rfl⟩) ⟨(Nat.le_refl _), (Nat.le_refl _)⟩ ?_
        exact ⟨by rw [ls_d1 (by simp [c10, c32, c41]) hV]; rfl, rfl⟩
theorem ok_itemOfC (hw : kf κ) {t r q : Nat} (ht : t < κ.1 10 0) (hq : q < 8) : ax_Ok mX2_itemOf yX2_itemOf 4 0 0 [ax_r (8, t), ax_r (3, r), ax_i (nI q)] (fh (ch κ) ρ) (ax_D (ax_q ((rIo κ t r q).map (fun k => (9, k)))) (fh (ch κ) ρ)) := by
  refine ax_Ok.of (by decide) rfl (fun q => by cases q) (Nat.le_of_ble_eq_true rfl) rfl ?_
  refine ax_iconst (nI 0) dX2_itemOf_0 (by decide) ?_
  refine ax_istore_n dX2_itemOf_1 rfl (by decide) ?_
  exact lp_itemOfC hw ht hq (κ.1 14 t) 0 _ (Nat.zero_add _) rfl
theorem lp_writeCount (hw : kf κ) {t : Nat} (ht : t < κ.1 10 0) : ∀ (m : Nat) (i n V : Nat), i + m = κ.1 14 t → n + (List.range' (8 * t + i) m).countP (κ.2.1 22) = V → ax_Z mX2_writeCount 4 0 0 (ax_D (ax_i (nI V)) (fh (ch κ) ρ)) 4 [some (ax_r (8, t)), some (ax_i (nI n)), some (ax_i (nI i))] [] (fh (ch κ) ρ) 0 0 := by
  intro m
  induction m with
  | zero =>
    intro i n V hk hV
    have h8 := hw.i8 t
    refine ax_iload_n dX2_writeCount_4 rfl ?_
    refine ax_aload_n dX2_writeCount_5 rfl ?_
    refine ax_get (ci := 3) (k := 2) (T := TX2) dX2_writeCount_6 (ch_T (by assumption)) rfl (by decide) fl_X2_12 rfl ?_
    refine ax_V0 cv_X2_38 dX2_writeCount_9 (ch_lI (by assumption)) rfl (ok_szI (by assumption)) (by decide) (Nat.le_refl _) (Nat.le_refl _) (Nat.le_of_ble_eq_true rfl) ?_
    refine ax_nge 41 dX2_writeCount_12 (by decide) (by omega) (by omega) (fun c12 => ?_) (fun c12 => absurd c12 (by omega))
    refine ax_iload_n dX2_writeCount_41 rfl ?_
    refine ax_iretD dX2_writeCount_42 rfl ⟨(Nat.le_refl _), (Nat.le_refl _)⟩ ?_ ?_
    · rw [ls_c2 hV]
    · rfl
  | succ m ih =>
    intro i n V hk hV
    have h8 := hw.i8 t
    have hik : ik κ (8 * t + i) := ik.of hw ht (by omega)
    have hir := ik.r hw hik
    refine ax_iload_n dX2_writeCount_4 rfl ?_
    refine ax_aload_n dX2_writeCount_5 rfl ?_
    refine ax_get (ci := 3) (k := 2) (T := TX2) dX2_writeCount_6 (ch_T (by assumption)) rfl (by decide) fl_X2_12 rfl ?_
    refine ax_V0 cv_X2_38 dX2_writeCount_9 (ch_lI (by assumption)) rfl (ok_szI (by assumption)) (by decide) (Nat.le_refl _) (Nat.le_refl _) (Nat.le_of_ble_eq_true rfl) ?_
    refine ax_nge 41 dX2_writeCount_12 (by decide) (by omega) (by omega) (fun c12 => absurd c12 (by omega)) (fun c12 => ?_)
    refine ax_aload_n dX2_writeCount_15 rfl ?_
    refine ax_get (ci := 3) (k := 2) (T := TX2) dX2_writeCount_16 (ch_T (by assumption)) rfl (by decide) fl_X2_12 rfl ?_
    refine ax_iload_n dX2_writeCount_19 rfl ?_
    refine ax_V1 cv_X2_42 dX2_writeCount_20 (ch_lI (by assumption)) rfl (ok_geI hw (by assumption) (by first | assumption | omega)) (by decide) (Nat.le_refl _) (Nat.le_refl _) (Nat.le_of_ble_eq_true rfl) ?_
    refine ax_cast (ci := 1) dX2_writeCount_23 cl_X2_46 (ch_I (by assumption)) rfl ?_
    refine ax_get (ci := 1) (k := 4) (T := TX0) dX2_writeCount_26 (ch_I (by assumption)) rfl (by decide) fl_X2_53 rfl ?_
    refine ax_beq 35 dX2_writeCount_29 (by decide) (fun c29 => ?_) (fun c29 => ?_)
    · refine ax_iincn (n := 1) dX2_writeCount_35 rfl (by decide) rfl ?_
      refine ax_goto 4 dX2_writeCount_38 (by decide) ?_
      first | exact ih (i + 1) (n + 0) V (by omega) (ls_c0 c29 hV) | exact ih (i + 1) (n + 1) V (by omega) (ls_c1 c29 hV)
    · refine ax_iincn (n := 1) dX2_writeCount_32 rfl (by decide) rfl ?_
      refine ax_iincn (n := 1) dX2_writeCount_35 rfl (by decide) rfl ?_
      refine ax_goto 4 dX2_writeCount_38 (by decide) ?_
      first | exact ih (i + 1) (n + 0) V (by omega) (ls_c0 c29 hV) | exact ih (i + 1) (n + 1) V (by omega) (ls_c1 c29 hV)
theorem ok_writeCount (hw : kf κ) {t : Nat} (ht : t < κ.1 10 0) : ax_Ok mX2_writeCount yX2_writeCount 4 0 0 [ax_r (8, t)] (fh (ch κ) ρ) (ax_D (ax_i (nI (rW κ t))) (fh (ch κ) ρ)) := by
  refine ax_Ok.of (by decide) rfl (fun q => by cases q) (Nat.le_of_ble_eq_true rfl) rfl ?_
  refine ax_iconst (nI 0) dX2_writeCount_0 (by decide) ?_
  refine ax_istore_n dX2_writeCount_1 rfl (by decide) ?_
  refine ax_iconst (nI 0) dX2_writeCount_2 (by decide) ?_
  refine ax_istore_n dX2_writeCount_3 rfl (by decide) ?_
  exact lp_writeCount hw ht (κ.1 14 t) 0 0 _ (Nat.zero_add _) (Nat.zero_add _)
theorem lp_writesIn (hw : kf κ) {t r : Nat} (ht : t < κ.1 10 0) : ∀ (m : Nat) (i : Nat) (V : Bool), i + m = κ.1 14 t → (List.range' (8 * t + i) m).any (fun k => decide (κ.1 18 k = r) && κ.2.1 22 k) = V → ax_Z mX2_writesIn 4 0 0 (ax_D (ax_i (ax_b V)) (fh (ch κ) ρ)) 2 [some (ax_r (8, t)), some (ax_r (3, r)), some (ax_i (nI i)), none] [] (fh (ch κ) ρ) 0 0 := by
  intro m
  induction m with
  | zero =>
    intro i V hk hV
    have h8 := hw.i8 t
    refine ax_iload_n dX2_writesIn_2 rfl ?_
    refine ax_aload_n dX2_writesIn_3 rfl ?_
    refine ax_get (ci := 3) (k := 2) (T := TX2) dX2_writesIn_4 (ch_T (by assumption)) rfl (by decide) fl_X2_12 rfl ?_
    refine ax_V0 cv_X2_38 dX2_writesIn_7 (ch_lI (by assumption)) rfl (ok_szI (by assumption)) (by decide) (Nat.le_refl _) (Nat.le_refl _) (Nat.le_of_ble_eq_true rfl) ?_
    refine ax_nge 48 dX2_writesIn_10 (by decide) (by omega) (by omega) (fun c10 => ?_) (fun c10 => absurd c10 (by omega))
    refine ax_iconst (ax_b false) dX2_writesIn_48 (by decide) ?_
    refine ax_bret dX2_writesIn_49 rfl ⟨(Nat.le_refl _), (Nat.le_refl _)⟩ ?_ ?_
    · rw [← hV]; rfl
    · rfl
  | succ m ih =>
    intro i V hk hV
    have h8 := hw.i8 t
    have hik : ik κ (8 * t + i) := ik.of hw ht (by omega)
    have hir := ik.r hw hik
    refine ax_iload_n dX2_writesIn_2 rfl ?_
    refine ax_aload_n dX2_writesIn_3 rfl ?_
    refine ax_get (ci := 3) (k := 2) (T := TX2) dX2_writesIn_4 (ch_T (by assumption)) rfl (by decide) fl_X2_12 rfl ?_
    refine ax_V0 cv_X2_38 dX2_writesIn_7 (ch_lI (by assumption)) rfl (ok_szI (by assumption)) (by decide) (Nat.le_refl _) (Nat.le_refl _) (Nat.le_of_ble_eq_true rfl) ?_
    refine ax_nge 48 dX2_writesIn_10 (by decide) (by omega) (by omega) (fun c10 => absurd c10 (by omega)) (fun c10 => ?_)
    refine ax_aload_n dX2_writesIn_13 rfl ?_
    refine ax_get (ci := 3) (k := 2) (T := TX2) dX2_writesIn_14 (ch_T (by assumption)) rfl (by decide) fl_X2_12 rfl ?_
    refine ax_iload_n dX2_writesIn_17 rfl ?_
    refine ax_V1 cv_X2_42 dX2_writesIn_18 (ch_lI (by assumption)) rfl (ok_geI hw (by assumption) (by first | assumption | omega)) (by decide) (Nat.le_refl _) (Nat.le_refl _) (Nat.le_of_ble_eq_true rfl) ?_
    refine ax_cast (ci := 1) dX2_writesIn_21 cl_X2_46 (ch_I (by assumption)) rfl ?_
    refine ax_astore_n dX2_writesIn_24 rfl (by decide) ?_
    refine ax_aload_n dX2_writesIn_25 rfl ?_
    refine ax_get (ci := 1) (k := 4) (T := TX0) dX2_writesIn_26 (ch_I (by assumption)) rfl (by decide) fl_X2_53 rfl ?_
    refine ax_beq 42 dX2_writesIn_29 (by decide) (fun c29 => ?_) (fun c29 => ?_)
    · refine ax_iincn (n := 1) dX2_writesIn_42 rfl (by decide) rfl ?_
      refine ax_goto 2 dX2_writesIn_45 (by decide) ?_
      refine ax_fg [true, true, true, false] rfl ?_
      exact ih (i + 1) V (by omega) (by rw [← hV, List.range'_succ, List.any_cons]; simp [c10, c29, Nat.add_assoc])
    · refine ax_aload_n dX2_writesIn_32 rfl ?_
      refine ax_get (ci := 1) (k := 0) (T := TX0) dX2_writesIn_33 (ch_I (by assumption)) rfl (by decide) fl_X2_48 rfl ?_
      refine ax_aload_n dX2_writesIn_36 rfl ?_
      refine ax_acmp_ne 42 dX2_writesIn_37 (by decide) (fun c37 => ?_) (fun c37 => ?_)
      · rw [nm3] at c37
        refine ax_iincn (n := 1) dX2_writesIn_42 rfl (by decide) rfl ?_
        refine ax_goto 2 dX2_writesIn_45 (by decide) ?_
        refine ax_fg [true, true, true, false] rfl ?_
        exact ih (i + 1) V (by omega) (by rw [← hV, List.range'_succ, List.any_cons]; simp [c10, c29, c37, Nat.add_assoc])
      · rw [nm3] at c37
        refine ax_iconst (ax_b true) dX2_writesIn_40 (by decide) ?_
        refine ax_bret dX2_writesIn_41 rfl ⟨(Nat.le_refl _), (Nat.le_refl _)⟩ ?_ ?_
        · rw [← hV, List.range'_succ, List.any_cons]; simp [c10, c29, c37]
        · rfl
theorem ok_writesIn (hw : kf κ) {t r : Nat} (ht : t < κ.1 10 0) : ax_Ok mX2_writesIn yX2_writesIn 4 0 0 [ax_r (8, t), ax_r (3, r)] (fh (ch κ) ρ) (ax_D (ax_i (ax_b (rWr κ t r))) (fh (ch κ) ρ)) := by
  refine ax_Ok.of (by decide) rfl (fun q => by cases q) (Nat.le_of_ble_eq_true rfl) rfl ?_
  refine ax_iconst (nI 0) dX2_writesIn_0 (by decide) ?_
  refine ax_istore_n dX2_writesIn_1 rfl (by decide) ?_
  exact lp_writesIn hw ht (κ.1 14 t) 0 _ (Nat.zero_add _) rfl
theorem lp_writesOn (hw : kf κ) {t : Nat} {Q : Nat → Bool} (ht : t < κ.1 10 0) : ∀ (m : Nat) (i : Nat) (V : Bool), i + m = κ.1 14 t → (List.range' (8 * t + i) m).any (fun k => κ.2.1 22 k && cHt κ (κ.1 18 k) Q) = V → ax_Z mX2_writesOnAnyOf 4 0 0 (ax_D (ax_i (ax_b V)) (fh (ch κ) ρ)) 2 [some (ax_r (8, t)), some (ax_i (nI (mk Q))), some (ax_i (nI i)), none] [] (fh (ch κ) ρ) 0 0 := by
  intro m
  induction m with
  | zero =>
    intro i V hk hV
    have h8 := hw.i8 t
    refine ax_iload_n dX2_writesOnAnyOf_2 rfl ?_
    refine ax_aload_n dX2_writesOnAnyOf_3 rfl ?_
    refine ax_get (ci := 3) (k := 2) (T := TX2) dX2_writesOnAnyOf_4 (ch_T (by assumption)) rfl (by decide) fl_X2_12 rfl ?_
    refine ax_V0 cv_X2_38 dX2_writesOnAnyOf_7 (ch_lI (by assumption)) rfl (ok_szI (by assumption)) (by decide) (Nat.le_refl _) (Nat.le_refl _) (Nat.le_of_ble_eq_true rfl) ?_
    refine ax_nge 52 dX2_writesOnAnyOf_10 (by decide) (by omega) (by omega) (fun c10 => ?_) (fun c10 => absurd c10 (by omega))
    refine ax_iconst (ax_b false) dX2_writesOnAnyOf_52 (by decide) ?_
    refine ax_bret dX2_writesOnAnyOf_53 rfl ⟨(Nat.le_refl _), (Nat.le_refl _)⟩ ?_ ?_
    · rw [← hV]; rfl
    · rfl
  | succ m ih =>
    intro i V hk hV
    have h8 := hw.i8 t
    have hik : ik κ (8 * t + i) := ik.of hw ht (by omega)
    have hir := ik.r hw hik
    refine ax_iload_n dX2_writesOnAnyOf_2 rfl ?_
    refine ax_aload_n dX2_writesOnAnyOf_3 rfl ?_
    refine ax_get (ci := 3) (k := 2) (T := TX2) dX2_writesOnAnyOf_4 (ch_T (by assumption)) rfl (by decide) fl_X2_12 rfl ?_
    refine ax_V0 cv_X2_38 dX2_writesOnAnyOf_7 (ch_lI (by assumption)) rfl (ok_szI (by assumption)) (by decide) (Nat.le_refl _) (Nat.le_refl _) (Nat.le_of_ble_eq_true rfl) ?_
    refine ax_nge 52 dX2_writesOnAnyOf_10 (by decide) (by omega) (by omega) (fun c10 => absurd c10 (by omega)) (fun c10 => ?_)
    refine ax_aload_n dX2_writesOnAnyOf_13 rfl ?_
    refine ax_get (ci := 3) (k := 2) (T := TX2) dX2_writesOnAnyOf_14 (ch_T (by assumption)) rfl (by decide) fl_X2_12 rfl ?_
    refine ax_iload_n dX2_writesOnAnyOf_17 rfl ?_
    refine ax_V1 cv_X2_42 dX2_writesOnAnyOf_18 (ch_lI (by assumption)) rfl (ok_geI hw (by assumption) (by first | assumption | omega)) (by decide) (Nat.le_refl _) (Nat.le_refl _) (Nat.le_of_ble_eq_true rfl) ?_
    refine ax_cast (ci := 1) dX2_writesOnAnyOf_21 cl_X2_46 (ch_I (by assumption)) rfl ?_
    refine ax_astore_n dX2_writesOnAnyOf_24 rfl (by decide) ?_
    refine ax_aload_n dX2_writesOnAnyOf_25 rfl ?_
    refine ax_get (ci := 1) (k := 4) (T := TX0) dX2_writesOnAnyOf_26 (ch_I (by assumption)) rfl (by decide) fl_X2_53 rfl ?_
    refine ax_beq 46 dX2_writesOnAnyOf_29 (by decide) (fun c29 => ?_) (fun c29 => ?_)
    · refine ax_iincn (n := 1) dX2_writesOnAnyOf_46 rfl (by decide) rfl ?_
      refine ax_goto 2 dX2_writesOnAnyOf_49 (by decide) ?_
      refine ax_fg [true, true, true, false] rfl ?_
      exact ih (i + 1) V (by omega) (by rw [← hV, List.range'_succ, List.any_cons]; simp [c10, c29, Nat.add_assoc])
    · refine ax_aload_n dX2_writesOnAnyOf_32 rfl ?_
      refine ax_get (ci := 1) (k := 0) (T := TX0) dX2_writesOnAnyOf_33 (ch_I (by assumption)) rfl (by decide) fl_X2_48 rfl ?_
      refine ax_get (ci := 2) (k := 3) (T := TX1) dX2_writesOnAnyOf_36 (ch_R (by first | assumption | exact ik.r hw (by assumption))) rfl (by decide) fl_X2_56 rfl ?_
      refine ax_iload_n dX2_writesOnAnyOf_39 rfl ?_
      refine ax_iand (nI (mk (fun m => pm κ (κ.1 18 (8 * t + i)) (fun _ => true) m && Q m))) dX2_writesOnAnyOf_40 (k_and _ _) ?_
      refine ax_if_eq 46 dX2_writesOnAnyOf_41 (by decide) (fun c41 => ?_) (fun c41 => ?_)
      · rw [hit_iff hw] at c41
        refine ax_iincn (n := 1) dX2_writesOnAnyOf_46 rfl (by decide) rfl ?_
        refine ax_goto 2 dX2_writesOnAnyOf_49 (by decide) ?_
        refine ax_fg [true, true, true, false] rfl ?_
        exact ih (i + 1) V (by omega) (by rw [← hV, List.range'_succ, List.any_cons]; simp [c10, c29, c41, Nat.add_assoc])
      · rw [hit_iff hw, Bool.not_eq_false] at c41
        refine ax_iconst (ax_b true) dX2_writesOnAnyOf_44 (by decide) ?_
        refine ax_bret dX2_writesOnAnyOf_45 rfl ⟨(Nat.le_refl _), (Nat.le_refl _)⟩ ?_ ?_
        · rw [← hV, List.range'_succ, List.any_cons]; simp [c10, c29, c41]
        · rfl
theorem ok_writesOn (hw : kf κ) {t : Nat} {Q : Nat → Bool} (ht : t < κ.1 10 0) : ax_Ok mX2_writesOnAnyOf yX2_writesOnAnyOf 4 0 0 [ax_r (8, t), ax_i (nI (mk Q))] (fh (ch κ) ρ) (ax_D (ax_i (ax_b ((rI κ t).any (fun k => κ.2.1 22 k && cHt κ (κ.1 18 k) Q)))) (fh (ch κ) ρ)) := by
  refine ax_Ok.of (by decide) rfl (fun q => by cases q) (Nat.le_of_ble_eq_true rfl) rfl ?_
  refine ax_iconst (nI 0) dX2_writesOnAnyOf_0 (by decide) ?_
  refine ax_istore_n dX2_writesOnAnyOf_1 rfl (by decide) ?_
  exact lp_writesOn hw ht (κ.1 14 t) 0 _ (Nat.zero_add _) rfl
theorem ok_newVersion {k : Nat} (hik : ik κ k) : ax_Ok mX0_newVersion yX0_newVersion 1 0 0 [ax_r (9, k)] (fh (ch κ) ρ) (ax_D (ax_i (nI (κ.1 21 k + 1))) (fh (ch κ) ρ)) := by
  refine ax_Ok.of (by decide) rfl (fun q => by cases q) (Nat.le_of_ble_eq_true rfl) rfl ?_
  refine ax_aload_n dX0_newVersion_0 rfl ?_
  refine ax_get (ci := 1) (k := 3) (T := TX0) dX0_newVersion_1 (ch_I (by assumption)) rfl (by decide) fl_X0_35 rfl ?_
  refine ax_iconst (nI 1) dX0_newVersion_4 (by decide) ?_
  refine ax_iaddn dX0_newVersion_5 ?_
  refine ax_iretD dX0_newVersion_6 rfl ⟨(Nat.le_refl _), (Nat.le_refl _)⟩ ?_ ?_
  · rfl
  · rfl
theorem ok_isLockedBy (hw : kf κ) {k : Nat} {x : Int32} (hik : ik κ k) : ax_Ok mX0_isLockedBy yX0_isLockedBy 1 0 0 [ax_r (9, k), ax_i x] (fh (ch κ) ρ) (ax_D (ax_i (ax_b (decide (κ.2.2 9 (8 * κ.1 18 k + κ.1 19 k) = x)))) (fh (ch κ) ρ)) := by
  refine ax_Ok.of (by decide) rfl (fun q => by cases q) (Nat.le_of_ble_eq_true rfl) rfl ?_
  refine ax_aload_n dX0_isLockedBy_0 rfl ?_
  refine ax_get (ci := 1) (k := 0) (T := TX0) dX0_isLockedBy_1 (ch_I (by assumption)) rfl (by decide) fl_X0_25 rfl ?_
  refine ax_get (ci := 2) (k := 6) (T := TX1) dX0_isLockedBy_4 (ch_R (by first | assumption | exact ik.r hw (by assumption))) rfl (by decide) fl_X0_38 rfl ?_
  refine ax_aload_n dX0_isLockedBy_7 rfl ?_
  refine ax_get (ci := 1) (k := 1) (T := TX0) dX0_isLockedBy_8 (ch_I (by assumption)) rfl (by decide) fl_X0_29 rfl ?_
  refine cl_lk dX0_isLockedBy_11 (by first | assumption | exact ik.r hw (by assumption)) (by first | omega | exact hw.o8 _) ?_
  refine ax_iload_n dX0_isLockedBy_12 rfl ?_
  refine ax_icmp_ne 20 dX0_isLockedBy_13 (by decide) (fun c13 => ?_) (fun c13 => ?_)
  · refine ax_iconst (ax_b false) dX0_isLockedBy_20 (by decide) ?_
    refine ax_bret dX0_isLockedBy_21 rfl ⟨(Nat.le_refl _), (Nat.le_refl _)⟩ ?_ ?_
    · simp [c13]
    · rfl
  · refine ax_iconst (ax_b true) dX0_isLockedBy_16 (by decide) ?_
    refine ax_goto 21 dX0_isLockedBy_17 (by decide) ?_
    refine ax_bret dX0_isLockedBy_21 rfl ⟨(Nat.le_refl _), (Nat.le_refl _)⟩ ?_ ?_
    · simp [c13]
    · rfl
def cPu (κ : ax_R) (r s q : Nat) (v : Int32) (n : Nat) : ax_R := nu (ru κ 7 (8 * (6 * r + s) + q) v) 8 (8 * (6 * r + s) + q) n
def cRz (κ : ax_R) (r s q : Nat) (v : Int32) (n : Nat) : ax_R := if κ.1 8 (8 * (6 * r + s) + q) < n then cPu κ r s q v n else κ
theorem kf_pu (hw : kf κ) {r s q n : Nat} {v : Int32} (hs : s < κ.1 5 r) (hq : q < 8) (hn : n < 1000000) : kf (cPu κ r s q v n) := kf_vn (kf_vv hw hs hq) hs hq hn
theorem kf_rz (hw : kf κ) {r s q n : Nat} {v : Int32} (hs : s < κ.1 5 r) (hq : q < 8) (hn : n < 1000000) : kf (cRz κ r s q v n) := by
  unfold cRz
  split
  · exact kf_pu hw hs hq hn
  · exact hw
theorem ok_put (hw : kf κ) {r s q n : Nat} {v : Int32} (hr : r < κ.1 4 0) (hs : s < κ.1 5 r) (hq : q < 8) : ax_Ok mX1_put yX1_put 1 0 0 [ax_r (3, r), ax_i (nI (κ.1 6 (6 * r + s) * 8 + q)), ax_i v, ax_i (nI n)] (fh (ch κ) ρ) (ax_DV (fh (ch (cPu κ r s q v n)) ρ)) := by
  refine ax_Ok.of (by decide) rfl (fun q => by cases q) (Nat.le_of_ble_eq_true rfl) rfl ?_
  refine ax_aload_n dX1_put_0 rfl ?_
  refine ax_get (ci := 2) (k := 4) (T := TX1) dX1_put_1 (ch_R (by first | assumption | exact ik.r hw (by assumption))) rfl (by decide) fl_X1_22 rfl ?_
  refine ax_iload_n dX1_put_4 rfl ?_
  refine ax_iload_n dX1_put_5 rfl ?_
  refine ct_vv hw dX1_put_6 (by first | assumption | exact ik.r hw (by assumption)) ⟨hs, hq⟩ ?_
  have hw2 := kf_vv (v := v) hw hs hq
  refine ax_aload_n dX1_put_7 rfl ?_
  refine ax_get (ci := 2) (k := 5) (T := TX1) dX1_put_8 (ch_R (by first | assumption | exact ik.r hw (by assumption))) rfl (by decide) fl_X1_25 rfl ?_
  refine ax_iload_n dX1_put_11 rfl ?_
  refine ax_iload_n dX1_put_12 rfl ?_
  refine ct_vn (r := r) (s := s) (q := q) hw2 dX1_put_13 (by first | assumption | exact ik.r hw (by assumption)) ⟨hs, hq⟩ ?_
  refine ax_vretD dX1_put_14 rfl ⟨(Nat.le_refl _), (Nat.le_refl _)⟩ ?_
  rfl
theorem ok_raise (hw : kf κ) {r s q n : Nat} {v : Int32} (hr : r < κ.1 4 0) (hs : s < κ.1 5 r) (hq : q < 8) (hn : n < 1000000) : ax_Ok mX1_raise yX1_raise 2 0 0 [ax_r (3, r), ax_i (nI (κ.1 6 (6 * r + s) * 8 + q)), ax_i v, ax_i (nI n)] (fh (ch κ) ρ) (ax_DV (fh (ch (cRz κ r s q v n)) ρ)) := by
  refine ax_Ok.of (by decide) rfl (fun q => by cases q) (Nat.le_of_ble_eq_true rfl) rfl ?_
  refine ax_aload_n dX1_raise_0 rfl ?_
  refine ax_get (ci := 2) (k := 5) (T := TX1) dX1_raise_1 (ch_R (by first | assumption | exact ik.r hw (by assumption))) rfl (by decide) fl_X1_25 rfl ?_
  refine ax_iload_n dX1_raise_4 rfl ?_
  refine cl_vn hw dX1_raise_5 (by first | assumption | exact ik.r hw (by assumption)) ⟨hs, hq⟩ ?_
  refine ax_iload_n dX1_raise_6 rfl ?_
  refine ax_nge 17 dX1_raise_7 (by decide) (by have := hw.lt 8 (8 * (6 * r + s) + q); omega) (by omega) (fun c7 => ?_) (fun c7 => ?_)
  · refine ax_vretD dX1_raise_17 rfl ⟨(Nat.le_refl _), (Nat.le_refl _)⟩ ?_
    first | (rw [cRz, if_pos c7]) | (rw [cRz, if_neg (by omega)])
  · refine ax_aload_n dX1_raise_10 rfl ?_
    refine ax_iload_n dX1_raise_11 rfl ?_
    refine ax_iload_n dX1_raise_12 rfl ?_
    refine ax_iload_n dX1_raise_13 rfl ?_
    refine ax_V3v cv_X1_38 dX1_raise_14 (ch_R (by first | assumption | exact ik.r hw (by assumption))) rfl (ok_put hw hr hs hq) (by decide) (Nat.le_refl _) (Nat.le_refl _) (Nat.le_of_ble_eq_true rfl) ?_
    refine ax_vretD dX1_raise_17 rfl ⟨(Nat.le_refl _), (Nat.le_refl _)⟩ ?_
    first | (rw [cRz, if_pos c7]) | (rw [cRz, if_neg (by omega)])
theorem lp_copiesOn (hw : kf κ) {x : Nat} (hx : x < 6) : ∀ (m : Nat) (k n V : Nat), k + m = κ.1 4 0 → n + (List.range' k m).countP (fun r => pm κ r (fun _ => true) x) = V → ax_Z mX3_copiesOn 4 0 0 (ax_D (ax_i (nI V)) (fh (ch κ) ρ)) 4 [some (ax_r (1, 0)), some (ax_i (nI x)), some (ax_i (nI n)), some (ax_i (nI k))] [] (fh (ch κ) ρ) 0 0 := by
  intro m
  induction m with
  | zero =>
    intro k n V hk hV
    have h6 := hw.nR
    refine ax_iload_n dX3_copiesOn_4 rfl ?_
    refine ax_aload_n dX3_copiesOn_5 rfl ?_
    refine ax_get (ci := 4) (k := 0) (T := TX3) dX3_copiesOn_6 ch_O rfl (by decide) fl_X3_10 rfl ?_
    refine ax_V0 cv_X3_46 dX3_copiesOn_9 ch_lR rfl (ok_szR) (by decide) (Nat.le_refl _) (Nat.le_refl _) (Nat.le_of_ble_eq_true rfl) ?_
    refine ax_nge 45 dX3_copiesOn_12 (by decide) (by omega) (by omega) (fun c12 => ?_) (fun c12 => absurd c12 (by omega))
    refine ax_iload_n dX3_copiesOn_45 rfl ?_
    refine ax_iretD dX3_copiesOn_46 rfl ⟨(Nat.le_refl _), (Nat.le_refl _)⟩ ?_ ?_
    · rw [ls_c2 hV]
    · rfl
  | succ m ih =>
    intro k n V hk hV
    have h6 := hw.nR
    have hr : k < κ.1 4 0 := by omega
    refine ax_iload_n dX3_copiesOn_4 rfl ?_
    refine ax_aload_n dX3_copiesOn_5 rfl ?_
    refine ax_get (ci := 4) (k := 0) (T := TX3) dX3_copiesOn_6 ch_O rfl (by decide) fl_X3_10 rfl ?_
    refine ax_V0 cv_X3_46 dX3_copiesOn_9 ch_lR rfl (ok_szR) (by decide) (Nat.le_refl _) (Nat.le_refl _) (Nat.le_of_ble_eq_true rfl) ?_
    refine ax_nge 45 dX3_copiesOn_12 (by decide) (by omega) (by omega) (fun c12 => absurd c12 (by omega)) (fun c12 => ?_)
    refine ax_aload_n dX3_copiesOn_15 rfl ?_
    refine ax_get (ci := 4) (k := 0) (T := TX3) dX3_copiesOn_16 ch_O rfl (by decide) fl_X3_10 rfl ?_
    refine ax_iload_n dX3_copiesOn_19 rfl ?_
    refine ax_V1 cv_X3_77 dX3_copiesOn_20 ch_lR rfl (ok_geR hw (by first | assumption | omega)) (by decide) (Nat.le_refl _) (Nat.le_refl _) (Nat.le_of_ble_eq_true rfl) ?_
    refine ax_cast (ci := 2) dX3_copiesOn_23 cl_X3_50 (ch_R (by first | assumption | exact ik.r hw (by assumption))) rfl ?_
    refine ax_get (ci := 2) (k := 3) (T := TX1) dX3_copiesOn_26 (ch_R (by first | assumption | exact ik.r hw (by assumption))) rfl (by decide) fl_X3_108 rfl ?_
    refine ax_iload_n dX3_copiesOn_29 rfl ?_
    refine ax_S2 cs_X3_111 dX3_copiesOn_30 (ok_holds (by first | omega | exact hw.m6 _ | exact hw.co6 _)) (by decide) (Nat.le_refl _) (Nat.le_refl _) (Nat.le_of_ble_eq_true rfl) ?_
    refine ax_beq 39 dX3_copiesOn_33 (by decide) (fun c33 => ?_) (fun c33 => ?_)
    · refine ax_iincn (n := 1) dX3_copiesOn_39 rfl (by decide) rfl ?_
      refine ax_goto 4 dX3_copiesOn_42 (by decide) ?_
      first | exact ih (k + 1) (n + 0) V (by omega) (ls_c0 c33 hV) | exact ih (k + 1) (n + 1) V (by omega) (ls_c1 c33 hV)
    · refine ax_iincn (n := 1) dX3_copiesOn_36 rfl (by decide) rfl ?_
      refine ax_iincn (n := 1) dX3_copiesOn_39 rfl (by decide) rfl ?_
      refine ax_goto 4 dX3_copiesOn_42 (by decide) ?_
      first | exact ih (k + 1) (n + 0) V (by omega) (ls_c0 c33 hV) | exact ih (k + 1) (n + 1) V (by omega) (ls_c1 c33 hV)
theorem ok_copiesOn (hw : kf κ) {x : Nat} (hx : x < 6) : ax_Ok mX3_copiesOn yX3_copiesOn 4 0 0 [ax_r (1, 0), ax_i (nI x)] (fh (ch κ) ρ) (ax_D (ax_i (nI ((List.range' 0 (κ.1 4 0)).countP (fun r => pm κ r (fun _ => true) x)))) (fh (ch κ) ρ)) := by
  refine ax_Ok.of (by decide) rfl (fun q => by cases q) (Nat.le_of_ble_eq_true rfl) rfl ?_
  refine ax_iconst (nI 0) dX3_copiesOn_0 (by decide) ?_
  refine ax_istore_n dX3_copiesOn_1 rfl (by decide) ?_
  refine ax_iconst (nI 0) dX3_copiesOn_2 (by decide) ?_
  refine ax_istore_n dX3_copiesOn_3 rfl (by decide) ?_
  exact lp_copiesOn hw hx (κ.1 4 0) 0 0 _ (Nat.zero_add _) (Nat.zero_add _)
def cAl (κ : ax_R) (r p k : Nat) : Bool := (List.range' 0 8).all fun x => decide (κ.2.2 7 (8 * (6 * r + p) + x) = κ.2.2 7 (8 * (6 * r + k) + x)) && decide (κ.1 8 (8 * (6 * r + p) + x) = κ.1 8 (8 * (6 * r + k) + x))
def cAr (κ : ax_R) (r : Nat) : Bool := match cPr κ r with
  | none => true
  | some p => (List.range' 0 (κ.1 5 r)).all fun k => !rO κ r k || cAl κ r p k
theorem lp_areAlike (hw : kf κ) {r p b : Nat} (hr : r < κ.1 4 0) (hp : p < κ.1 5 r) (hb : b < κ.1 5 r) : ∀ (m : Nat) (k : Nat) (V : Bool), k + m = 8 → (List.range' k m).all (fun x => decide (κ.2.2 7 (8 * (6 * r + p) + x) = κ.2.2 7 (8 * (6 * r + b) + x)) && decide (κ.1 8 (8 * (6 * r + p) + x) = κ.1 8 (8 * (6 * r + b) + x))) = V → ax_Z mX3_areAlike 2 0 0 (ax_D (ax_i (ax_b V)) (fh (ch κ) ρ)) 2 [some (ax_r (3, r)), some (ax_i (nI (κ.1 6 (6 * r + p)))), some (ax_i (nI (κ.1 6 (6 * r + b)))), some (ax_i (nI k)), none, none] [] (fh (ch κ) ρ) 0 0 := by
  intro m
  induction m with
  | zero =>
    intro k V hk hV
    refine ax_iload_n dX3_areAlike_2 rfl ?_
    refine ax_bipush (nI 8) dX3_areAlike_3 (by decide) ?_
    refine ax_nge 64 dX3_areAlike_5 (by decide) (by omega) (by omega) (fun c5 => ?_) (fun c5 => absurd c5 (by omega))
    refine ax_iconst (ax_b true) dX3_areAlike_64 (by decide) ?_
    refine ax_bret dX3_areAlike_65 rfl ⟨(Nat.le_refl _), (Nat.le_refl _)⟩ ?_ ?_
    · rw [← hV]; rfl
    · rfl
  | succ m ih =>
    intro k V hk hV
    refine ax_iload_n dX3_areAlike_2 rfl ?_
    refine ax_bipush (nI 8) dX3_areAlike_3 (by decide) ?_
    refine ax_nge 64 dX3_areAlike_5 (by decide) (by omega) (by omega) (fun c5 => absurd c5 (by omega)) (fun c5 => ?_)
    refine ax_iload_n dX3_areAlike_8 rfl ?_
    refine ax_iload_n dX3_areAlike_9 rfl ?_
    refine ax_S2 cs_X3_122 dX3_areAlike_10 (ok_ccell) (by decide) (Nat.le_refl _) (Nat.le_refl _) (Nat.le_of_ble_eq_true rfl) ?_
    refine ax_istore dX3_areAlike_13 rfl (by decide) ?_
    refine ax_iload_n dX3_areAlike_15 rfl ?_
    refine ax_iload_n dX3_areAlike_16 rfl ?_
    refine ax_S2 cs_X3_122 dX3_areAlike_17 (ok_ccell) (by decide) (Nat.le_refl _) (Nat.le_refl _) (Nat.le_of_ble_eq_true rfl) ?_
    refine ax_istore dX3_areAlike_20 rfl (by decide) ?_
    refine ax_aload_n dX3_areAlike_22 rfl ?_
    refine ax_get (ci := 2) (k := 4) (T := TX1) dX3_areAlike_23 (ch_R (by first | assumption | exact ik.r hw (by assumption))) rfl (by decide) fl_X3_126 rfl ?_
    refine ax_iload dX3_areAlike_26 rfl ?_
    refine cl_vv hw dX3_areAlike_28 (by first | assumption | exact ik.r hw (by assumption)) ⟨hp, by omega⟩ ?_
    refine ax_aload_n dX3_areAlike_29 rfl ?_
    refine ax_get (ci := 2) (k := 4) (T := TX1) dX3_areAlike_30 (ch_R (by first | assumption | exact ik.r hw (by assumption))) rfl (by decide) fl_X3_126 rfl ?_
    refine ax_iload dX3_areAlike_33 rfl ?_
    refine cl_vv hw dX3_areAlike_35 (by first | assumption | exact ik.r hw (by assumption)) ⟨hb, by omega⟩ ?_
    refine ax_icmp_ne 56 dX3_areAlike_36 (by decide) (fun c36 => ?_) (fun c36 => ?_)
    · refine ax_iconst (ax_b false) dX3_areAlike_56 (by decide) ?_
      refine ax_bret dX3_areAlike_57 rfl ⟨(Nat.le_refl _), (Nat.le_refl _)⟩ ?_ ?_
      · rw [← hV, List.range'_succ, List.all_cons]; simp [c5, c36]
      · rfl
    · refine ax_aload_n dX3_areAlike_39 rfl ?_
      refine ax_get (ci := 2) (k := 5) (T := TX1) dX3_areAlike_40 (ch_R (by first | assumption | exact ik.r hw (by assumption))) rfl (by decide) fl_X3_129 rfl ?_
      refine ax_iload dX3_areAlike_43 rfl ?_
      refine cl_vn hw dX3_areAlike_45 (by first | assumption | exact ik.r hw (by assumption)) ⟨hp, by omega⟩ ?_
      refine ax_aload_n dX3_areAlike_46 rfl ?_
      refine ax_get (ci := 2) (k := 5) (T := TX1) dX3_areAlike_47 (ch_R (by first | assumption | exact ik.r hw (by assumption))) rfl (by decide) fl_X3_129 rfl ?_
      refine ax_iload dX3_areAlike_50 rfl ?_
      refine cl_vn hw dX3_areAlike_52 (by first | assumption | exact ik.r hw (by assumption)) ⟨hb, by omega⟩ ?_
      refine ax_neq 58 dX3_areAlike_53 (by decide) (n31 (hw.lt 8 _)) (n31 (hw.lt 8 _)) (fun c53 => ?_) (fun c53 => ?_)
      · refine ax_iincn (n := 1) dX3_areAlike_58 rfl (by decide) rfl ?_
        refine ax_goto 2 dX3_areAlike_61 (by decide) ?_
        refine ax_fg [true, true, true, true, false, false] rfl ?_
        exact ih (k + 1) V (by omega) (by rw [← hV, List.range'_succ, List.all_cons]; simp [c5, c36, c53])
      · refine ax_iconst (ax_b false) dX3_areAlike_56 (by decide) ?_
        refine ax_bret dX3_areAlike_57 rfl ⟨(Nat.le_refl _), (Nat.le_refl _)⟩ ?_ ?_
        · rw [← hV, List.range'_succ, List.all_cons]; simp [c5, c36, c53]
        · rfl
theorem ok_areAlike (hw : kf κ) {r p b : Nat} (hr : r < κ.1 4 0) (hp : p < κ.1 5 r) (hb : b < κ.1 5 r) : ax_Ok mX3_areAlike yX3_areAlike 2 0 0 [ax_r (3, r), ax_i (nI (κ.1 6 (6 * r + p))), ax_i (nI (κ.1 6 (6 * r + b)))] (fh (ch κ) ρ) (ax_D (ax_i (ax_b (cAl κ r p b))) (fh (ch κ) ρ)) := by
  refine ax_Ok.of (by decide) rfl (fun q => by cases q) (Nat.le_of_ble_eq_true rfl) rfl ?_
  refine ax_iconst (nI 0) dX3_areAlike_0 (by decide) ?_
  refine ax_istore_n dX3_areAlike_1 rfl (by decide) ?_
  exact lp_areAlike hw hr hp hb 8 0 _ rfl rfl
theorem lp_copiesAlike (hw : kf κ) {r p : Nat} (hr : r < κ.1 4 0) (hp : p < κ.1 5 r) : ∀ (m : Nat) (k : Nat) (V : Bool), k + m = κ.1 5 r → (List.range' k m).all (fun k => !rO κ r k || cAl κ r p k) = V → ax_Z mX3_areCopiesAlike 3 0 0 (ax_D (ax_i (ax_b V)) (fh (ch κ) ρ)) 16 [some (ax_r (1, 0)), some (ax_r (3, r)), some (ax_i (nI (κ.1 6 (6 * r + p)))), some (ax_i (nI k))] [] (fh (ch κ) ρ) 0 0 := by
  intro m
  induction m with
  | zero =>
    intro k V hk hV
    have h5 := hw.c6 r
    refine ax_iload_n dX3_areCopiesAlike_16 rfl ?_
    refine ax_aload_n dX3_areCopiesAlike_17 rfl ?_
    refine ax_get (ci := 2) (k := 2) (T := TX1) dX3_areCopiesAlike_18 (ch_R (by first | assumption | exact ik.r hw (by assumption))) rfl (by decide) fl_X3_250 rfl ?_
    refine ax_nge 59 dX3_areCopiesAlike_21 (by decide) (by omega) (by omega) (fun c21 => ?_) (fun c21 => absurd c21 (by omega))
    refine ax_iconst (ax_b true) dX3_areCopiesAlike_59 (by decide) ?_
    refine ax_bret dX3_areCopiesAlike_60 rfl ⟨(Nat.le_refl _), (Nat.le_refl _)⟩ ?_ ?_
    · rw [← hV]; rfl
    · rfl
  | succ m ih =>
    intro k V hk hV
    have h5 := hw.c6 r
    refine ax_iload_n dX3_areCopiesAlike_16 rfl ?_
    refine ax_aload_n dX3_areCopiesAlike_17 rfl ?_
    refine ax_get (ci := 2) (k := 2) (T := TX1) dX3_areCopiesAlike_18 (ch_R (by first | assumption | exact ik.r hw (by assumption))) rfl (by decide) fl_X3_250 rfl ?_
    refine ax_nge 59 dX3_areCopiesAlike_21 (by decide) (by omega) (by omega) (fun c21 => absurd c21 (by omega)) (fun c21 => ?_)
    refine ax_aload_n dX3_areCopiesAlike_24 rfl ?_
    refine ax_aload_n dX3_areCopiesAlike_25 rfl ?_
    refine ax_get (ci := 2) (k := 1) (T := TX1) dX3_areCopiesAlike_26 (ch_R (by first | assumption | exact ik.r hw (by assumption))) rfl (by decide) fl_X3_253 rfl ?_
    refine ax_iload_n dX3_areCopiesAlike_29 rfl ?_
    refine cl_od dX3_areCopiesAlike_30 (by first | assumption | exact ik.r hw (by assumption)) (by omega) ?_
    refine ax_V1 cv_X3_43 dX3_areCopiesAlike_31 ch_O rfl (ok_isMember (by first | omega | exact hw.m6 _ | exact hw.co6 _)) (by decide) (Nat.le_refl _) (Nat.le_refl _) (Nat.le_of_ble_eq_true rfl) ?_
    refine ax_beq 53 dX3_areCopiesAlike_34 (by decide) (fun c34 => ?_) (fun c34 => ?_)
    · refine ax_iincn (n := 1) dX3_areCopiesAlike_53 rfl (by decide) rfl ?_
      refine ax_goto 16 dX3_areCopiesAlike_56 (by decide) ?_
      exact ih (k + 1) V (by omega) (by rw [← hV, List.range'_succ, List.all_cons]; simp [rO, c21, c34])
    · refine ax_aload_n dX3_areCopiesAlike_37 rfl ?_
      refine ax_iload_n dX3_areCopiesAlike_38 rfl ?_
      refine ax_aload_n dX3_areCopiesAlike_39 rfl ?_
      refine ax_get (ci := 2) (k := 1) (T := TX1) dX3_areCopiesAlike_40 (ch_R (by first | assumption | exact ik.r hw (by assumption))) rfl (by decide) fl_X3_253 rfl ?_
      refine ax_iload_n dX3_areCopiesAlike_43 rfl ?_
      refine cl_od dX3_areCopiesAlike_44 (by first | assumption | exact ik.r hw (by assumption)) (by omega) ?_
      refine ax_S3 cs_X3_256 dX3_areCopiesAlike_45 (ok_areAlike hw hr hp (by omega)) (by decide) (Nat.le_refl _) (Nat.le_refl _) (Nat.le_of_ble_eq_true rfl) ?_
      refine ax_bne 53 dX3_areCopiesAlike_48 (by decide) (fun c48 => ?_) (fun c48 => ?_)
      · refine ax_iincn (n := 1) dX3_areCopiesAlike_53 rfl (by decide) rfl ?_
        refine ax_goto 16 dX3_areCopiesAlike_56 (by decide) ?_
        exact ih (k + 1) V (by omega) (by rw [← hV, List.range'_succ, List.all_cons]; simp [rO, c21, c34, c48])
      · refine ax_iconst (ax_b false) dX3_areCopiesAlike_51 (by decide) ?_
        refine ax_bret dX3_areCopiesAlike_52 rfl ⟨(Nat.le_refl _), (Nat.le_refl _)⟩ ?_ ?_
        · rw [← hV, List.range'_succ, List.all_cons]; simp [rO, c21, c34, c48]
        · rfl
theorem ok_copiesAlikeN (hw : kf κ) {r : Nat} (hr : r < κ.1 4 0) (hp : cPr κ r = none) : ax_Ok mX3_areCopiesAlike yX3_areCopiesAlike 3 0 0 [ax_r (1, 0), ax_r (3, r)] (fh (ch κ) ρ) (ax_D (ax_i (ax_b (cAr κ r))) (fh (ch κ) ρ)) := by
  refine ax_Ok.of (by decide) rfl (fun q => by cases q) (Nat.le_of_ble_eq_true rfl) rfl ?_
  refine ax_aload_n dX3_areCopiesAlike_0 rfl ?_
  refine ax_aload_n dX3_areCopiesAlike_1 rfl ?_
  refine ax_V1 cv_X3_104 dX3_areCopiesAlike_2 ch_O rfl (ok_prN hw hr hp) (by decide) (Nat.le_refl _) (Nat.le_refl _) (Nat.le_of_ble_eq_true rfl) ?_
  refine ax_istore_n dX3_areCopiesAlike_5 rfl (by decide) ?_
  refine ax_iload_n dX3_areCopiesAlike_6 rfl ?_
  refine ax_bipush (-9) dX3_areCopiesAlike_7 (by decide) ?_
  refine ax_icmp_ne 14 dX3_areCopiesAlike_9 (by decide) (fun c9 => absurd c9 (fun z => z rfl)) (fun c9 => ?_)
  refine ax_iconst (ax_b true) dX3_areCopiesAlike_12 (by decide) ?_
  refine ax_bret dX3_areCopiesAlike_13 rfl ⟨(Nat.le_refl _), (Nat.le_refl _)⟩ ?_ ?_
  · rw [cAr, hp]
  · rfl
theorem ok_copiesAlikeS (hw : kf κ) {r p : Nat} (hr : r < κ.1 4 0) (hp : cPr κ r = some p) : ax_Ok mX3_areCopiesAlike yX3_areCopiesAlike 3 0 0 [ax_r (1, 0), ax_r (3, r)] (fh (ch κ) ρ) (ax_D (ax_i (ax_b (cAr κ r))) (fh (ch κ) ρ)) := by
  refine ax_Ok.of (by decide) rfl (fun q => by cases q) (Nat.le_of_ble_eq_true rfl) rfl ?_
  refine ax_aload_n dX3_areCopiesAlike_0 rfl ?_
  refine ax_aload_n dX3_areCopiesAlike_1 rfl ?_
  refine ax_V1 cv_X3_104 dX3_areCopiesAlike_2 ch_O rfl (ok_prS hw hr hp) (by decide) (Nat.le_refl _) (Nat.le_refl _) (Nat.le_of_ble_eq_true rfl) ?_
  refine ax_istore_n dX3_areCopiesAlike_5 rfl (by decide) ?_
  refine ax_iload_n dX3_areCopiesAlike_6 rfl ?_
  refine ax_bipush (-9) dX3_areCopiesAlike_7 (by decide) ?_
  refine ax_icmp_ne 14 dX3_areCopiesAlike_9 (by decide) (fun c9 => ?_) (fun c9 => absurd c9 (fun z => (nI_ne9 (by have := hw.m6 (6 * r + p); omega)) z))
  refine ax_iconst (nI 0) dX3_areCopiesAlike_14 (by decide) ?_
  refine ax_istore_n dX3_areCopiesAlike_15 rfl (by decide) ?_
  exact lp_copiesAlike hw hr (cPr_lt hp).1 (κ.1 5 r) 0 _ (Nat.zero_add _) (by rw [cAr, hp])
theorem ok_copiesAlike (hw : kf κ) {r : Nat} (hr : r < κ.1 4 0) : ax_Ok mX3_areCopiesAlike yX3_areCopiesAlike 3 0 0 [ax_r (1, 0), ax_r (3, r)] (fh (ch κ) ρ) (ax_D (ax_i (ax_b (cAr κ r))) (fh (ch κ) ρ)) := by
  cases hp : cPr κ r with
  | none => exact ok_copiesAlikeN hw hr hp
  | some p => exact ok_copiesAlikeS hw hr hp
theorem lp_wuw (hw : kf κ) {r : Nat} (hr : r < κ.1 4 0) : ∀ (m : Nat) (t : Nat) (V : Bool), t + m = κ.1 10 0 → (List.range' t m).any (fun t => rAc κ t && rWr κ t r) = V → ax_Z mX3_isWrittenUnderWay 5 0 0 (ax_D (ax_i (ax_b V)) (fh (ch κ) ρ)) 2 [some (ax_r (1, 0)), some (ax_r (3, r)), some (ax_i (nI t)), none] [] (fh (ch κ) ρ) 0 0 := by
  intro m
  induction m with
  | zero =>
    intro t V hk hV
    have h6 := hw.nT
    refine ax_iload_n dX3_isWrittenUnderWay_2 rfl ?_
    refine ax_aload_n dX3_isWrittenUnderWay_3 rfl ?_
    refine ax_get (ci := 4) (k := 1) (T := TX3) dX3_isWrittenUnderWay_4 ch_O rfl (by decide) fl_X3_16 rfl ?_
    refine ax_V0 cv_X3_46 dX3_isWrittenUnderWay_7 ch_lT rfl (ok_szT) (by decide) (Nat.le_refl _) (Nat.le_refl _) (Nat.le_of_ble_eq_true rfl) ?_
    refine ax_nge 48 dX3_isWrittenUnderWay_10 (by decide) (by omega) (by omega) (fun c10 => ?_) (fun c10 => absurd c10 (by omega))
    refine ax_iconst (ax_b false) dX3_isWrittenUnderWay_48 (by decide) ?_
    refine ax_bret dX3_isWrittenUnderWay_49 rfl ⟨(Nat.le_refl _), (Nat.le_refl _)⟩ ?_ ?_
    · rw [← hV]; rfl
    · rfl
  | succ m ih =>
    intro t V hk hV
    have h6 := hw.nT
    have ht : t < κ.1 10 0 := by omega
    refine ax_iload_n dX3_isWrittenUnderWay_2 rfl ?_
    refine ax_aload_n dX3_isWrittenUnderWay_3 rfl ?_
    refine ax_get (ci := 4) (k := 1) (T := TX3) dX3_isWrittenUnderWay_4 ch_O rfl (by decide) fl_X3_16 rfl ?_
    refine ax_V0 cv_X3_46 dX3_isWrittenUnderWay_7 ch_lT rfl (ok_szT) (by decide) (Nat.le_refl _) (Nat.le_refl _) (Nat.le_of_ble_eq_true rfl) ?_
    refine ax_nge 48 dX3_isWrittenUnderWay_10 (by decide) (by omega) (by omega) (fun c10 => absurd c10 (by omega)) (fun c10 => ?_)
    refine ax_aload_n dX3_isWrittenUnderWay_13 rfl ?_
    refine ax_get (ci := 4) (k := 1) (T := TX3) dX3_isWrittenUnderWay_14 ch_O rfl (by decide) fl_X3_16 rfl ?_
    refine ax_iload_n dX3_isWrittenUnderWay_17 rfl ?_
    refine ax_V1 cv_X3_77 dX3_isWrittenUnderWay_18 ch_lT rfl (ok_geT hw (by first | assumption | omega)) (by decide) (Nat.le_refl _) (Nat.le_refl _) (Nat.le_of_ble_eq_true rfl) ?_
    refine ax_cast (ci := 3) dX3_isWrittenUnderWay_21 cl_X3_81 (ch_T (by assumption)) rfl ?_
    refine ax_astore_n dX3_isWrittenUnderWay_24 rfl (by decide) ?_
    refine ax_aload_n dX3_isWrittenUnderWay_25 rfl ?_
    refine ax_V0 cv_X3_201 dX3_isWrittenUnderWay_26 (ch_T (by assumption)) rfl (ok_isUnderWay hw (by assumption)) (by decide) (Nat.le_refl _) (Nat.le_refl _) (Nat.le_of_ble_eq_true rfl) ?_
    refine ax_beq 42 dX3_isWrittenUnderWay_29 (by decide) (fun c29 => ?_) (fun c29 => ?_)
    · refine ax_iincn (n := 1) dX3_isWrittenUnderWay_42 rfl (by decide) rfl ?_
      refine ax_goto 2 dX3_isWrittenUnderWay_45 (by decide) ?_
      refine ax_fg [true, true, true, false] rfl ?_
      exact ih (t + 1) V (by omega) (by rw [← hV, List.range'_succ, List.any_cons]; simp [c10, c29])
    · refine ax_aload_n dX3_isWrittenUnderWay_32 rfl ?_
      refine ax_aload_n dX3_isWrittenUnderWay_33 rfl ?_
      refine ax_V1 cv_X3_260 dX3_isWrittenUnderWay_34 (ch_T (by assumption)) rfl (ok_writesIn hw (by assumption)) (by decide) (Nat.le_refl _) (Nat.le_refl _) (Nat.le_of_ble_eq_true rfl) ?_
      refine ax_beq 42 dX3_isWrittenUnderWay_37 (by decide) (fun c37 => ?_) (fun c37 => ?_)
      · refine ax_iincn (n := 1) dX3_isWrittenUnderWay_42 rfl (by decide) rfl ?_
        refine ax_goto 2 dX3_isWrittenUnderWay_45 (by decide) ?_
        refine ax_fg [true, true, true, false] rfl ?_
        exact ih (t + 1) V (by omega) (by rw [← hV, List.range'_succ, List.any_cons]; simp [c10, c29, c37])
      · refine ax_iconst (ax_b true) dX3_isWrittenUnderWay_40 (by decide) ?_
        refine ax_bret dX3_isWrittenUnderWay_41 rfl ⟨(Nat.le_refl _), (Nat.le_refl _)⟩ ?_ ?_
        · rw [← hV, List.range'_succ, List.any_cons]; simp [c10, c29, c37]
        · rfl
theorem ok_wuw (hw : kf κ) {r : Nat} (hr : r < κ.1 4 0) : ax_Ok mX3_isWrittenUnderWay yX3_isWrittenUnderWay 5 0 0 [ax_r (1, 0), ax_r (3, r)] (fh (ch κ) ρ) (ax_D (ax_i (ax_b ((List.range' 0 (κ.1 10 0)).any (fun t => rAc κ t && rWr κ t r)))) (fh (ch κ) ρ)) := by
  refine ax_Ok.of (by decide) rfl (fun q => by cases q) (Nat.le_of_ble_eq_true rfl) rfl ?_
  refine ax_iconst (nI 0) dX3_isWrittenUnderWay_0 (by decide) ?_
  refine ax_istore_n dX3_isWrittenUnderWay_1 rfl (by decide) ?_
  exact lp_wuw hw hr (κ.1 10 0) 0 _ (Nat.zero_add _) rfl
theorem ok_cIsV {h : ax_H} (x : Int32) : ax_Ok mX3_isValue yX3_isValue 1 0 0 [ax_i x] h (ax_D (ax_i (ax_b (rVal x))) h) := by
  refine ax_Ok.of (by decide) rfl (fun q => by cases q) (Nat.le_of_ble_eq_true rfl) rfl ?_
  refine ax_iload_n dX3_isValue_0 rfl ?_
  refine ax_ldc dX3_isValue_1 co_X3_245 ?_
  refine ax_icmp_lt 12 dX3_isValue_3 (by decide) (fun c3 => ?_) (fun c3 => ?_)
  · refine ax_iload_n dX3_isValue_12 rfl ?_
    refine ax_if_lt 26 dX3_isValue_13 (by decide) (fun c13 => ?_) (fun c13 => ?_)
    · refine ax_iconst (ax_b false) dX3_isValue_26 (by decide) ?_
      refine ax_bret dX3_isValue_27 rfl ⟨(Nat.le_refl _), (Nat.le_refl _)⟩ ?_ ?_
      · symm; simp only [rVal]; simp_all [Int32.not_lt, Int32.not_le] <;> (have e1 : (-1000000 : Int32).toInt = -1000000 := (by decide); have e2 : (-10 : Int32).toInt = -10 := (by decide); have e3 : (0 : Int32).toInt = 0 := (by decide); have e4 : (1000000 : Int32).toInt = 1000000 := (by decide); simp only [Int32.lt_iff_toInt_lt, Int32.le_iff_toInt_le] at *; omega)
      · rfl
    · refine ax_iload_n dX3_isValue_16 rfl ?_
      refine ax_ldc dX3_isValue_17 co_X3_246 ?_
      refine ax_icmp_gt 26 dX3_isValue_19 (by decide) (fun c19 => ?_) (fun c19 => ?_)
      · refine ax_iconst (ax_b false) dX3_isValue_26 (by decide) ?_
        refine ax_bret dX3_isValue_27 rfl ⟨(Nat.le_refl _), (Nat.le_refl _)⟩ ?_ ?_
        · symm; simp only [rVal]; simp_all [Int32.not_lt, Int32.not_le] <;> (have e1 : (-1000000 : Int32).toInt = -1000000 := (by decide); have e2 : (-10 : Int32).toInt = -10 := (by decide); have e3 : (0 : Int32).toInt = 0 := (by decide); have e4 : (1000000 : Int32).toInt = 1000000 := (by decide); simp only [Int32.lt_iff_toInt_lt, Int32.le_iff_toInt_le] at *; omega)
        · rfl
      · refine ax_iconst (ax_b true) dX3_isValue_22 (by decide) ?_
        refine ax_goto 27 dX3_isValue_23 (by decide) ?_
        refine ax_bret dX3_isValue_27 rfl ⟨(Nat.le_refl _), (Nat.le_refl _)⟩ ?_ ?_
        · symm; simp only [rVal]; simp_all [Int32.not_lt, Int32.not_le] <;> (have e1 : (-1000000 : Int32).toInt = -1000000 := (by decide); have e2 : (-10 : Int32).toInt = -10 := (by decide); have e3 : (0 : Int32).toInt = 0 := (by decide); have e4 : (1000000 : Int32).toInt = 1000000 := (by decide); simp only [Int32.lt_iff_toInt_lt, Int32.le_iff_toInt_le] at *; omega)
        · rfl
  · refine ax_iload_n dX3_isValue_6 rfl ?_
    refine ax_bipush (-10) dX3_isValue_7 (by decide) ?_
    refine ax_icmp_le 22 dX3_isValue_9 (by decide) (fun c9 => ?_) (fun c9 => ?_)
    · refine ax_iconst (ax_b true) dX3_isValue_22 (by decide) ?_
      refine ax_goto 27 dX3_isValue_23 (by decide) ?_
      refine ax_bret dX3_isValue_27 rfl ⟨(Nat.le_refl _), (Nat.le_refl _)⟩ ?_ ?_
      · symm; simp only [rVal]; simp_all [Int32.not_lt, Int32.not_le] <;> (have e1 : (-1000000 : Int32).toInt = -1000000 := (by decide); have e2 : (-10 : Int32).toInt = -10 := (by decide); have e3 : (0 : Int32).toInt = 0 := (by decide); have e4 : (1000000 : Int32).toInt = 1000000 := (by decide); simp only [Int32.lt_iff_toInt_lt, Int32.le_iff_toInt_le] at *; omega)
      · rfl
    · refine ax_iload_n dX3_isValue_12 rfl ?_
      refine ax_if_lt 26 dX3_isValue_13 (by decide) (fun c13 => ?_) (fun c13 => ?_)
      · refine ax_iconst (ax_b false) dX3_isValue_26 (by decide) ?_
        refine ax_bret dX3_isValue_27 rfl ⟨(Nat.le_refl _), (Nat.le_refl _)⟩ ?_ ?_
        · symm; simp only [rVal]; simp_all [Int32.not_lt, Int32.not_le] <;> (have e1 : (-1000000 : Int32).toInt = -1000000 := (by decide); have e2 : (-10 : Int32).toInt = -10 := (by decide); have e3 : (0 : Int32).toInt = 0 := (by decide); have e4 : (1000000 : Int32).toInt = 1000000 := (by decide); simp only [Int32.lt_iff_toInt_lt, Int32.le_iff_toInt_le] at *; omega)
        · rfl
      · refine ax_iload_n dX3_isValue_16 rfl ?_
        refine ax_ldc dX3_isValue_17 co_X3_246 ?_
        refine ax_icmp_gt 26 dX3_isValue_19 (by decide) (fun c19 => ?_) (fun c19 => ?_)
        · refine ax_iconst (ax_b false) dX3_isValue_26 (by decide) ?_
          refine ax_bret dX3_isValue_27 rfl ⟨(Nat.le_refl _), (Nat.le_refl _)⟩ ?_ ?_
          · symm; simp only [rVal]; simp_all [Int32.not_lt, Int32.not_le] <;> (have e1 : (-1000000 : Int32).toInt = -1000000 := (by decide); have e2 : (-10 : Int32).toInt = -10 := (by decide); have e3 : (0 : Int32).toInt = 0 := (by decide); have e4 : (1000000 : Int32).toInt = 1000000 := (by decide); simp only [Int32.lt_iff_toInt_lt, Int32.le_iff_toInt_le] at *; omega)
          · rfl
        · refine ax_iconst (ax_b true) dX3_isValue_22 (by decide) ?_
          refine ax_goto 27 dX3_isValue_23 (by decide) ?_
          refine ax_bret dX3_isValue_27 rfl ⟨(Nat.le_refl _), (Nat.le_refl _)⟩ ?_ ?_
          · symm; simp only [rVal]; simp_all [Int32.not_lt, Int32.not_le] <;> (have e1 : (-1000000 : Int32).toInt = -1000000 := (by decide); have e2 : (-10 : Int32).toInt = -10 := (by decide); have e3 : (0 : Int32).toInt = 0 := (by decide); have e4 : (1000000 : Int32).toInt = 1000000 := (by decide); simp only [Int32.lt_iff_toInt_lt, Int32.le_iff_toInt_le] at *; omega)
          · rfl
end CLS2
