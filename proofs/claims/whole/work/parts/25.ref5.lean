theorem rR_in {ρ : ax_R} (hw : rf_ok ρ) {t r o : Nat} (ht : t < 60) : (rR ρ t r o).1 < 0 ∨ ∃ j, j < 480 ∧ (rR ρ t r o).1 = nI j := by
  have h14 := rk_14 hw t
  rcases rR_cases ρ t r o with ⟨h, -⟩ | ⟨j, hj, e⟩ | ⟨-, h8, e⟩
  · exact Or.inl h
  · exact Or.inr ⟨j, rIo_lt hw ht hj, by rw [e]⟩
  · exact Or.inr ⟨8 * t + ρ.1 14 t, by omega, by rw [e]⟩
theorem rN_ok {ρ : ax_R} (hw : rf_ok ρ) {t r o p : Nat} (hr : r < 6) (ho : o < 8) (h8 : ρ.1 14 t ≠ 8) : rf_ok (rN ρ t r o p) := by
  have h14 := rk_14 hw t
  exact rf_nu (rf_ru (rf_nu (rf_nu (rf_nu hw (by omega) (by show _ ≤ 8; omega)) (by omega) (by exact hr)) (by omega) (by exact ho)) (Or.inl (by decide))) (hw.1 _ _) (by exact trivial)
theorem rR_ok {ρ : ax_R} (hw : rf_ok ρ) {t r o : Nat} (hr : r < 6) (ho : o < 8) : rf_ok (rR ρ t r o).2 := by
  rcases rR_cases ρ t r o with ⟨-, h⟩ | ⟨j, hj, e⟩ | ⟨-, h8, e⟩
  · rw [h]; exact hw
  · rw [e]; exact hw
  · rw [e]; exact rN_ok hw hr ho h8
def rKn (ρ : ax_R) (x y z : Int32) : Bool := (decide (0 ≤ x) && decide (x ≤ nI (ρ.1 10 0) - 1)) && ((decide (0 ≤ y) && decide (y ≤ nI (ρ.1 4 0) - 1)) && (decide (0 ≤ z) && decide (z ≤ 7)))
def rRd (ρ : ax_R) (t r o : Nat) : Int32 × ax_R :=
  if (rR ρ t r o).1 < 0 then rR ρ t r o else (if (rR ρ t r o).2.2.1 22 (rR ρ t r o).1.toNatClampNeg = true then (rR ρ t r o).2.2.2 23 (rR ρ t r o).1.toNatClampNeg else (rR ρ t r o).2.2.2 20 (rR ρ t r o).1.toNatClampNeg, (rR ρ t r o).2)
def rVal (v : Int32) : Bool := (decide (-1000000 ≤ v) && decide (v ≤ -10)) || (decide (0 ≤ v) && decide (v ≤ 1000000))
def rWt (ρ : ax_R) (t r o : Nat) (v : Int32) : Int32 × ax_R :=
  if (rR ρ t r o).1 < 0 then rR ρ t r o else
    (nI (rW (ru (bu (rR ρ t r o).2 22 (rR ρ t r o).1.toNatClampNeg true) 23 (rR ρ t r o).1.toNatClampNeg v) t), ru (bu (rR ρ t r o).2 22 (rR ρ t r o).1.toNatClampNeg true) 23 (rR ρ t r o).1.toNatClampNeg v)
def rBg (ρ : ax_R) (m : Nat) : Int32 × ax_R :=
  if ρ.2.1 0 m = false ∨ ρ.2.1 1 m = false then (-3, ρ) else if ρ.1 10 0 = 60 then (-4, ρ) else (nI (ρ.1 10 0), nu (nu ρ 11 (ρ.1 10 0) m) 10 0 (ρ.1 10 0 + 1))
def rFa (ρ : ax_R) (m : Nat) : Int32 × ax_R := if ρ.2.1 0 m = false then (-3, ρ) else (nI (rUp (bu ρ 0 m false)), bu ρ 0 m false)
def rCm (ρ : ax_R) (t : Nat) : Int32 × ax_R :=
  if ρ.1 12 t ≠ 0 then (-3, ρ) else if ρ.2.1 0 (ρ.1 11 t) = false then (-6, ρ) else (nI ((rSt 9 (nu (nu ρ 12 t 1) 13 t 0) t).1 12 t), rSt 9 (nu (nu ρ 12 t 1) 13 t 0) t)
def rDr (ρ : ax_R) (t : Nat) : Int32 × ax_R :=
  if ρ.1 12 t ≠ 0 then (-3, ρ) else if ρ.2.1 0 (ρ.1 11 t) = false then (-6, ρ) else (8, nu ρ 12 t 8)
section REFM
variable {c : ax_H} {ρ : ax_R}
theorem ok_isKnown (x y z : Int32) : ax_Ok mX4_isKnown yX4_isKnown 3 0 0 [ax_r (80, 0), ax_i x, ax_i y, ax_i z] (fh c ρ) (ax_D (ax_i (ax_b (rKn ρ x y z))) (fh c ρ)) := by
  refine ax_Ok.of (by decide) rfl (fun q => by cases q) (Nat.le_of_ble_eq_true rfl) rfl ?_
  refine ax_aload_n dX4_isKnown_0 rfl ?_
  refine ax_iload_n dX4_isKnown_1 rfl ?_
  refine ax_V1 cv_X4_143 dX4_isKnown_2 fh_M rfl (ok_isTransaction _) (by decide) (Nat.le_refl _) (Nat.le_refl _) (Nat.le_of_ble_eq_true rfl) ?_
  refine ax_beq 32 dX4_isKnown_5 (by decide) (fun c5 => ?_) (fun c5 => ?_)
  · refine ax_iconst (ax_b false) dX4_isKnown_32 (by decide) ?_
    refine ax_bret dX4_isKnown_33 rfl ⟨(Nat.le_refl _), (Nat.le_refl _)⟩ ?_ ?_
    · simp [rKn, c5]
    · rfl
  · refine ax_aload_n dX4_isKnown_8 rfl ?_
    refine ax_iload_n dX4_isKnown_9 rfl ?_
    refine ax_V1 cv_X4_118 dX4_isKnown_10 fh_M rfl (ok_isRegion _) (by decide) (Nat.le_refl _) (Nat.le_refl _) (Nat.le_of_ble_eq_true rfl) ?_
    refine ax_beq 32 dX4_isKnown_13 (by decide) (fun c13 => ?_) (fun c13 => ?_)
    · refine ax_iconst (ax_b false) dX4_isKnown_32 (by decide) ?_
      refine ax_bret dX4_isKnown_33 rfl ⟨(Nat.le_refl _), (Nat.le_refl _)⟩ ?_ ?_
      · simp [rKn, c5, c13]
      · rfl
    · refine ax_iload_n dX4_isKnown_16 rfl ?_
      refine ax_i2l _ dX4_isKnown_17 rfl ?_
      refine ax_lconst 0 dX4_isKnown_18 (by decide) ?_
      refine ax_ldc2 dX4_isKnown_19 co_X4_146 ?_
      refine ax_S3 cs_X4_88 dX4_isKnown_22 (ok_in _ _ _) (by decide) (Nat.le_refl _) (Nat.le_refl _) (Nat.le_of_ble_eq_true rfl) ?_
      refine ax_beq 32 dX4_isKnown_25 (by decide) (fun c25 => ?_) (fun c25 => ?_)
      · have c25 : (decide (0 ≤ z) && decide (z ≤ 7)) = false := by rw [← c25, show (0 : Int64) = (0 : Int32).toInt64 from rfl, show (7 : Int64) = (7 : Int32).toInt64 from rfl]; simp only [i64_le]
        refine ax_iconst (ax_b false) dX4_isKnown_32 (by decide) ?_
        refine ax_bret dX4_isKnown_33 rfl ⟨(Nat.le_refl _), (Nat.le_refl _)⟩ ?_ ?_
        · simp [rKn, c5, c13, c25]
        · rfl
      · have c25 : (decide (0 ≤ z) && decide (z ≤ 7)) = true := by rw [← c25, show (0 : Int64) = (0 : Int32).toInt64 from rfl, show (7 : Int64) = (7 : Int32).toInt64 from rfl]; simp only [i64_le]
        refine ax_iconst (ax_b true) dX4_isKnown_28 (by decide) ?_
        refine ax_goto 33 dX4_isKnown_29 (by decide) ?_
        refine ax_bret dX4_isKnown_33 rfl ⟨(Nat.le_refl _), (Nat.le_refl _)⟩ ?_ ?_
        · simp [rKn, c5, c13, c25]
        · rfl
theorem ok_read0 {x y z : Int32} (hk : rKn ρ x y z = false) : ax_Ok mX4_read yX4_read 5 0 0 [ax_r (80, 0), ax_i x, ax_i y, ax_i z] (fh c ρ) (ax_D (ax_i (-1)) (fh c ρ)) := by
  refine ax_Ok.of (by decide) rfl (fun q => by cases q) (Nat.le_of_ble_eq_true rfl) rfl ?_
  refine ax_aload_n dX4_read_0 rfl ?_
  refine ax_iload_n dX4_read_1 rfl ?_
  refine ax_iload_n dX4_read_2 rfl ?_
  refine ax_iload_n dX4_read_3 rfl ?_
  refine ax_V3 cv_X4_148 dX4_read_4 fh_M rfl (ok_isKnown _ _ _) (by decide) (Nat.le_refl _) (Nat.le_refl _) (Nat.le_of_ble_eq_true rfl) ?_
  refine ax_bne 12 dX4_read_7 (by decide) (fun c7 => absurd c7 (by simp [hk])) (fun c7 => ?_)
  refine ax_iconst (-1) dX4_read_10 (by decide) ?_
  refine ax_iretD dX4_read_11 rfl ⟨(Nat.le_refl _), (Nat.le_refl _)⟩ ?_ ?_
  · rfl
  · rfl
theorem ok_read (hw : rf_ok ρ) {t r o : Nat} (ht : t < 60) (hr : r < 6) (ho : o < 8) (hk : rKn ρ (nI t) (nI r) (nI o) = true) : ax_Ok mX4_read yX4_read 5 0 0 [ax_r (80, 0), ax_i (nI t), ax_i (nI r), ax_i (nI o)] (fh c ρ) (ax_D (ax_i (rRd ρ t r o).1) (fh c (rRd ρ t r o).2)) := by
  refine ax_Ok.of (by decide) rfl (fun q => by cases q) (Nat.le_of_ble_eq_true rfl) rfl ?_
  rcases rR_in (r := r) (o := o) hw ht with hv | ⟨j, hj, ej⟩
  · skip
    refine ax_aload_n dX4_read_0 rfl ?_
    refine ax_iload_n dX4_read_1 rfl ?_
    refine ax_iload_n dX4_read_2 rfl ?_
    refine ax_iload_n dX4_read_3 rfl ?_
    refine ax_V3 cv_X4_148 dX4_read_4 fh_M rfl (ok_isKnown _ _ _) (by decide) (Nat.le_refl _) (Nat.le_refl _) (Nat.le_of_ble_eq_true rfl) ?_
    refine ax_bne 12 dX4_read_7 (by decide) (fun c7 => ?_) (fun c7 => absurd c7 (by simp [hk]))
    refine ax_aload_n dX4_read_12 rfl ?_
    refine ax_iload_n dX4_read_13 rfl ?_
    refine ax_iload_n dX4_read_14 rfl ?_
    refine ax_iload_n dX4_read_15 rfl ?_
    refine ax_V3 cv_X4_152 dX4_read_16 fh_M rfl (ok_reach hw ht hr ho) (by decide) (Nat.le_refl _) (Nat.le_refl _) (Nat.le_of_ble_eq_true rfl) ?_
    refine ax_istore dX4_read_19 rfl (by decide) ?_
    refine ax_iload dX4_read_21 rfl ?_
    refine ax_if_ge 31 dX4_read_23 (by decide) (fun c23 => absurd c23 (Int32.not_le.mpr hv)) (fun c23 => ?_)
    refine ax_iload dX4_read_26 rfl ?_
    refine ax_goto 58 dX4_read_28 (by decide) ?_
    refine ax_iretD dX4_read_58 rfl ⟨(Nat.le_refl _), (Nat.le_refl _)⟩ ?_ ?_
    · simp [rRd, hv]
    · simp [rRd, hv]
  · skip
    refine ax_aload_n dX4_read_0 rfl ?_
    refine ax_iload_n dX4_read_1 rfl ?_
    refine ax_iload_n dX4_read_2 rfl ?_
    refine ax_iload_n dX4_read_3 rfl ?_
    refine ax_V3 cv_X4_148 dX4_read_4 fh_M rfl (ok_isKnown _ _ _) (by decide) (Nat.le_refl _) (Nat.le_refl _) (Nat.le_of_ble_eq_true rfl) ?_
    refine ax_bne 12 dX4_read_7 (by decide) (fun c7 => ?_) (fun c7 => absurd c7 (by simp [hk]))
    refine ax_aload_n dX4_read_12 rfl ?_
    refine ax_iload_n dX4_read_13 rfl ?_
    refine ax_iload_n dX4_read_14 rfl ?_
    refine ax_iload_n dX4_read_15 rfl ?_
    refine ax_V3 cv_X4_152 dX4_read_16 fh_M rfl (ok_reach hw ht hr ho) (by decide) (Nat.le_refl _) (Nat.le_refl _) (Nat.le_of_ble_eq_true rfl) ?_
    rw [ej]
    refine ax_istore dX4_read_19 rfl (by decide) ?_
    refine ax_iload dX4_read_21 rfl ?_
    refine ax_if_ge 31 dX4_read_23 (by decide) (fun c23 => ?_) (fun c23 => absurd c23 (fun z => z (nI_pos' (by omega))))
    refine ax_aload_n dX4_read_31 rfl ?_
    refine rg_22 dX4_read_32 ?_
    refine ax_iload dX4_read_35 rfl ?_
    refine rl_22 dX4_read_37 (by omega) ?_
    refine ax_beq 51 dX4_read_38 (by decide) (fun c38 => ?_) (fun c38 => ?_)
    · refine ax_aload_n dX4_read_51 rfl ?_
      refine rg_20 dX4_read_52 ?_
      refine ax_iload dX4_read_55 rfl ?_
      refine rl_20 dX4_read_57 (by omega) ?_
      refine ax_iretD dX4_read_58 rfl ⟨(Nat.le_refl _), (Nat.le_refl _)⟩ ?_ ?_
      · simp [rRd, ej, nI_pos (show j < 2 ^ 31 by omega), nI_clamp (show j < 2 ^ 31 by omega), c7, c23, c38]
      · simp [rRd, ej, nI_pos (show j < 2 ^ 31 by omega)]
    · refine ax_aload_n dX4_read_41 rfl ?_
      refine rg_23 dX4_read_42 ?_
      refine ax_iload dX4_read_45 rfl ?_
      refine rl_23 dX4_read_47 (by omega) ?_
      refine ax_goto 58 dX4_read_48 (by decide) ?_
      refine ax_iretD dX4_read_58 rfl ⟨(Nat.le_refl _), (Nat.le_refl _)⟩ ?_ ?_
      · simp [rRd, ej, nI_pos (show j < 2 ^ 31 by omega), nI_clamp (show j < 2 ^ 31 by omega), c7, c23, c38]
      · simp [rRd, ej, nI_pos (show j < 2 ^ 31 by omega)]
theorem ok_write0 {x y z v : Int32} (hk : rKn ρ x y z = false) : ax_Ok mX4_write yX4_write 5 0 0 [ax_r (80, 0), ax_i x, ax_i y, ax_i z, ax_i v] (fh c ρ) (ax_D (ax_i (-1)) (fh c ρ)) := by
  refine ax_Ok.of (by decide) rfl (fun q => by cases q) (Nat.le_of_ble_eq_true rfl) rfl ?_
  refine ax_aload_n dX4_write_0 rfl ?_
  refine ax_iload_n dX4_write_1 rfl ?_
  refine ax_iload_n dX4_write_2 rfl ?_
  refine ax_iload_n dX4_write_3 rfl ?_
  refine ax_V3 cv_X4_148 dX4_write_4 fh_M rfl (ok_isKnown _ _ _) (by decide) (Nat.le_refl _) (Nat.le_refl _) (Nat.le_of_ble_eq_true rfl) ?_
  refine ax_bne 12 dX4_write_7 (by decide) (fun c7 => absurd c7 (by simp [hk])) (fun c7 => ?_)
  refine ax_iconst (-1) dX4_write_10 (by decide) ?_
  refine ax_iretD dX4_write_11 rfl ⟨(Nat.le_refl _), (Nat.le_refl _)⟩ ?_ ?_
  · rfl
  · rfl
theorem ok_write1 {t r o : Nat} {v : Int32} (hk : rKn ρ (nI t) (nI r) (nI o) = true) (hv : rVal v = false) : ax_Ok mX4_write yX4_write 5 0 0 [ax_r (80, 0), ax_i (nI t), ax_i (nI r), ax_i (nI o), ax_i v] (fh c ρ) (ax_D (ax_i (-2)) (fh c ρ)) := by
  refine ax_Ok.of (by decide) rfl (fun q => by cases q) (Nat.le_of_ble_eq_true rfl) rfl ?_
  have hva : (decide ((-1000000 : Int64) ≤ v.toInt64) && decide (v.toInt64 ≤ (-10 : Int64))) = (decide (-1000000 ≤ v) && decide (v ≤ -10)) := by rw [show (-1000000 : Int64) = (-1000000 : Int32).toInt64 by decide, show (-10 : Int64) = (-10 : Int32).toInt64 by decide]; simp only [i64_le]
  have hvb : (decide ((0 : Int64) ≤ v.toInt64) && decide (v.toInt64 ≤ (1000000 : Int64))) = (decide (0 ≤ v) && decide (v ≤ 1000000)) := by rw [show (0 : Int64) = (0 : Int32).toInt64 by decide, show (1000000 : Int64) = (1000000 : Int32).toInt64 by decide]; simp only [i64_le]
  have hv1 : (decide (-1000000 ≤ v) && decide (v ≤ -10)) = false := by unfold rVal at hv; revert hv; cases (decide (-1000000 ≤ v) && decide (v ≤ -10)) <;> simp
  have hv2 : (decide (0 ≤ v) && decide (v ≤ 1000000)) = false := by unfold rVal at hv; rw [hv1] at hv; simpa using hv
  refine ax_aload_n dX4_write_0 rfl ?_
  refine ax_iload_n dX4_write_1 rfl ?_
  refine ax_iload_n dX4_write_2 rfl ?_
  refine ax_iload_n dX4_write_3 rfl ?_
  refine ax_V3 cv_X4_148 dX4_write_4 fh_M rfl (ok_isKnown _ _ _) (by decide) (Nat.le_refl _) (Nat.le_refl _) (Nat.le_of_ble_eq_true rfl) ?_
  refine ax_bne 12 dX4_write_7 (by decide) (fun c7 => ?_) (fun c7 => absurd c7 (by simp [hk]))
  refine ax_iload dX4_write_12 rfl ?_
  refine ax_i2l _ dX4_write_14 rfl ?_
  refine ax_ldc2 dX4_write_15 co_X4_155 ?_
  refine ax_ldc2 dX4_write_18 co_X4_157 ?_
  refine ax_S3 cs_X4_88 dX4_write_21 (ok_in _ _ _) (by decide) (Nat.le_refl _) (Nat.le_refl _) (Nat.le_of_ble_eq_true rfl) ?_
  refine ax_bne 43 dX4_write_24 (by decide) (fun c24 => absurd c24 (by rw [hva]; simp [hv1])) (fun c24 => ?_)
  refine ax_iload dX4_write_27 rfl ?_
  refine ax_i2l _ dX4_write_29 rfl ?_
  refine ax_lconst 0 dX4_write_30 (by decide) ?_
  refine ax_ldc2 dX4_write_31 co_X4_159 ?_
  refine ax_S3 cs_X4_88 dX4_write_34 (ok_in _ _ _) (by decide) (Nat.le_refl _) (Nat.le_refl _) (Nat.le_of_ble_eq_true rfl) ?_
  refine ax_bne 43 dX4_write_37 (by decide) (fun c37 => absurd c37 (by rw [hvb]; simp [hv2])) (fun c37 => ?_)
  refine ax_bipush (-2) dX4_write_40 (by decide) ?_
  refine ax_iretD dX4_write_42 rfl ⟨(Nat.le_refl _), (Nat.le_refl _)⟩ ?_ ?_
  · rfl
  · rfl
theorem ok_write (hw : rf_ok ρ) {t r o : Nat} {v : Int32} (ht : t < 60) (hr : r < 6) (ho : o < 8) (hk : rKn ρ (nI t) (nI r) (nI o) = true) (hv : rVal v = true) : ax_Ok mX4_write yX4_write 5 0 0 [ax_r (80, 0), ax_i (nI t), ax_i (nI r), ax_i (nI o), ax_i v] (fh c ρ) (ax_D (ax_i (rWt ρ t r o v).1) (fh c (rWt ρ t r o v).2)) := by
  refine ax_Ok.of (by decide) rfl (fun q => by cases q) (Nat.le_of_ble_eq_true rfl) rfl ?_
  have hva : (decide ((-1000000 : Int64) ≤ v.toInt64) && decide (v.toInt64 ≤ (-10 : Int64))) = (decide (-1000000 ≤ v) && decide (v ≤ -10)) := by rw [show (-1000000 : Int64) = (-1000000 : Int32).toInt64 by decide, show (-10 : Int64) = (-10 : Int32).toInt64 by decide]; simp only [i64_le]
  have hvb : (decide ((0 : Int64) ≤ v.toInt64) && decide (v.toInt64 ≤ (1000000 : Int64))) = (decide (0 ≤ v) && decide (v ≤ 1000000)) := by rw [show (0 : Int64) = (0 : Int32).toInt64 by decide, show (1000000 : Int64) = (1000000 : Int32).toInt64 by decide]; simp only [i64_le]
  cases hv1 : (decide (-1000000 ≤ v) && decide (v ≤ -10)) with
  | true =>
    rcases rR_in (r := r) (o := o) hw ht with hn | ⟨j, hj, ej⟩
    · skip
      refine ax_aload_n dX4_write_0 rfl ?_
      refine ax_iload_n dX4_write_1 rfl ?_
      refine ax_iload_n dX4_write_2 rfl ?_
      refine ax_iload_n dX4_write_3 rfl ?_
      refine ax_V3 cv_X4_148 dX4_write_4 fh_M rfl (ok_isKnown _ _ _) (by decide) (Nat.le_refl _) (Nat.le_refl _) (Nat.le_of_ble_eq_true rfl) ?_
      refine ax_bne 12 dX4_write_7 (by decide) (fun c7 => ?_) (fun c7 => absurd c7 (by simp [hk]))
      refine ax_iload dX4_write_12 rfl ?_
      refine ax_i2l _ dX4_write_14 rfl ?_
      refine ax_ldc2 dX4_write_15 co_X4_155 ?_
      refine ax_ldc2 dX4_write_18 co_X4_157 ?_
      refine ax_S3 cs_X4_88 dX4_write_21 (ok_in _ _ _) (by decide) (Nat.le_refl _) (Nat.le_refl _) (Nat.le_of_ble_eq_true rfl) ?_
      refine ax_bne 43 dX4_write_24 (by decide) (fun c24 => ?_) (fun c24 => absurd c24 (by rw [hva]; simp [hv1]))
      refine ax_aload_n dX4_write_43 rfl ?_
      refine ax_iload_n dX4_write_44 rfl ?_
      refine ax_iload_n dX4_write_45 rfl ?_
      refine ax_iload_n dX4_write_46 rfl ?_
      refine ax_V3 cv_X4_152 dX4_write_47 fh_M rfl (ok_reach hw ht hr ho) (by decide) (Nat.le_refl _) (Nat.le_refl _) (Nat.le_of_ble_eq_true rfl) ?_
      refine ax_istore dX4_write_50 rfl (by decide) ?_
      refine ax_iload dX4_write_52 rfl ?_
      refine ax_if_ge 60 dX4_write_54 (by decide) (fun c54 => absurd c54 (Int32.not_le.mpr hn)) (fun c54 => ?_)
      refine ax_iload dX4_write_57 rfl ?_
      refine ax_iretD dX4_write_59 rfl ⟨(Nat.le_refl _), (Nat.le_refl _)⟩ ?_ ?_
      · simp [rWt, hn]
      · simp [rWt, hn]
    · skip
      refine ax_aload_n dX4_write_0 rfl ?_
      refine ax_iload_n dX4_write_1 rfl ?_
      refine ax_iload_n dX4_write_2 rfl ?_
      refine ax_iload_n dX4_write_3 rfl ?_
      refine ax_V3 cv_X4_148 dX4_write_4 fh_M rfl (ok_isKnown _ _ _) (by decide) (Nat.le_refl _) (Nat.le_refl _) (Nat.le_of_ble_eq_true rfl) ?_
      refine ax_bne 12 dX4_write_7 (by decide) (fun c7 => ?_) (fun c7 => absurd c7 (by simp [hk]))
      refine ax_iload dX4_write_12 rfl ?_
      refine ax_i2l _ dX4_write_14 rfl ?_
      refine ax_ldc2 dX4_write_15 co_X4_155 ?_
      refine ax_ldc2 dX4_write_18 co_X4_157 ?_
      refine ax_S3 cs_X4_88 dX4_write_21 (ok_in _ _ _) (by decide) (Nat.le_refl _) (Nat.le_refl _) (Nat.le_of_ble_eq_true rfl) ?_
      refine ax_bne 43 dX4_write_24 (by decide) (fun c24 => ?_) (fun c24 => absurd c24 (by rw [hva]; simp [hv1]))
      refine ax_aload_n dX4_write_43 rfl ?_
      refine ax_iload_n dX4_write_44 rfl ?_
      refine ax_iload_n dX4_write_45 rfl ?_
      refine ax_iload_n dX4_write_46 rfl ?_
      refine ax_V3 cv_X4_152 dX4_write_47 fh_M rfl (ok_reach hw ht hr ho) (by decide) (Nat.le_refl _) (Nat.le_refl _) (Nat.le_of_ble_eq_true rfl) ?_
      rw [ej]
      refine ax_istore dX4_write_50 rfl (by decide) ?_
      refine ax_iload dX4_write_52 rfl ?_
      refine ax_if_ge 60 dX4_write_54 (by decide) (fun c54 => ?_) (fun c54 => absurd c54 (fun z => z (nI_pos' (by omega))))
      refine ax_aload_n dX4_write_60 rfl ?_
      refine rg_22 dX4_write_61 ?_
      refine ax_iload dX4_write_64 rfl ?_
      refine ax_iconst (ax_b true) dX4_write_66 (by decide) ?_
      refine rs_22 dX4_write_67 (by omega) ?_
      refine ax_aload_n dX4_write_68 rfl ?_
      refine rg_23 dX4_write_69 ?_
      refine ax_iload dX4_write_72 rfl ?_
      refine ax_iload dX4_write_74 rfl ?_
      refine rs_23 dX4_write_76 (by omega) ?_
      refine ax_aload_n dX4_write_77 rfl ?_
      refine ax_iload_n dX4_write_78 rfl ?_
      refine ax_V1 cv_X4_161 dX4_write_79 fh_M rfl (ok_writes (rf_ru (rf_bu (rR_ok hw hr ho)) (Or.inl (by decide))) ht) (by decide) (Nat.le_refl _) (Nat.le_refl _) (Nat.le_of_ble_eq_true rfl) ?_
      refine ax_iretD dX4_write_82 rfl ⟨(Nat.le_refl _), (Nat.le_refl _)⟩ ?_ ?_
      · simp [rWt, ej, nI_pos (show j < 2 ^ 31 by omega), nI_clamp (show j < 2 ^ 31 by omega)]
      · simp [rWt, ej, nI_pos (show j < 2 ^ 31 by omega), nI_clamp (show j < 2 ^ 31 by omega)]
  | false =>
    have hv2 : (decide (0 ≤ v) && decide (v ≤ 1000000)) = true := by unfold rVal at hv; rw [hv1] at hv; simpa using hv
    rcases rR_in (r := r) (o := o) hw ht with hn | ⟨j, hj, ej⟩
    · skip
      refine ax_aload_n dX4_write_0 rfl ?_
      refine ax_iload_n dX4_write_1 rfl ?_
      refine ax_iload_n dX4_write_2 rfl ?_
      refine ax_iload_n dX4_write_3 rfl ?_
      refine ax_V3 cv_X4_148 dX4_write_4 fh_M rfl (ok_isKnown _ _ _) (by decide) (Nat.le_refl _) (Nat.le_refl _) (Nat.le_of_ble_eq_true rfl) ?_
      refine ax_bne 12 dX4_write_7 (by decide) (fun c7 => ?_) (fun c7 => absurd c7 (by simp [hk]))
      refine ax_iload dX4_write_12 rfl ?_
      refine ax_i2l _ dX4_write_14 rfl ?_
      refine ax_ldc2 dX4_write_15 co_X4_155 ?_
      refine ax_ldc2 dX4_write_18 co_X4_157 ?_
      refine ax_S3 cs_X4_88 dX4_write_21 (ok_in _ _ _) (by decide) (Nat.le_refl _) (Nat.le_refl _) (Nat.le_of_ble_eq_true rfl) ?_
      refine ax_bne 43 dX4_write_24 (by decide) (fun c24 => absurd c24 (by rw [hva]; simp [hv1])) (fun c24 => ?_)
      refine ax_iload dX4_write_27 rfl ?_
      refine ax_i2l _ dX4_write_29 rfl ?_
      refine ax_lconst 0 dX4_write_30 (by decide) ?_
      refine ax_ldc2 dX4_write_31 co_X4_159 ?_
      refine ax_S3 cs_X4_88 dX4_write_34 (ok_in _ _ _) (by decide) (Nat.le_refl _) (Nat.le_refl _) (Nat.le_of_ble_eq_true rfl) ?_
      refine ax_bne 43 dX4_write_37 (by decide) (fun c37 => ?_) (fun c37 => absurd c37 (by rw [hvb]; simp [hv2]))
      refine ax_aload_n dX4_write_43 rfl ?_
      refine ax_iload_n dX4_write_44 rfl ?_
      refine ax_iload_n dX4_write_45 rfl ?_
      refine ax_iload_n dX4_write_46 rfl ?_
      refine ax_V3 cv_X4_152 dX4_write_47 fh_M rfl (ok_reach hw ht hr ho) (by decide) (Nat.le_refl _) (Nat.le_refl _) (Nat.le_of_ble_eq_true rfl) ?_
      refine ax_istore dX4_write_50 rfl (by decide) ?_
      refine ax_iload dX4_write_52 rfl ?_
      refine ax_if_ge 60 dX4_write_54 (by decide) (fun c54 => absurd c54 (Int32.not_le.mpr hn)) (fun c54 => ?_)
      refine ax_iload dX4_write_57 rfl ?_
      refine ax_iretD dX4_write_59 rfl ⟨(Nat.le_refl _), (Nat.le_refl _)⟩ ?_ ?_
      · simp [rWt, hn]
      · simp [rWt, hn]
    · skip
      refine ax_aload_n dX4_write_0 rfl ?_
      refine ax_iload_n dX4_write_1 rfl ?_
      refine ax_iload_n dX4_write_2 rfl ?_
      refine ax_iload_n dX4_write_3 rfl ?_
      refine ax_V3 cv_X4_148 dX4_write_4 fh_M rfl (ok_isKnown _ _ _) (by decide) (Nat.le_refl _) (Nat.le_refl _) (Nat.le_of_ble_eq_true rfl) ?_
      refine ax_bne 12 dX4_write_7 (by decide) (fun c7 => ?_) (fun c7 => absurd c7 (by simp [hk]))
      refine ax_iload dX4_write_12 rfl ?_
      refine ax_i2l _ dX4_write_14 rfl ?_
      refine ax_ldc2 dX4_write_15 co_X4_155 ?_
      refine ax_ldc2 dX4_write_18 co_X4_157 ?_
      refine ax_S3 cs_X4_88 dX4_write_21 (ok_in _ _ _) (by decide) (Nat.le_refl _) (Nat.le_refl _) (Nat.le_of_ble_eq_true rfl) ?_
      refine ax_bne 43 dX4_write_24 (by decide) (fun c24 => absurd c24 (by rw [hva]; simp [hv1])) (fun c24 => ?_)
      refine ax_iload dX4_write_27 rfl ?_
      refine ax_i2l _ dX4_write_29 rfl ?_
      refine ax_lconst 0 dX4_write_30 (by decide) ?_
      refine ax_ldc2 dX4_write_31 co_X4_159 ?_
      refine ax_S3 cs_X4_88 dX4_write_34 (ok_in _ _ _) (by decide) (Nat.le_refl _) (Nat.le_refl _) (Nat.le_of_ble_eq_true rfl) ?_
      refine ax_bne 43 dX4_write_37 (by decide) (fun c37 => ?_) (fun c37 => absurd c37 (by rw [hvb]; simp [hv2]))
      refine ax_aload_n dX4_write_43 rfl ?_
      refine ax_iload_n dX4_write_44 rfl ?_
      refine ax_iload_n dX4_write_45 rfl ?_
      refine ax_iload_n dX4_write_46 rfl ?_
      refine ax_V3 cv_X4_152 dX4_write_47 fh_M rfl (ok_reach hw ht hr ho) (by decide) (Nat.le_refl _) (Nat.le_refl _) (Nat.le_of_ble_eq_true rfl) ?_
      rw [ej]
      refine ax_istore dX4_write_50 rfl (by decide) ?_
      refine ax_iload dX4_write_52 rfl ?_
      refine ax_if_ge 60 dX4_write_54 (by decide) (fun c54 => ?_) (fun c54 => absurd c54 (fun z => z (nI_pos' (by omega))))
      refine ax_aload_n dX4_write_60 rfl ?_
      refine rg_22 dX4_write_61 ?_
      refine ax_iload dX4_write_64 rfl ?_
      refine ax_iconst (ax_b true) dX4_write_66 (by decide) ?_
      refine rs_22 dX4_write_67 (by omega) ?_
      refine ax_aload_n dX4_write_68 rfl ?_
      refine rg_23 dX4_write_69 ?_
      refine ax_iload dX4_write_72 rfl ?_
      refine ax_iload dX4_write_74 rfl ?_
      refine rs_23 dX4_write_76 (by omega) ?_
      refine ax_aload_n dX4_write_77 rfl ?_
      refine ax_iload_n dX4_write_78 rfl ?_
      refine ax_V1 cv_X4_161 dX4_write_79 fh_M rfl (ok_writes (rf_ru (rf_bu (rR_ok hw hr ho)) (Or.inl (by decide))) ht) (by decide) (Nat.le_refl _) (Nat.le_refl _) (Nat.le_of_ble_eq_true rfl) ?_
      refine ax_iretD dX4_write_82 rfl ⟨(Nat.le_refl _), (Nat.le_refl _)⟩ ?_ ?_
      · simp [rWt, ej, nI_pos (show j < 2 ^ 31 by omega), nI_clamp (show j < 2 ^ 31 by omega)]
      · simp [rWt, ej, nI_pos (show j < 2 ^ 31 by omega), nI_clamp (show j < 2 ^ 31 by omega)]
theorem ok_begin0 {x : Int32} (hk : (decide (0 ≤ x) && decide (x ≤ 5)) = false) : ax_Ok mX4_begin yX4_begin 3 0 0 [ax_r (80, 0), ax_i x] (fh c ρ) (ax_D (ax_i (-1)) (fh c ρ)) := by
  refine ax_Ok.of (by decide) rfl (fun q => by cases q) (Nat.le_of_ble_eq_true rfl) rfl ?_
  refine ax_iload_n dX4_begin_0 rfl ?_
  refine ax_S1 cs_X4_108 dX4_begin_1 (ok_isMachine _) (by decide) (Nat.le_refl _) (Nat.le_refl _) (Nat.le_of_ble_eq_true rfl) ?_
  refine ax_bne 9 dX4_begin_4 (by decide) (fun c4 => absurd c4 (by simp [hk])) (fun c4 => ?_)
  refine ax_iconst (-1) dX4_begin_7 (by decide) ?_
  refine ax_iretD dX4_begin_8 rfl ⟨(Nat.le_refl _), (Nat.le_refl _)⟩ ?_ ?_
  · rfl
  · rfl
theorem ok_begin (hw : rf_ok ρ) {m : Nat} (hm : m < 6) : ax_Ok mX4_begin yX4_begin 3 0 0 [ax_r (80, 0), ax_i (nI m)] (fh c ρ) (ax_D (ax_i (rBg ρ m).1) (fh c (rBg ρ m).2)) := by
  refine ax_Ok.of (by decide) rfl (fun q => by cases q) (Nat.le_of_ble_eq_true rfl) rfl ?_
  have h10 := rk_10 hw
  refine ax_iload_n dX4_begin_0 rfl ?_
  refine ax_S1 cs_X4_108 dX4_begin_1 (ok_isMachine _) (by decide) (Nat.le_refl _) (Nat.le_refl _) (Nat.le_of_ble_eq_true rfl) ?_
  refine ax_bne 9 dX4_begin_4 (by decide) (fun c4 => ?_) (fun c4 => absurd c4 (by rw [rf_in5.mpr ⟨m, hm, rfl⟩]; simp))
  refine ax_aload_n dX4_begin_9 rfl ?_
  refine rg_0 dX4_begin_10 ?_
  refine ax_iload_n dX4_begin_13 rfl ?_
  refine rl_0 dX4_begin_14 (by omega) ?_
  refine ax_beq 27 dX4_begin_15 (by decide) (fun c15 => ?_) (fun c15 => ?_)
  · refine ax_bipush (-3) dX4_begin_27 (by decide) ?_
    refine ax_iretD dX4_begin_29 rfl ⟨(Nat.le_refl _), (Nat.le_refl _)⟩ ?_ ?_
    · first | (simp [rBg, c4, c15]; done) | (simp [rBg, nu, c4, c15]; done)
    · first | (simp [rBg, c4, c15]; done) | (simp [rBg, c4, c15]; simp [nu]; done)
  · refine ax_aload_n dX4_begin_18 rfl ?_
    refine rg_1 dX4_begin_19 ?_
    refine ax_iload_n dX4_begin_22 rfl ?_
    refine rl_1 dX4_begin_23 (by omega) ?_
    refine ax_bne 30 dX4_begin_24 (by decide) (fun c24 => ?_) (fun c24 => ?_)
    · refine ax_aload_n dX4_begin_30 rfl ?_
      refine rg_10 dX4_begin_31 ?_
      refine ax_bipush (nI 60) dX4_begin_34 (by decide) ?_
      refine ax_nne 42 dX4_begin_36 (by decide) (by omega) (by omega) (fun c36 => ?_) (fun c36 => ?_)
      · refine ax_aload_n dX4_begin_42 rfl ?_
        refine rg_11 dX4_begin_43 ?_
        refine ax_aload_n dX4_begin_46 rfl ?_
        refine rg_10 dX4_begin_47 ?_
        refine ax_iload_n dX4_begin_50 rfl ?_
        refine rs_11 dX4_begin_51 (by omega) ?_
        refine ax_aload_n dX4_begin_52 rfl ?_
        refine ax_dup dX4_begin_53 rfl ?_
        refine rg_10 dX4_begin_54 ?_
        refine ax_iconst (nI 1) dX4_begin_57 (by decide) ?_
        refine ax_iaddn dX4_begin_58 ?_
        refine rp_10 dX4_begin_59 ?_
        refine ax_aload_n dX4_begin_62 rfl ?_
        refine rg_10 dX4_begin_63 ?_
        refine ax_iconst (nI 1) dX4_begin_66 (by decide) ?_
        refine ax_isubn dX4_begin_67 (by show 1 ≤ (nu _ 10 0 _).1 10 0; simp [nu]) ?_
        refine ax_iretD dX4_begin_68 rfl ⟨(Nat.le_refl _), (Nat.le_refl _)⟩ ?_ ?_
        · first | (simp [rBg, c4, c15, c24, c36]; done) | (simp [rBg, nu, c4, c15, c24, c36]; done)
        · first | (simp [rBg, c4, c15, c24, c36]; done) | (simp [rBg, c4, c15, c24, c36]; simp [nu]; done)
      · refine ax_bipush (-4) dX4_begin_39 (by decide) ?_
        refine ax_iretD dX4_begin_41 rfl ⟨(Nat.le_refl _), (Nat.le_refl _)⟩ ?_ ?_
        · first | (simp [rBg, c4, c15, c24, c36]; done) | (simp [rBg, nu, c4, c15, c24, c36]; done)
        · first | (simp [rBg, c4, c15, c24, c36]; done) | (simp [rBg, c4, c15, c24, c36]; simp [nu]; done)
    · refine ax_bipush (-3) dX4_begin_27 (by decide) ?_
      refine ax_iretD dX4_begin_29 rfl ⟨(Nat.le_refl _), (Nat.le_refl _)⟩ ?_ ?_
      · first | (simp [rBg, c4, c15, c24]; done) | (simp [rBg, nu, c4, c15, c24]; done)
      · first | (simp [rBg, c4, c15, c24]; done) | (simp [rBg, c4, c15, c24]; simp [nu]; done)
theorem ok_fail0 {x : Int32} (hk : (decide (0 ≤ x) && decide (x ≤ 5)) = false) : ax_Ok mX4_fail yX4_fail 3 0 0 [ax_r (80, 0), ax_i x] (fh c ρ) (ax_D (ax_i (-1)) (fh c ρ)) := by
  refine ax_Ok.of (by decide) rfl (fun q => by cases q) (Nat.le_of_ble_eq_true rfl) rfl ?_
  refine ax_iload_n dX4_fail_0 rfl ?_
  refine ax_S1 cs_X4_108 dX4_fail_1 (ok_isMachine _) (by decide) (Nat.le_refl _) (Nat.le_refl _) (Nat.le_of_ble_eq_true rfl) ?_
  refine ax_bne 9 dX4_fail_4 (by decide) (fun c4 => absurd c4 (by simp [hk])) (fun c4 => ?_)
  refine ax_iconst (-1) dX4_fail_7 (by decide) ?_
  refine ax_iretD dX4_fail_8 rfl ⟨(Nat.le_refl _), (Nat.le_refl _)⟩ ?_ ?_
  · rfl
  · rfl
theorem ok_fail (hw : rf_ok ρ) {m : Nat} (hm : m < 6) : ax_Ok mX4_fail yX4_fail 3 0 0 [ax_r (80, 0), ax_i (nI m)] (fh c ρ) (ax_D (ax_i (rFa ρ m).1) (fh c (rFa ρ m).2)) := by
  refine ax_Ok.of (by decide) rfl (fun q => by cases q) (Nat.le_of_ble_eq_true rfl) rfl ?_
  refine ax_iload_n dX4_fail_0 rfl ?_
  refine ax_S1 cs_X4_108 dX4_fail_1 (ok_isMachine _) (by decide) (Nat.le_refl _) (Nat.le_refl _) (Nat.le_of_ble_eq_true rfl) ?_
  refine ax_bne 9 dX4_fail_4 (by decide) (fun c4 => ?_) (fun c4 => absurd c4 (by rw [rf_in5.mpr ⟨m, hm, rfl⟩]; simp))
  refine ax_aload_n dX4_fail_9 rfl ?_
  refine rg_0 dX4_fail_10 ?_
  refine ax_iload_n dX4_fail_13 rfl ?_
  refine rl_0 dX4_fail_14 (by omega) ?_
  refine ax_bne 21 dX4_fail_15 (by decide) (fun c15 => ?_) (fun c15 => ?_)
  · refine ax_aload_n dX4_fail_21 rfl ?_
    refine rg_0 dX4_fail_22 ?_
    refine ax_iload_n dX4_fail_25 rfl ?_
    refine ax_iconst (ax_b false) dX4_fail_26 (by decide) ?_
    refine rs_0 dX4_fail_27 (by omega) ?_
    refine ax_aload_n dX4_fail_28 rfl ?_
    refine ax_V0 cv_X4_112 dX4_fail_29 fh_M rfl (ok_up (rf_bu hw)) (by decide) (Nat.le_refl _) (Nat.le_refl _) (Nat.le_of_ble_eq_true rfl) ?_
    refine ax_iretD dX4_fail_32 rfl ⟨(Nat.le_refl _), (Nat.le_refl _)⟩ ?_ ?_
    · simp [rFa, c4, c15]
    · simp [rFa, c4, c15]
  · refine ax_bipush (-3) dX4_fail_18 (by decide) ?_
    refine ax_iretD dX4_fail_20 rfl ⟨(Nat.le_refl _), (Nat.le_refl _)⟩ ?_ ?_
    · simp [rFa, c4, c15]
    · simp [rFa, c4, c15]
theorem ok_commit0 {x : Int32} (hk : (decide (0 ≤ x) && decide (x ≤ nI (ρ.1 10 0) - 1)) = false) : ax_Ok mX4_commit yX4_commit 7 0 0 [ax_r (80, 0), ax_i x] (fh c ρ) (ax_D (ax_i (-1)) (fh c ρ)) := by
  refine ax_Ok.of (by decide) rfl (fun q => by cases q) (Nat.le_of_ble_eq_true rfl) rfl ?_
  refine ax_aload_n dX4_commit_0 rfl ?_
  refine ax_iload_n dX4_commit_1 rfl ?_
  refine ax_V1 cv_X4_143 dX4_commit_2 fh_M rfl (ok_isTransaction _) (by decide) (Nat.le_refl _) (Nat.le_refl _) (Nat.le_of_ble_eq_true rfl) ?_
  refine ax_bne 10 dX4_commit_5 (by decide) (fun c5 => absurd c5 (by simp [hk])) (fun c5 => ?_)
  refine ax_iconst (-1) dX4_commit_8 (by decide) ?_
  refine ax_iretD dX4_commit_9 rfl ⟨(Nat.le_refl _), (Nat.le_refl _)⟩ ?_ ?_
  · rfl
  · rfl
theorem ok_drop0 {x : Int32} (hk : (decide (0 ≤ x) && decide (x ≤ nI (ρ.1 10 0) - 1)) = false) : ax_Ok mX4_drop yX4_drop 3 0 0 [ax_r (80, 0), ax_i x] (fh c ρ) (ax_D (ax_i (-1)) (fh c ρ)) := by
  refine ax_Ok.of (by decide) rfl (fun q => by cases q) (Nat.le_of_ble_eq_true rfl) rfl ?_
  refine ax_aload_n dX4_drop_0 rfl ?_
  refine ax_iload_n dX4_drop_1 rfl ?_
  refine ax_V1 cv_X4_143 dX4_drop_2 fh_M rfl (ok_isTransaction _) (by decide) (Nat.le_refl _) (Nat.le_refl _) (Nat.le_of_ble_eq_true rfl) ?_
  refine ax_bne 10 dX4_drop_5 (by decide) (fun c5 => absurd c5 (by simp [hk])) (fun c5 => ?_)
  refine ax_iconst (-1) dX4_drop_8 (by decide) ?_
  refine ax_iretD dX4_drop_9 rfl ⟨(Nat.le_refl _), (Nat.le_refl _)⟩ ?_ ?_
  · rfl
  · rfl
theorem ok_commit (hw : rf_ok ρ) {t : Nat} (ht : t < 60) (hp : ρ.1 17 0 + 1 < 1000000) (hk : (decide (0 ≤ nI t) && decide (nI t ≤ nI (ρ.1 10 0) - 1)) = true) : ax_Ok mX4_commit yX4_commit 7 0 0 [ax_r (80, 0), ax_i (nI t)] (fh c ρ) (ax_D (ax_i (rCm ρ t).1) (fh c (rCm ρ t).2)) := by
  refine ax_Ok.of (by decide) rfl (fun q => by cases q) (Nat.le_of_ble_eq_true rfl) rfl ?_
  have h12 := rk_N hw 12 t
  refine ax_aload_n dX4_commit_0 rfl ?_
  refine ax_iload_n dX4_commit_1 rfl ?_
  refine ax_V1 cv_X4_143 dX4_commit_2 fh_M rfl (ok_isTransaction _) (by decide) (Nat.le_refl _) (Nat.le_refl _) (Nat.le_of_ble_eq_true rfl) ?_
  refine ax_bne 10 dX4_commit_5 (by decide) (fun c5 => ?_) (fun c5 => absurd c5 (by rw [hk]; simp))
  refine ax_aload_n dX4_commit_10 rfl ?_
  refine rg_12 dX4_commit_11 ?_
  refine ax_iload_n dX4_commit_14 rfl ?_
  refine rl_12 dX4_commit_15 (by first | omega | exact rk_11 hw _ | exact rk_N hw _ _) ?_
  refine ax_zeq 22 dX4_commit_16 (by decide) (by first | omega | exact rk_11 hw _ | exact rk_N hw _ _) (fun c16 => ?_) (fun c16 => ?_)
  · refine ax_aload_n dX4_commit_22 rfl ?_
    refine rg_0 dX4_commit_23 ?_
    refine ax_aload_n dX4_commit_26 rfl ?_
    refine rg_11 dX4_commit_27 ?_
    refine ax_iload_n dX4_commit_30 rfl ?_
    refine rl_11 dX4_commit_31 (by first | omega | exact rk_11 hw _ | exact rk_N hw _ _) ?_
    refine rl_0 dX4_commit_32 (by first | omega | exact rk_11 hw _ | exact rk_N hw _ _) ?_
    refine ax_bne 39 dX4_commit_33 (by decide) (fun c33 => ?_) (fun c33 => ?_)
    · refine ax_aload_n dX4_commit_39 rfl ?_
      refine rg_12 dX4_commit_40 ?_
      refine ax_iload_n dX4_commit_43 rfl ?_
      refine ax_iconst (nI 1) dX4_commit_44 (by decide) ?_
      refine rs_12 dX4_commit_45 (by first | omega | exact rk_11 hw _ | exact rk_N hw _ _) ?_
      refine ax_aload_n dX4_commit_46 rfl ?_
      refine rg_13 dX4_commit_47 ?_
      refine ax_iload_n dX4_commit_50 rfl ?_
      refine ax_iconst (nI 0) dX4_commit_51 (by decide) ?_
      refine rs_13 dX4_commit_52 (by first | omega | exact rk_11 hw _ | exact rk_N hw _ _) ?_
      refine ax_aload_n dX4_commit_53 rfl ?_
      refine ax_iload_n dX4_commit_54 rfl ?_
      refine ax_V1v cv_X4_192 dX4_commit_55 fh_M rfl (ok_settle (rf_nu (rf_nu hw (by omega) (by exact trivial)) (by omega) (by exact trivial)) ht (by simpa [nu] using hp) (by simp [nu])) (by decide) (Nat.le_refl _) (Nat.le_refl _) (Nat.le_of_ble_eq_true rfl) ?_
      refine ax_aload_n dX4_commit_58 rfl ?_
      refine rg_12 dX4_commit_59 ?_
      refine ax_iload_n dX4_commit_62 rfl ?_
      refine rl_12 dX4_commit_63 (by first | omega | exact rk_11 hw _ | exact rk_N hw _ _) ?_
      refine ax_iretD dX4_commit_64 rfl ⟨(Nat.le_refl _), (Nat.le_refl _)⟩ ?_ ?_
      · simp [rCm, c5, c16, c33]
      · simp [rCm, c5, c16, c33]
    · refine ax_bipush (-6) dX4_commit_36 (by decide) ?_
      refine ax_iretD dX4_commit_38 rfl ⟨(Nat.le_refl _), (Nat.le_refl _)⟩ ?_ ?_
      · simp [rCm, c5, c16, c33]
      · simp [rCm, c5, c16, c33]
  · refine ax_bipush (-3) dX4_commit_19 (by decide) ?_
    refine ax_iretD dX4_commit_21 rfl ⟨(Nat.le_refl _), (Nat.le_refl _)⟩ ?_ ?_
    · simp [rCm, c5, c16]
    · simp [rCm, c5, c16]
theorem ok_drop (hw : rf_ok ρ) {t : Nat} (ht : t < 60) (hk : (decide (0 ≤ nI t) && decide (nI t ≤ nI (ρ.1 10 0) - 1)) = true) : ax_Ok mX4_drop yX4_drop 3 0 0 [ax_r (80, 0), ax_i (nI t)] (fh c ρ) (ax_D (ax_i (rDr ρ t).1) (fh c (rDr ρ t).2)) := by
  refine ax_Ok.of (by decide) rfl (fun q => by cases q) (Nat.le_of_ble_eq_true rfl) rfl ?_
  have h12 := rk_N hw 12 t
  refine ax_aload_n dX4_drop_0 rfl ?_
  refine ax_iload_n dX4_drop_1 rfl ?_
  refine ax_V1 cv_X4_143 dX4_drop_2 fh_M rfl (ok_isTransaction _) (by decide) (Nat.le_refl _) (Nat.le_refl _) (Nat.le_of_ble_eq_true rfl) ?_
  refine ax_bne 10 dX4_drop_5 (by decide) (fun c5 => ?_) (fun c5 => absurd c5 (by rw [hk]; simp))
  refine ax_aload_n dX4_drop_10 rfl ?_
  refine rg_12 dX4_drop_11 ?_
  refine ax_iload_n dX4_drop_14 rfl ?_
  refine rl_12 dX4_drop_15 (by first | omega | exact rk_11 hw _ | exact rk_N hw _ _) ?_
  refine ax_zeq 22 dX4_drop_16 (by decide) (by first | omega | exact rk_11 hw _ | exact rk_N hw _ _) (fun c16 => ?_) (fun c16 => ?_)
  · refine ax_aload_n dX4_drop_22 rfl ?_
    refine rg_0 dX4_drop_23 ?_
    refine ax_aload_n dX4_drop_26 rfl ?_
    refine rg_11 dX4_drop_27 ?_
    refine ax_iload_n dX4_drop_30 rfl ?_
    refine rl_11 dX4_drop_31 (by first | omega | exact rk_11 hw _ | exact rk_N hw _ _) ?_
    refine rl_0 dX4_drop_32 (by first | omega | exact rk_11 hw _ | exact rk_N hw _ _) ?_
    refine ax_bne 39 dX4_drop_33 (by decide) (fun c33 => ?_) (fun c33 => ?_)
    · refine ax_aload_n dX4_drop_39 rfl ?_
      refine rg_12 dX4_drop_40 ?_
      refine ax_iload_n dX4_drop_43 rfl ?_
      refine ax_bipush (nI 8) dX4_drop_44 (by decide) ?_
      refine rs_12 dX4_drop_46 (by first | omega | exact rk_11 hw _ | exact rk_N hw _ _) ?_
      refine ax_bipush (nI 8) dX4_drop_47 (by decide) ?_
      refine ax_iretD dX4_drop_49 rfl ⟨(Nat.le_refl _), (Nat.le_refl _)⟩ ?_ ?_
      · first | (simp [rDr, c5, c16, c33]; done) | (simp [rDr, c5, c16, c33]; rfl)
      · simp [rDr, c5, c16, c33]
    · refine ax_bipush (-6) dX4_drop_36 (by decide) ?_
      refine ax_iretD dX4_drop_38 rfl ⟨(Nat.le_refl _), (Nat.le_refl _)⟩ ?_ ?_
      · first | (simp [rDr, c5, c16, c33]; done) | (simp [rDr, c5, c16, c33]; rfl)
      · simp [rDr, c5, c16, c33]
  · refine ax_bipush (-3) dX4_drop_19 (by decide) ?_
    refine ax_iretD dX4_drop_21 rfl ⟨(Nat.le_refl _), (Nat.le_refl _)⟩ ?_ ?_
    · first | (simp [rDr, c5, c16]; done) | (simp [rDr, c5, c16]; rfl)
    · simp [rDr, c5, c16]
end REFM
