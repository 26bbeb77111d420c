/-- the ranges of the reference's numbers -/
def rf_ok (ρ : ax_R) : Prop := (∀ k j, ρ.1 k j < 1000000) ∧ (∀ r, ρ.1 5 r ≤ 6) ∧ (∀ j, ρ.1 6 j < 6) ∧ (∀ j, ρ.1 11 j < 6) ∧ (∀ t, ρ.1 14 t ≤ 8) ∧ (∀ i, ρ.1 18 i < 6) ∧ (∀ i, ρ.1 19 i < 8) ∧ (∀ i, ρ.1 27 i < 6) ∧ ρ.1 4 0 ≤ 6 ∧ ρ.1 10 0 ≤ 60 ∧ ρ.1 25 0 ≤ 1440 ∧ (∀ k, ρ.2.2 26 k = -9 ∨ ∃ j, j < 480 ∧ ρ.2.2 26 k = nI j) ∧ (∀ i, ρ.1 24 i < 64)
theorem rk_N {ρ : ax_R} (h : rf_ok ρ) (k j : Nat) : ρ.1 k j < 2 ^ 31 := Nat.lt_trans (h.1 k j) (by decide)
theorem rk_5 {ρ : ax_R} (h : rf_ok ρ) (r : Nat) : ρ.1 5 r ≤ 6 := h.2.1 r
theorem rk_6 {ρ : ax_R} (h : rf_ok ρ) (j : Nat) : ρ.1 6 j < 6 := h.2.2.1 j
theorem rk_11 {ρ : ax_R} (h : rf_ok ρ) (j : Nat) : ρ.1 11 j < 6 := h.2.2.2.1 j
theorem rk_14 {ρ : ax_R} (h : rf_ok ρ) (j : Nat) : ρ.1 14 j ≤ 8 := h.2.2.2.2.1 j
theorem rk_18 {ρ : ax_R} (h : rf_ok ρ) (j : Nat) : ρ.1 18 j < 6 := h.2.2.2.2.2.1 j
theorem rk_19 {ρ : ax_R} (h : rf_ok ρ) (j : Nat) : ρ.1 19 j < 8 := h.2.2.2.2.2.2.1 j
theorem rk_27 {ρ : ax_R} (h : rf_ok ρ) (j : Nat) : ρ.1 27 j < 6 := h.2.2.2.2.2.2.2.1 j
theorem rk_4 {ρ : ax_R} (h : rf_ok ρ) : ρ.1 4 0 ≤ 6 := h.2.2.2.2.2.2.2.2.1
theorem rk_10 {ρ : ax_R} (h : rf_ok ρ) : ρ.1 10 0 ≤ 60 := h.2.2.2.2.2.2.2.2.2.1
theorem rk_25 {ρ : ax_R} (h : rf_ok ρ) : ρ.1 25 0 ≤ 1440 := h.2.2.2.2.2.2.2.2.2.2.1
theorem rk_26 {ρ : ax_R} (h : rf_ok ρ) (k : Nat) : ρ.2.2 26 k = -9 ∨ ∃ j, j < 480 ∧ ρ.2.2 26 k = nI j := h.2.2.2.2.2.2.2.2.2.2.2.1 k
theorem rk_24 {ρ : ax_R} (h : rf_ok ρ) (i : Nat) : ρ.1 24 i < 64 := h.2.2.2.2.2.2.2.2.2.2.2.2 i
theorem i64_le {x y : Int32} : x.toInt64 ≤ y.toInt64 ↔ x ≤ y := by
  rw [Int64.le_iff_toInt_le, Int32.le_iff_toInt_le, Int32.toInt_toInt64, Int32.toInt_toInt64]
def rO (ρ : ax_R) (r i : Nat) : Bool := ρ.2.1 1 (ρ.1 6 (6 * r + i))
def rU (ρ : ax_R) (r i : Nat) : Bool := ρ.2.1 0 (ρ.1 6 (6 * r + i))
/-- the places of a region's copies on members -/
def rL (ρ : ax_R) (r : Nat) : List Nat := (List.range' 0 (ρ.1 5 r)).filter (rO ρ r)
def oI (o : Option Nat) : Int32 := match o with
  | some k => nI k
  | none => -9
section REFM
variable {c : ax_H} {ρ : ax_R}
theorem ok_in {h : ax_H} (x a b : Int64) : ax_Ok mX4_in yX4_in 1 0 0 [ax_l x, ax_l a, ax_l b] h (ax_D (ax_i (ax_b (decide (a ≤ x) && decide (x ≤ b)))) h) := by
  refine ax_Ok.of (by decide) rfl (fun q => by cases q) (Nat.le_of_ble_eq_true rfl) rfl ?_
  refine ax_lload_n dX4_in_0 rfl ?_
  refine ax_lload_n dX4_in_1 rfl ?_
  refine ax_lcmp dX4_in_2 ?_
  refine ax_if_lt 17 dX4_in_3 (by decide) (fun c3 => ?_) (fun c3 => ?_)
  · have c3 := mt (lg_cmp_ge x a).mpr (Int32.not_le.mpr c3)
    refine ax_iconst (ax_b false) dX4_in_17 (by decide) ?_
    refine ax_bret dX4_in_18 rfl ⟨(Nat.le_refl _), (Nat.le_refl _)⟩ ?_ ?_
    · simp [c3]
    · rfl
  · have c3 := (lg_cmp_ge x a).mp (Int32.not_lt.mp c3)
    refine ax_lload_n dX4_in_6 rfl ?_
    refine ax_lload dX4_in_7 rfl ?_
    refine ax_lcmp dX4_in_9 ?_
    refine ax_if_gt 17 dX4_in_10 (by decide) (fun c10 => ?_) (fun c10 => ?_)
    · have c10 := mt (lg_cmp_le x b).mpr (Int32.not_le.mpr c10)
      refine ax_iconst (ax_b false) dX4_in_17 (by decide) ?_
      refine ax_bret dX4_in_18 rfl ⟨(Nat.le_refl _), (Nat.le_refl _)⟩ ?_ ?_
      · simp [c3, c10]
      · rfl
    · have c10 := (lg_cmp_le x b).mp (Int32.not_lt.mp c10)
      refine ax_iconst (ax_b true) dX4_in_13 (by decide) ?_
      refine ax_goto 18 dX4_in_14 (by decide) ?_
      refine ax_bret dX4_in_18 rfl ⟨(Nat.le_refl _), (Nat.le_refl _)⟩ ?_ ?_
      · simp [c3, c10]
      · rfl
theorem ok_isMachine {h : ax_H} (x : Int32) : ax_Ok mX4_isMachine yX4_isMachine 2 0 0 [ax_i x] h (ax_D (ax_i (ax_b (decide (0 ≤ x) && decide (x ≤ 5)))) h) := by
  refine ax_Ok.of (by decide) rfl (fun q => by cases q) (Nat.le_of_ble_eq_true rfl) rfl ?_
  refine ax_iload_n dX4_isMachine_0 rfl ?_
  refine ax_i2l _ dX4_isMachine_1 rfl ?_
  refine ax_lconst 0 dX4_isMachine_2 (by decide) ?_
  refine ax_ldc2 dX4_isMachine_3 co_X4_86 ?_
  refine ax_S3 cs_X4_88 dX4_isMachine_6 (ok_in _ _ _) (by decide) (Nat.le_refl _) (Nat.le_refl _) (Nat.le_of_ble_eq_true rfl) ?_
  refine ax_bret dX4_isMachine_9 rfl ⟨(Nat.le_refl _), (Nat.le_refl _)⟩ ?_ ?_
  · rw [show (0 : Int64) = (0 : Int32).toInt64 from rfl, show (5 : Int64) = (5 : Int32).toInt64 from rfl]; simp only [i64_le]
  · rfl
theorem ok_isRegion (x : Int32) : ax_Ok mX4_isRegion yX4_isRegion 2 0 0 [ax_r (80, 0), ax_i x] (fh c ρ) (ax_D (ax_i (ax_b (decide (0 ≤ x) && decide (x ≤ nI (ρ.1 4 0) - 1)))) (fh c ρ)) := by
  refine ax_Ok.of (by decide) rfl (fun q => by cases q) (Nat.le_of_ble_eq_true rfl) rfl ?_
  refine ax_iload_n dX4_isRegion_0 rfl ?_
  refine ax_i2l _ dX4_isRegion_1 rfl ?_
  refine ax_lconst 0 dX4_isRegion_2 (by decide) ?_
  refine ax_aload_n dX4_isRegion_3 rfl ?_
  refine rg_4 dX4_isRegion_4 ?_
  refine ax_iconst (nI 1) dX4_isRegion_7 (by decide) ?_
  refine ax_isub _ dX4_isRegion_8 (rfl) ?_
  refine ax_i2l _ dX4_isRegion_9 rfl ?_
  refine ax_S3 cs_X4_88 dX4_isRegion_10 (ok_in _ _ _) (by decide) (Nat.le_refl _) (Nat.le_refl _) (Nat.le_of_ble_eq_true rfl) ?_
  refine ax_bret dX4_isRegion_13 rfl ⟨(Nat.le_refl _), (Nat.le_refl _)⟩ ?_ ?_
  · rw [show (0 : Int64) = (0 : Int32).toInt64 from rfl]; simp only [i64_le]; rfl
  · rfl
theorem ok_isOn (hw : rf_ok ρ) {r i : Nat} (hr : r < 6) (hi : i < 6) : ax_Ok mX4_isOn yX4_isOn 1 0 0 [ax_r (80, 0), ax_i (nI r), ax_i (nI i)] (fh c ρ) (ax_D (ax_i (ax_b (rO ρ r i))) (fh c ρ)) := by
  refine ax_Ok.of (by decide) rfl (fun q => by cases q) (Nat.le_of_ble_eq_true rfl) rfl ?_
  refine ax_aload_n dX4_isOn_0 rfl ?_
  refine rg_1 dX4_isOn_1 ?_
  refine ax_aload_n dX4_isOn_4 rfl ?_
  refine rg_6 dX4_isOn_5 ?_
  refine ax_bipush (nI 6) dX4_isOn_8 (by decide) ?_
  refine ax_iload_n dX4_isOn_10 rfl ?_
  refine ax_imuln dX4_isOn_11 ?_
  refine ax_iload_n dX4_isOn_12 rfl ?_
  refine ax_iaddn dX4_isOn_13 ?_
  refine rl_6 dX4_isOn_14 (by first | omega | exact rk_6 hw _ | exact rk_11 hw _ | exact rk_18 hw _ | exact rk_19 hw _ | exact rk_27 hw _ | exact rk_N hw _ _) ?_
  refine rl_1 dX4_isOn_15 (by first | omega | exact rk_6 hw _ | exact rk_11 hw _ | exact rk_18 hw _ | exact rk_19 hw _ | exact rk_27 hw _ | exact rk_N hw _ _) ?_
  refine ax_bret dX4_isOn_16 rfl ⟨(Nat.le_refl _), (Nat.le_refl _)⟩ ?_ ?_
  · rfl
  · rfl
theorem ok_isUpAt (hw : rf_ok ρ) {r i : Nat} (hr : r < 6) (hi : i < 6) : ax_Ok mX4_isUpAt yX4_isUpAt 1 0 0 [ax_r (80, 0), ax_i (nI r), ax_i (nI i)] (fh c ρ) (ax_D (ax_i (ax_b (rU ρ r i))) (fh c ρ)) := by
  refine ax_Ok.of (by decide) rfl (fun q => by cases q) (Nat.le_of_ble_eq_true rfl) rfl ?_
  refine ax_aload_n dX4_isUpAt_0 rfl ?_
  refine rg_0 dX4_isUpAt_1 ?_
  refine ax_aload_n dX4_isUpAt_4 rfl ?_
  refine rg_6 dX4_isUpAt_5 ?_
  refine ax_bipush (nI 6) dX4_isUpAt_8 (by decide) ?_
  refine ax_iload_n dX4_isUpAt_10 rfl ?_
  refine ax_imuln dX4_isUpAt_11 ?_
  refine ax_iload_n dX4_isUpAt_12 rfl ?_
  refine ax_iaddn dX4_isUpAt_13 ?_
  refine rl_6 dX4_isUpAt_14 (by first | omega | exact rk_6 hw _ | exact rk_11 hw _ | exact rk_18 hw _ | exact rk_19 hw _ | exact rk_27 hw _ | exact rk_N hw _ _) ?_
  refine rl_0 dX4_isUpAt_15 (by first | omega | exact rk_6 hw _ | exact rk_11 hw _ | exact rk_18 hw _ | exact rk_19 hw _ | exact rk_27 hw _ | exact rk_N hw _ _) ?_
  refine ax_bret dX4_isUpAt_16 rfl ⟨(Nat.le_refl _), (Nat.le_refl _)⟩ ?_ ?_
  · rfl
  · rfl
end REFM
