section CLS9
variable {κ ρ : ax_R}
def cKi (κ : ax_R) (t : Nat) : Nat := 8 * t + κ.1 44 t / 6
def cSl (κ : ax_R) (t : Nat) : Nat := if κ.1 12 t = 3 ∨ κ.1 12 t = 5 then κ.1 44 t % 6 else (cPr κ (κ.1 18 (cKi κ t))).getD 0
def cTaX (κ : ax_R) (t : Nat) : ax_R := cActX (nu κ 44 t (κ.1 44 t + 1)) t (cKi κ t) (cSl κ t)
def cTaS (κ : ax_R) (t : Nat) : ax_R := cPo 9 (cTaX κ t) t
def cTa (κ : ax_R) (t : Nat) : Int32 × ax_R := if rAc κ t = false then (-3, κ) else if rM κ (κ.1 18 (cKi κ t)) = 0 then (-5, κ) else if κ.2.1 0 (κ.1 11 t) = false ∨ κ.2.1 0 (κ.1 6 (6 * κ.1 18 (cKi κ t) + cSl κ t)) = false then (-6, κ) else (nI ((cTaS κ t).1 12 t), cTaS κ t)
/-- what an act asks of the class's state -/
def cGp (κ : ax_R) (t : Nat) : Prop := kf κ ∧ (rAc κ t = true → κ.1 44 t < κ.1 14 t * 6 ∧ (κ.1 12 t = 3 ∨ κ.1 12 t = 5 → κ.1 44 t % 6 < κ.1 5 (κ.1 18 (cKi κ t))) ∧ (κ.1 12 t = 4 ∨ κ.1 12 t = 5 → κ.2.1 22 (cKi κ t) = true)) ∧ (∀ i, κ.1 21 i + 1 < 1000000) ∧ (κ.1 12 t = 1 → κ.1 17 0 < 60)
theorem cMa_1 {t : Nat} (hg : cGp κ t) (hac : rAc κ t = true) (hM : ¬ rM κ (κ.1 18 (cKi κ t)) = 0) : cMa κ t (cKi κ t) = nI (κ.1 6 (6 * κ.1 18 (cKi κ t) + cSl κ t)) ∧ cSl κ t < κ.1 5 (κ.1 18 (cKi κ t)) := by
  unfold cMa cSl
  rw [if_neg hM]
  by_cases h : κ.1 12 t = 3 ∨ κ.1 12 t = 5
  · rw [if_pos h, if_pos h]
    exact ⟨rfl, (hg.2.1 hac).2.1 h⟩
  · rw [if_neg h, if_neg h]
    cases hp : cPr κ (κ.1 18 (cKi κ t)) with
    | none => exact absurd (cPr_none.mp hp) hM
    | some p => exact ⟨rfl, (cPr_lt hp).1⟩
theorem rz_1 {r s q n k j : Nat} {v : Int32} (h : k ≠ 8) : (cRz κ r s q v n).1 k j = κ.1 k j := by
  unfold cRz cPu
  split
  · simp [nu, ru, h]
  · rfl
theorem rz_b {r s q n : Nat} {v : Int32} : (cRz κ r s q v n).2.1 = κ.2.1 := by
  unfold cRz cPu
  split <;> rfl
theorem act_ok (hw : kf κ) {t k s : Nat} (ht : t < κ.1 10 0) (hik : ik κ k) (hs : s < κ.1 5 (κ.1 18 k)) (h16 : 1 ≤ κ.1 12 t ∧ κ.1 12 t ≤ 6) (hv : κ.1 21 k + 1 < 1000000) : kf (cActX κ t k s) ∧ (cActX κ t k s).1 10 0 = κ.1 10 0 ∧ (cActX κ t k s).1 14 t = κ.1 14 t ∧ (cActX κ t k s).1 17 0 = κ.1 17 0 ∧ (cActX κ t k s).1 44 t ≤ κ.1 44 t ∧ ((cActX κ t k s).1 12 t = κ.1 12 t ∨ (cActX κ t k s).1 12 t = 6) := by
  have hir := ik.r hw hik
  have ho := hw.o8 k
  unfold cActX
  split
  · split
    · exact ⟨kf_cu (kf_ph hw ht (by omega)) ht (by omega), rfl, rfl, rfl, by simp [nu], Or.inr (by simp [nu])⟩
    · exact ⟨kf_lk hw hir ho, rfl, rfl, rfl, Nat.le_refl _, Or.inl rfl⟩
  · split
    · exact ⟨kf_cu (kf_ph hw ht (by omega)) ht (by omega), rfl, rfl, rfl, by simp [nu], Or.inr (by simp [nu])⟩
    · exact ⟨hw, rfl, rfl, rfl, Nat.le_refl _, Or.inl rfl⟩
  · exact ⟨kf_re hw hik hs, rfl, rfl, rfl, Nat.le_refl _, Or.inl rfl⟩
  · have hw1 := kf_pu (v := κ.2.2 23 k) hw hs (hw.o8 k) hv
    have hw2 := kf_lk (v := -9) (r := κ.1 18 k) (q := κ.1 19 k) hw1 hir (hw.o8 k)
    exact ⟨kf_dc (kf_dor hw2 hik hs) ht, rfl, rfl, rfl, Nat.le_refl _, Or.inl rfl⟩
  · have hw1 := kf_rz (r := κ.1 18 k) (s := s) (q := κ.1 19 k) (v := κ.2.2 23 k) hw hs (hw.o8 k) hv
    have e18 : (cRz κ (κ.1 18 k) s (κ.1 19 k) (κ.2.2 23 k) (κ.1 21 k + 1)).1 18 k = κ.1 18 k := rz_1 (by decide)
    have e24 : (cRz κ (κ.1 18 k) s (κ.1 19 k) (κ.2.2 23 k) (κ.1 21 k + 1)).1 24 k = κ.1 24 k := rz_1 (by decide)
    have hik1 : ik (cRz κ (κ.1 18 k) s (κ.1 19 k) (κ.2.2 23 k) (κ.1 21 k + 1)) k := by
      unfold ik
      rw [rz_1 (by decide), rz_1 (by decide)]
      exact hik
    have hs1 : s < (cRz κ (κ.1 18 k) s (κ.1 19 k) (κ.2.2 23 k) (κ.1 21 k + 1)).1 5 ((cRz κ (κ.1 18 k) s (κ.1 19 k) (κ.2.2 23 k) (κ.1 21 k + 1)).1 18 k) := by
      rw [e18, rz_1 (by decide)]
      exact hs
    have hw2 := kf_re (b := false) hw1 hik1 hs1
    have hw3 := kf_dor (s := s) hw2 hik1 hs1
    refine ⟨?_, ?_, ?_, ?_, ?_, Or.inl ?_⟩
    · rw [← e24]; exact hw3
    · simp [nu, bu, rz_1]
    · simp [nu, bu, rz_1]
    · simp [nu, bu, rz_1]
    · simp [nu, bu, rz_1]
    · simp [nu, bu, rz_1]
  · exact ⟨kf_lk hw hir ho, rfl, rfl, rfl, Nat.le_refl _, Or.inl rfl⟩
theorem ok_tryActN1 (hw : kf κ) {t : Nat} (ht : t < κ.1 10 0) (hac : rAc κ t = false) (hi : κ.1 44 t / 6 < κ.1 14 t) : ax_Ok mX3_tryAct yX3_tryAct 10 1 73 [ax_r (1, 0), ax_r (8, t)] (fh (ch κ) ρ) (ax_D (ax_i (-3)) (fh (ch κ) ρ)) := by
  refine ax_Ok.of (by decide) rfl (fun q => by cases q) (Nat.le_of_ble_eq_true rfl) rfl ?_
  have h8 := hw.i8 t
  refine ax_aload_n dX3_tryAct_0 rfl ?_
  refine ax_aload_n dX3_tryAct_1 rfl ?_
  refine ax_get (ci := 3) (k := 4) (T := TX2) dX3_tryAct_2 (ch_T (by assumption)) rfl (by decide) fl_X3_273 rfl ?_
  refine ax_bipush (nI 6) dX3_tryAct_5 (by decide) ?_
  refine ax_idivn dX3_tryAct_7 (by decide) (by have := hw.lt 44 t; omega) (by decide) ?_
  refine ax_V1 cv_X3_214 dX3_tryAct_8 (ch_T (by assumption)) rfl (ok_itemAt hw ht hi) (by decide) (by decide) (by decide) (Nat.le_of_ble_eq_true rfl) ?_
  refine ax_astore_n dX3_tryAct_11 rfl (by decide) ?_
  refine ax_aload_n dX3_tryAct_12 rfl ?_
  refine ax_V0 cv_X3_201 dX3_tryAct_13 (ch_T (by assumption)) rfl (ok_isUnderWay hw (by assumption)) (by decide) (by decide) (by decide) (Nat.le_of_ble_eq_true rfl) ?_
  refine ax_beq 23 dX3_tryAct_16 (by decide) (fun c16 => ?_) (fun c16 => absurd c16 (by rw [hac]; simp))
  refine ax_bipush (-3) dX3_tryAct_23 (by decide) ?_
  refine ax_iretD dX3_tryAct_25 rfl ⟨(by decide), (by decide)⟩ ?_ ?_
  · rfl
  · rfl
theorem ok_tryActN2 (hw : kf κ) {t : Nat} (ht : t < κ.1 10 0) (hac : rAc κ t = false) (hi : ¬ κ.1 44 t / 6 < κ.1 14 t) : ax_Ok mX3_tryAct yX3_tryAct 10 1 73 [ax_r (1, 0), ax_r (8, t)] (fh (ch κ) ρ) (ax_D (ax_i (-3)) (fh (ch κ) ρ)) := by
  refine ax_Ok.of (by decide) rfl (fun q => by cases q) (Nat.le_of_ble_eq_true rfl) rfl ?_
  have h8 := hw.i8 t
  refine ax_aload_n dX3_tryAct_0 rfl ?_
  refine ax_aload_n dX3_tryAct_1 rfl ?_
  refine ax_get (ci := 3) (k := 4) (T := TX2) dX3_tryAct_2 (ch_T (by assumption)) rfl (by decide) fl_X3_273 rfl ?_
  refine ax_bipush (nI 6) dX3_tryAct_5 (by decide) ?_
  refine ax_idivn dX3_tryAct_7 (by decide) (by have := hw.lt 44 t; omega) (by decide) ?_
  refine ax_V1 cv_X3_214 dX3_tryAct_8 (ch_T (by assumption)) rfl (ok_itemAtN ht (by rintro ⟨-, z⟩; rw [nI_ltI (by have := hw.lt 44 t; omega) (by omega)] at z; exact hi z)) (by decide) (by decide) (by decide) (Nat.le_of_ble_eq_true rfl) ?_
  refine ax_astore_n dX3_tryAct_11 rfl (by decide) ?_
  refine ax_aload_n dX3_tryAct_12 rfl ?_
  refine ax_V0 cv_X3_201 dX3_tryAct_13 (ch_T (by assumption)) rfl (ok_isUnderWay hw (by assumption)) (by decide) (by decide) (by decide) (Nat.le_of_ble_eq_true rfl) ?_
  refine ax_beq 23 dX3_tryAct_16 (by decide) (fun c16 => ?_) (fun c16 => absurd c16 (by rw [hac]; simp))
  refine ax_bipush (-3) dX3_tryAct_23 (by decide) ?_
  refine ax_iretD dX3_tryAct_25 rfl ⟨(by decide), (by decide)⟩ ?_ ?_
  · rfl
  · rfl
theorem ok_tryActL {t : Nat} (hg : cGp κ t) (ht : t < κ.1 10 0) (hac : rAc κ t = true) (hM : rM κ (κ.1 18 (cKi κ t)) = 0) : ax_Ok mX3_tryAct yX3_tryAct 10 1 73 [ax_r (1, 0), ax_r (8, t)] (fh (ch κ) ρ) (ax_D (ax_i (-5)) (fh (ch κ) ρ)) := by
  refine ax_Ok.of (by decide) rfl (fun q => by cases q) (Nat.le_of_ble_eq_true rfl) rfl ?_
  have hw := hg.1
  have hi : κ.1 44 t / 6 < κ.1 14 t := by have := (hg.2.1 hac).1; omega
  have h16 := rAc_16 hac
  have hik : ik κ (cKi κ t) := ik.of hw ht hi
  have h8 := hw.i8 t
  have h44 := hw.lt 44 t
  refine ax_aload_n dX3_tryAct_0 rfl ?_
  refine ax_aload_n dX3_tryAct_1 rfl ?_
  refine ax_get (ci := 3) (k := 4) (T := TX2) dX3_tryAct_2 (ch_T (by assumption)) rfl (by decide) fl_X3_273 rfl ?_
  refine ax_bipush (nI 6) dX3_tryAct_5 (by decide) ?_
  refine ax_idivn dX3_tryAct_7 (by decide) (by omega) (by decide) ?_
  refine ax_V1 cv_X3_214 dX3_tryAct_8 (ch_T (by assumption)) rfl (ok_itemAt hw ht hi) (by decide) (by decide) (by decide) (Nat.le_of_ble_eq_true rfl) ?_
  refine ax_astore_n dX3_tryAct_11 rfl (by decide) ?_
  refine ax_aload_n dX3_tryAct_12 rfl ?_
  refine ax_V0 cv_X3_201 dX3_tryAct_13 (ch_T (by assumption)) rfl (ok_isUnderWay hw (by assumption)) (by decide) (by decide) (by decide) (Nat.le_of_ble_eq_true rfl) ?_
  refine ax_beq 23 dX3_tryAct_16 (by decide) (fun c16 => absurd c16 (by rw [hac]; simp)) (fun c16 => ?_)
  refine ax_aload_n dX3_tryAct_19 rfl ?_
  refine ax_ifnonnull 26 dX3_tryAct_20 (by decide) (fun c20 => ?_) (fun c20 => absurd c20 (by intro z; cases z))
  refine ax_aload_n dX3_tryAct_26 rfl ?_
  refine ax_aload_n dX3_tryAct_27 rfl ?_
  refine ax_aload_n dX3_tryAct_28 rfl ?_
  refine ax_V2 cv_X3_276 dX3_tryAct_29 ch_O rfl (ok_machineOfAct (k := cKi κ t) hw ht hik) (by decide) (by decide) (by decide) (Nat.le_of_ble_eq_true rfl) ?_
  refine ax_istore_n dX3_tryAct_32 rfl (by decide) ?_
  refine ax_iload_n dX3_tryAct_33 rfl ?_
  refine ax_bipush (-9) dX3_tryAct_34 (by decide) ?_
  refine ax_icmp_ne 42 dX3_tryAct_36 (by decide) (fun c36 => absurd c36 (fun z => z (by unfold cMa; rw [if_pos hM]))) (fun c36 => ?_)
  refine ax_bipush (-5) dX3_tryAct_39 (by decide) ?_
  refine ax_iretD dX3_tryAct_41 rfl ⟨(by decide), (by decide)⟩ ?_ ?_
  · rfl
  · rfl
theorem ok_tryActS {t : Nat} (hg : cGp κ t) (ht : t < κ.1 10 0) (hac : rAc κ t = true) (hM : ¬ rM κ (κ.1 18 (cKi κ t)) = 0) : ax_Ok mX3_tryAct yX3_tryAct 10 1 73 [ax_r (1, 0), ax_r (8, t)] (fh (ch κ) ρ) (ax_D (ax_i (cTa κ t).1) (fh (ch (cTa κ t).2) ρ)) := by
  refine ax_Ok.of (by decide) rfl (fun q => by cases q) (Nat.le_of_ble_eq_true rfl) rfl ?_
  have hw := hg.1
  have hi : κ.1 44 t / 6 < κ.1 14 t := by have := (hg.2.1 hac).1; omega
  have h16 := rAc_16 hac
  have hik : ik κ (cKi κ t) := ik.of hw ht hi
  have h8 := hw.i8 t
  have h44 := hw.lt 44 t
  obtain ⟨hma, hs⟩ := cMa_1 hg hac hM
  refine ax_aload_n dX3_tryAct_0 rfl ?_
  refine ax_aload_n dX3_tryAct_1 rfl ?_
  refine ax_get (ci := 3) (k := 4) (T := TX2) dX3_tryAct_2 (ch_T (by assumption)) rfl (by decide) fl_X3_273 rfl ?_
  refine ax_bipush (nI 6) dX3_tryAct_5 (by decide) ?_
  refine ax_idivn dX3_tryAct_7 (by decide) (by omega) (by decide) ?_
  refine ax_V1 cv_X3_214 dX3_tryAct_8 (ch_T (by assumption)) rfl (ok_itemAt hw ht hi) (by decide) (by decide) (by decide) (Nat.le_of_ble_eq_true rfl) ?_
  refine ax_astore_n dX3_tryAct_11 rfl (by decide) ?_
  refine ax_aload_n dX3_tryAct_12 rfl ?_
  refine ax_V0 cv_X3_201 dX3_tryAct_13 (ch_T (by assumption)) rfl (ok_isUnderWay hw (by assumption)) (by decide) (by decide) (by decide) (Nat.le_of_ble_eq_true rfl) ?_
  refine ax_beq 23 dX3_tryAct_16 (by decide) (fun c16 => absurd c16 (by rw [hac]; simp)) (fun c16 => ?_)
  refine ax_aload_n dX3_tryAct_19 rfl ?_
  refine ax_ifnonnull 26 dX3_tryAct_20 (by decide) (fun c20 => ?_) (fun c20 => absurd c20 (by intro z; cases z))
  refine ax_aload_n dX3_tryAct_26 rfl ?_
  refine ax_aload_n dX3_tryAct_27 rfl ?_
  refine ax_aload_n dX3_tryAct_28 rfl ?_
  refine ax_V2 cv_X3_276 dX3_tryAct_29 ch_O rfl (ok_machineOfAct (k := cKi κ t) hw ht hik) (by decide) (by decide) (by decide) (Nat.le_of_ble_eq_true rfl) ?_
  rw [hma]
  refine ax_istore_n dX3_tryAct_32 rfl (by decide) ?_
  refine ax_iload_n dX3_tryAct_33 rfl ?_
  refine ax_bipush (-9) dX3_tryAct_34 (by decide) ?_
  refine ax_icmp_ne 42 dX3_tryAct_36 (by decide) (fun c36 => ?_) (fun c36 => absurd c36 (nI_ne9 (by have := hw.m6 (6 * κ.1 18 (cKi κ t) + cSl κ t); omega)))
  refine ax_aload_n dX3_tryAct_42 rfl ?_
  refine ax_aload_n dX3_tryAct_43 rfl ?_
  refine ax_get (ci := 3) (k := 1) (T := TX2) dX3_tryAct_44 (ch_T (by assumption)) rfl (by decide) fl_X3_86 rfl ?_
  refine ax_V1 cv_X3_65 dX3_tryAct_47 ch_O rfl (ok_isUp (hw.co6 _)) (by decide) (by decide) (by decide) (Nat.le_of_ble_eq_true rfl) ?_
  refine ax_beq 61 dX3_tryAct_50 (by decide) (fun c50 => ?_) (fun c50 => ?_)
  · refine ax_bipush (-6) dX3_tryAct_61 (by decide) ?_
    refine ax_iretD dX3_tryAct_63 rfl ⟨(by decide), (by decide)⟩ ?_ ?_
    · simp [cTa, hac, hM, c16, c20, c36, c50]
    · simp [cTa, hac, hM, c16, c20, c36, c50]
  · refine ax_aload_n dX3_tryAct_53 rfl ?_
    refine ax_iload_n dX3_tryAct_54 rfl ?_
    refine ax_V1 cv_X3_65 dX3_tryAct_55 ch_O rfl (ok_isUp (hw.m6 _)) (by decide) (by decide) (by decide) (Nat.le_of_ble_eq_true rfl) ?_
    refine ax_bne 64 dX3_tryAct_58 (by decide) (fun c58 => ?_) (fun c58 => ?_)
    · refine ax_aload_n dX3_tryAct_64 rfl ?_
      refine ax_dup dX3_tryAct_65 rfl ?_
      refine ax_get (ci := 3) (k := 4) (T := TX2) dX3_tryAct_66 (ch_T (by assumption)) rfl (by decide) fl_X3_273 rfl ?_
      refine ax_iconst (nI 1) dX3_tryAct_69 (by decide) ?_
      refine ax_iaddn dX3_tryAct_70 ?_
      refine ax_put (ci := 3) (k := 4) (T := TX2) (ty := .int) dX3_tryAct_71 (ch_T (by assumption)) rfl (by decide) (Nat.le_of_ble_eq_true rfl) fl_X3_273 rfl (by decide +kernel) (fun _ => rfl) (fun _ => rfl) (cu_cu ht) ?_
      have hw1 := kf_cu (p := κ.1 44 t + 1) hw ht (by omega)
      obtain ⟨a1, a2, a3, a4, a5, a6⟩ := act_ok (κ := nu κ 44 t (κ.1 44 t + 1)) (t := t) (k := cKi κ t) (s := cSl κ t) hw1 ht hik hs h16 (hg.2.2.1 _)
      refine ax_aload_n dX3_tryAct_74 rfl ?_
      refine ax_aload_n dX3_tryAct_75 rfl ?_
      refine ax_aload_n dX3_tryAct_76 rfl ?_
      refine ax_iload_n dX3_tryAct_77 rfl ?_
      refine ax_V3v cv_X3_280 dX3_tryAct_78 ch_O rfl (ok_cact (κ := nu κ 44 t (κ.1 44 t + 1)) (s := cSl κ t) hw1 ht hik hs h16 (fun z => (hg.2.1 hac).2.2 z) (hg.2.2.1 _)) (by decide) (by decide) (by decide) (Nat.le_of_ble_eq_true rfl) ?_
      refine ax_hq (h2 := fh (ch (cTaX κ t)) ρ) rfl ?_
      have ht2 : t < (cTaX κ t).1 10 0 := by unfold cTaX; rw [a2]; exact ht
      refine ax_aload_n dX3_tryAct_81 rfl ?_
      refine ax_aload_n dX3_tryAct_82 rfl ?_
      refine ax_V1v cv_X3_194 dX3_tryAct_83 ch_O rfl (ok_passOver a1 ht2 (by refine Nat.le_trans a5 ?_; rw [a3]; have := (hg.2.1 hac).1; simp [nu]; omega) (fun z => by rw [a4]; rcases a6 with q | q; exact hg.2.2.2 (q.symm.trans z); rw [q] at z; omega)) (by decide) (by decide) (by decide) (Nat.le_of_ble_eq_true rfl) ?_
      refine ax_hq (h2 := fh (ch (cTaS κ t)) ρ) rfl ?_
      have ht3 : t < (cTaS κ t).1 10 0 := by unfold cTaS; rw [po_inv]; exact ht2
      refine ax_aload_n dX3_tryAct_86 rfl ?_
      refine ax_get (ci := 3) (k := 3) (T := TX2) dX3_tryAct_87 (ch_T ht3) rfl (by decide) fl_X3_83 rfl ?_
      refine ax_iretD dX3_tryAct_90 rfl ⟨(by decide), (by decide)⟩ ?_ ?_
      · simp [cTa, hac, hM, c16, c20, c36, c50, c58]
      · simp [cTa, hac, hM, c16, c20, c36, c50, c58]
    · refine ax_bipush (-6) dX3_tryAct_61 (by decide) ?_
      refine ax_iretD dX3_tryAct_63 rfl ⟨(by decide), (by decide)⟩ ?_ ?_
      · simp [cTa, hac, hM, c16, c20, c36, c50, c58]
      · simp [cTa, hac, hM, c16, c20, c36, c50, c58]
theorem ok_tryAct {t : Nat} (hg : cGp κ t) (ht : t < κ.1 10 0) : ax_Ok mX3_tryAct yX3_tryAct 10 1 73 [ax_r (1, 0), ax_r (8, t)] (fh (ch κ) ρ) (ax_D (ax_i (cTa κ t).1) (fh (ch (cTa κ t).2) ρ)) := by
  cases hac : rAc κ t with
  | false =>
    rw [cTa, if_pos hac]
    by_cases hi : κ.1 44 t / 6 < κ.1 14 t
    · exact ok_tryActN1 hg.1 ht hac hi
    · exact ok_tryActN2 hg.1 ht hac hi
  | true =>
    by_cases hM : rM κ (κ.1 18 (cKi κ t)) = 0
    · rw [cTa, if_neg (by simp [hac]), if_pos hM]
      exact ok_tryActL hg ht hac hM
    · exact ok_tryActS hg ht hac hM
theorem ok_cstep0 {x : Int32} (hx : ¬ (0 ≤ x ∧ x < nI (κ.1 10 0))) : ax_Ok mX3_step yX3_step 11 1 73 [ax_r (1, 0), ax_i x] (fh (ch κ) ρ) (ax_D (ax_i (-1)) (fh (ch κ) ρ)) := by
  refine ax_Ok.of (by decide) rfl (fun q => by cases q) (Nat.le_of_ble_eq_true rfl) rfl ?_
  refine ax_aload_n dX3_step_0 rfl ?_
  refine ax_iload_n dX3_step_1 rfl ?_
  refine ax_V1 cv_X3_160 dX3_step_2 ch_O rfl (ok_transactionAtN hx) (by decide) (by decide) (by decide) (Nat.le_of_ble_eq_true rfl) ?_
  refine ax_astore_n dX3_step_5 rfl (by decide) ?_
  refine ax_aload_n dX3_step_6 rfl ?_
  refine ax_ifnonnull 14 dX3_step_7 (by decide) (fun c7 => absurd c7 (fun z => z rfl)) (fun c7 => ?_)
  refine ax_iconst (-1) dX3_step_10 (by decide) ?_
  refine ax_goto 19 dX3_step_11 (by decide) ?_
  refine ax_iretD dX3_step_19 rfl ⟨(by decide), (by decide)⟩ ?_ ?_
  · rfl
  · rfl
theorem ok_cstep {t : Nat} (hg : cGp κ t) (ht : t < κ.1 10 0) : ax_Ok mX3_step yX3_step 11 1 73 [ax_r (1, 0), ax_i (nI t)] (fh (ch κ) ρ) (ax_D (ax_i (cTa κ t).1) (fh (ch (cTa κ t).2) ρ)) := by
  refine ax_Ok.of (by decide) rfl (fun q => by cases q) (Nat.le_of_ble_eq_true rfl) rfl ?_
  have hw := hg.1
  refine ax_aload_n dX3_step_0 rfl ?_
  refine ax_iload_n dX3_step_1 rfl ?_
  refine ax_V1 cv_X3_160 dX3_step_2 ch_O rfl (ok_transactionAt hw ht) (by decide) (by decide) (by decide) (Nat.le_of_ble_eq_true rfl) ?_
  refine ax_astore_n dX3_step_5 rfl (by decide) ?_
  refine ax_aload_n dX3_step_6 rfl ?_
  refine ax_ifnonnull 14 dX3_step_7 (by decide) (fun c7 => ?_) (fun c7 => absurd c7 (by intro z; cases z))
  refine ax_aload_n dX3_step_14 rfl ?_
  refine ax_aload_n dX3_step_15 rfl ?_
  refine ax_V1 cv_X3_198 dX3_step_16 ch_O rfl (ok_tryAct hg ht) (by decide) (by decide) (by decide) (Nat.le_of_ble_eq_true rfl) ?_
  refine ax_iretD dX3_step_19 rfl ⟨(by decide), (by decide)⟩ ?_ ?_
  · rfl
  · rfl
def cRn : Nat → ax_R → Nat → Nat × ax_R
  | 0, κ, _ => (0, κ)
  | m + 1, κ, t => if (cTa κ t).1 < 0 then (0, (cTa κ t).2) else ((cRn m (cTa κ t).2 t).1 + 1, (cRn m (cTa κ t).2 t).2)
theorem lp_crun {t n : Nat} (hn : n ≤ 100) (J : ax_R → Prop) (hJ : ∀ κ, J κ → cGp κ t ∧ t < κ.1 10 0) (hJ2 : ∀ κ, J κ → ¬ (cTa κ t).1 < 0 → J (cTa κ t).2) : ∀ (m k : Nat) (κ : ax_R) (uc us : Nat) (V : Nat × ax_R), k + m = n → J κ → uc ≤ k → us ≤ 73 * k → ((cRn m κ t).1 + k, (cRn m κ t).2) = V → ax_Z mX3_run 11 100 7300 (ax_D (ax_i (nI V.1)) (fh (ch V.2) ρ)) 39 [some (ax_r (1, 0)), some (ax_i (nI t)), some (ax_i (nI n)), some (ax_r (8, t)), some (ax_i (nI k))] [] (fh (ch κ) ρ) uc us := by
  intro m
  induction m with
  | zero =>
    intro k κ uc us V hk hj hu hs hV
    subst hV
    refine ax_iload dX3_run_39 rfl ?_
    refine ax_iload_n dX3_run_41 rfl ?_
    refine ax_nge 59 dX3_run_42 (by decide) (by omega) (by omega) (fun c42 => ?_) (fun c42 => absurd c42 (by omega))
    refine ax_iload dX3_run_59 rfl ?_
    refine ax_iretD dX3_run_61 rfl ⟨(by omega), (by omega)⟩ ?_ ?_
    · show nI k = nI (0 + k); rw [Nat.zero_add]
    · rfl
  | succ m ih =>
    intro k κ uc us V hk hj hu hs hV
    obtain ⟨hg, ht⟩ := hJ κ hj
    have hw := hg.1
    subst hV
    refine ax_iload dX3_run_39 rfl ?_
    refine ax_iload_n dX3_run_41 rfl ?_
    refine ax_nge 59 dX3_run_42 (by decide) (by omega) (by omega) (fun c42 => absurd c42 (by omega)) (fun c42 => ?_)
    refine ax_aload_n dX3_run_45 rfl ?_
    refine ax_aload_n dX3_run_46 rfl ?_
    refine ax_V1 cv_X3_198 dX3_run_47 ch_O rfl (ok_tryAct hg ht) (by decide) (by omega) (by omega) (Nat.le_of_ble_eq_true rfl) ?_
    refine ax_if_lt 59 dX3_run_50 (by decide) (fun c50 => ?_) (fun c50 => ?_)
    · refine ax_iload dX3_run_59 rfl ?_
      refine ax_iretD dX3_run_61 rfl ⟨(by omega), (by omega)⟩ ?_ ?_
      · simp [cRn, c42, c50]
      · simp [cRn, c42, c50]
    · refine ax_iincn (n := 1) dX3_run_53 rfl (by decide) rfl ?_
      refine ax_goto 39 dX3_run_56 (by decide) ?_
      exact ih (k + 1) (cTa κ t).2 _ _ _ (by omega) (hJ2 κ hj c50) (by omega) (by omega) (by simp [cRn, c50]; omega)
theorem ok_crun0 {x y : Int32} (hx : ¬ (0 ≤ x ∧ x < nI (κ.1 10 0))) : ax_Ok mX3_run yX3_run 11 100 7300 [ax_r (1, 0), ax_i x, ax_i y] (fh (ch κ) ρ) (ax_D (ax_i (-1)) (fh (ch κ) ρ)) := by
  refine ax_Ok.of (by decide) rfl (fun q => by cases q) (Nat.le_of_ble_eq_true rfl) rfl ?_
  refine ax_aload_n dX3_run_0 rfl ?_
  refine ax_iload_n dX3_run_1 rfl ?_
  refine ax_V1 cv_X3_160 dX3_run_2 ch_O rfl (ok_transactionAtN hx) (by decide) (by decide) (by decide) (Nat.le_of_ble_eq_true rfl) ?_
  refine ax_astore_n dX3_run_5 rfl (by decide) ?_
  refine ax_aload_n dX3_run_6 rfl ?_
  refine ax_ifnonnull 12 dX3_run_7 (by decide) (fun c7 => absurd c7 (fun z => z rfl)) (fun c7 => ?_)
  refine ax_iconst (-1) dX3_run_10 (by decide) ?_
  refine ax_iretD dX3_run_11 rfl ⟨(by decide), (by decide)⟩ ?_ ?_
  · rfl
  · rfl
theorem ok_crun1 (hw : kf κ) {t : Nat} (ht : t < κ.1 10 0) {y : Int32} (hn : (decide (1 ≤ y) && decide (y ≤ 100)) = false) : ax_Ok mX3_run yX3_run 11 100 7300 [ax_r (1, 0), ax_i (nI t), ax_i y] (fh (ch κ) ρ) (ax_D (ax_i (-2)) (fh (ch κ) ρ)) := by
  refine ax_Ok.of (by decide) rfl (fun q => by cases q) (Nat.le_of_ble_eq_true rfl) rfl ?_
  refine ax_aload_n dX3_run_0 rfl ?_
  refine ax_iload_n dX3_run_1 rfl ?_
  refine ax_V1 cv_X3_160 dX3_run_2 ch_O rfl (ok_transactionAt hw ht) (by decide) (by decide) (by decide) (Nat.le_of_ble_eq_true rfl) ?_
  refine ax_astore_n dX3_run_5 rfl (by decide) ?_
  refine ax_aload_n dX3_run_6 rfl ?_
  refine ax_ifnonnull 12 dX3_run_7 (by decide) (fun c7 => ?_) (fun c7 => absurd c7 (by intro z; cases z))
  refine ax_iload_n dX3_run_12 rfl ?_
  refine ax_iconst (1) dX3_run_13 (by decide) ?_
  refine ax_icmp_lt 23 dX3_run_14 (by decide) (fun c14 => ?_) (fun c14 => ?_)
  · refine ax_bipush (-2) dX3_run_23 (by decide) ?_
    refine ax_iretD dX3_run_25 rfl ⟨(by decide), (by decide)⟩ ?_ ?_
    · rfl
    · rfl
  · refine ax_iload_n dX3_run_17 rfl ?_
    refine ax_bipush (100) dX3_run_18 (by decide) ?_
    refine ax_icmp_le 26 dX3_run_20 (by decide) (fun c20 => absurd c20 (by intro z; rw [Int32.not_lt] at c14; simp [c14, z] at hn)) (fun c20 => ?_)
    refine ax_bipush (-2) dX3_run_23 (by decide) ?_
    refine ax_iretD dX3_run_25 rfl ⟨(by decide), (by decide)⟩ ?_ ?_
    · rfl
    · rfl
theorem ok_crun2 (hw : kf κ) {t n : Nat} (ht : t < κ.1 10 0) (h1 : 1 ≤ n) (hn : n ≤ 100) (ha : rAc κ t = false) : ax_Ok mX3_run yX3_run 11 100 7300 [ax_r (1, 0), ax_i (nI t), ax_i (nI n)] (fh (ch κ) ρ) (ax_D (ax_i (-3)) (fh (ch κ) ρ)) := by
  refine ax_Ok.of (by decide) rfl (fun q => by cases q) (Nat.le_of_ble_eq_true rfl) rfl ?_
  refine ax_aload_n dX3_run_0 rfl ?_
  refine ax_iload_n dX3_run_1 rfl ?_
  refine ax_V1 cv_X3_160 dX3_run_2 ch_O rfl (ok_transactionAt hw ht) (by decide) (by decide) (by decide) (Nat.le_of_ble_eq_true rfl) ?_
  refine ax_astore_n dX3_run_5 rfl (by decide) ?_
  refine ax_aload_n dX3_run_6 rfl ?_
  refine ax_ifnonnull 12 dX3_run_7 (by decide) (fun c7 => ?_) (fun c7 => absurd c7 (by intro z; cases z))
  refine ax_iload_n dX3_run_12 rfl ?_
  refine ax_iconst (nI 1) dX3_run_13 (by decide) ?_
  refine ax_nlt 23 dX3_run_14 (by decide) (by omega) (by omega) (fun c14 => absurd c14 (by omega)) (fun c14 => ?_)
  refine ax_iload_n dX3_run_17 rfl ?_
  refine ax_bipush (nI 100) dX3_run_18 (by decide) ?_
  refine ax_nle 26 dX3_run_20 (by decide) (by omega) (by omega) (fun c20 => ?_) (fun c20 => absurd c20 (by omega))
  refine ax_aload_n dX3_run_26 rfl ?_
  refine ax_V0 cv_X3_201 dX3_run_27 (ch_T (by assumption)) rfl (ok_isUnderWay hw (by assumption)) (by decide) (by decide) (by decide) (Nat.le_of_ble_eq_true rfl) ?_
  refine ax_bne 36 dX3_run_30 (by decide) (fun c30 => absurd c30 (by rw [ha]; simp)) (fun c30 => ?_)
  refine ax_bipush (-3) dX3_run_33 (by decide) ?_
  refine ax_iretD dX3_run_35 rfl ⟨(by decide), (by decide)⟩ ?_ ?_
  · rfl
  · rfl
theorem ok_crun {t n : Nat} (h1 : 1 ≤ n) (hn : n ≤ 100) (J : ax_R → Prop) (hJ : ∀ κ, J κ → cGp κ t ∧ t < κ.1 10 0) (hJ2 : ∀ κ, J κ → ¬ (cTa κ t).1 < 0 → J (cTa κ t).2) (hj : J κ) (ha : rAc κ t = true) : ax_Ok mX3_run yX3_run 11 100 7300 [ax_r (1, 0), ax_i (nI t), ax_i (nI n)] (fh (ch κ) ρ) (ax_D (ax_i (nI (cRn n κ t).1)) (fh (ch (cRn n κ t).2) ρ)) := by
  refine ax_Ok.of (by decide) rfl (fun q => by cases q) (Nat.le_of_ble_eq_true rfl) rfl ?_
  obtain ⟨hg, ht⟩ := hJ κ hj
  have hw := hg.1
  refine ax_aload_n dX3_run_0 rfl ?_
  refine ax_iload_n dX3_run_1 rfl ?_
  refine ax_V1 cv_X3_160 dX3_run_2 ch_O rfl (ok_transactionAt hw ht) (by decide) (by decide) (by decide) (Nat.le_of_ble_eq_true rfl) ?_
  refine ax_astore_n dX3_run_5 rfl (by decide) ?_
  refine ax_aload_n dX3_run_6 rfl ?_
  refine ax_ifnonnull 12 dX3_run_7 (by decide) (fun c7 => ?_) (fun c7 => absurd c7 (by intro z; cases z))
  refine ax_iload_n dX3_run_12 rfl ?_
  refine ax_iconst (nI 1) dX3_run_13 (by decide) ?_
  refine ax_nlt 23 dX3_run_14 (by decide) (by omega) (by omega) (fun c14 => absurd c14 (by omega)) (fun c14 => ?_)
  refine ax_iload_n dX3_run_17 rfl ?_
  refine ax_bipush (nI 100) dX3_run_18 (by decide) ?_
  refine ax_nle 26 dX3_run_20 (by decide) (by omega) (by omega) (fun c20 => ?_) (fun c20 => absurd c20 (by omega))
  refine ax_aload_n dX3_run_26 rfl ?_
  refine ax_V0 cv_X3_201 dX3_run_27 (ch_T (by assumption)) rfl (ok_isUnderWay hw (by assumption)) (by decide) (by decide) (by decide) (Nat.le_of_ble_eq_true rfl) ?_
  refine ax_bne 36 dX3_run_30 (by decide) (fun c30 => ?_) (fun c30 => absurd c30 (by rw [ha]; simp))
  refine ax_iconst (nI 0) dX3_run_36 (by decide) ?_
  refine ax_istore dX3_run_37 rfl (by decide) ?_
  exact lp_crun hn J hJ hJ2 n 0 κ _ _ _ (Nat.zero_add _) hj (by decide) (by decide) rfl
theorem lp_ccopy {r p c a b : Nat} : ∀ (m : Nat) (κ : ax_R) (i : Nat) (V : ax_R), kf κ → r < κ.1 4 0 → p < κ.1 5 r → c < κ.1 5 r → κ.1 6 (6 * r + p) = a → κ.1 6 (6 * r + c) = b → i + m = 8 → (List.range' i m).foldl (rCs r c p) κ = V → ax_Z mX3_copy 6 0 0 (ax_D (ax_i (nI (rM V r))) (fh (ch V) ρ)) 103 [some (ax_r (1, 0)), some (ax_i (nI r)), some (ax_i (nI b)), some (ax_r (3, r)), some (ax_i (nI a)), some (ax_i (nI i)), none] [] (fh (ch κ) ρ) 0 0 := by
  intro m
  induction m with
  | zero =>
    intro κ i V hw hr hp hc ha hb hk hV
    subst ha hb
    refine ax_iload dX3_copy_103 rfl ?_
    refine ax_bipush (nI 8) dX3_copy_105 (by decide) ?_
    refine ax_nge 149 dX3_copy_107 (by decide) (by omega) (by omega) (fun c107 => ?_) (fun c107 => absurd c107 (by omega))
    refine ax_aload_n dX3_copy_149 rfl ?_
    refine ax_aload_n dX3_copy_150 rfl ?_
    refine ax_V1 cv_X3_115 dX3_copy_151 ch_O rfl (ok_copiesOnMembers hw hr) (by decide) (Nat.le_refl _) (Nat.le_refl _) (Nat.le_of_ble_eq_true rfl) ?_
    refine ax_iretD dX3_copy_154 rfl ⟨(Nat.le_refl _), (Nat.le_refl _)⟩ ?_ ?_
    · rw [← hV]; rfl
    · rw [← hV]; rfl
  | succ m ih =>
    intro κ i V hw hr hp hc ha hb hk hV
    subst ha hb
    have hi : i < 8 := by omega
    refine ax_iload dX3_copy_103 rfl ?_
    refine ax_bipush (nI 8) dX3_copy_105 (by decide) ?_
    refine ax_nge 149 dX3_copy_107 (by decide) (by omega) (by omega) (fun c107 => absurd c107 (by omega)) (fun c107 => ?_)
    refine ax_iload dX3_copy_110 rfl ?_
    refine ax_iload dX3_copy_112 rfl ?_
    refine ax_S2 cs_X3_122 dX3_copy_114 (ok_ccell) (by decide) (Nat.le_refl _) (Nat.le_refl _) (Nat.le_of_ble_eq_true rfl) ?_
    refine ax_istore dX3_copy_117 rfl (by decide) ?_
    refine ax_aload_n dX3_copy_119 rfl ?_
    refine ax_iload_n dX3_copy_120 rfl ?_
    refine ax_iload dX3_copy_121 rfl ?_
    refine ax_S2 cs_X3_122 dX3_copy_123 (ok_ccell) (by decide) (Nat.le_refl _) (Nat.le_refl _) (Nat.le_of_ble_eq_true rfl) ?_
    refine ax_aload_n dX3_copy_126 rfl ?_
    refine ax_get (ci := 2) (k := 4) (T := TX1) dX3_copy_127 (ch_R (by first | assumption | exact ik.r hw (by assumption))) rfl (by decide) fl_X3_126 rfl ?_
    refine ax_iload dX3_copy_130 rfl ?_
    refine cl_vv hw dX3_copy_132 (by first | assumption | exact ik.r hw (by assumption)) ⟨hp, hi⟩ ?_
    refine ax_aload_n dX3_copy_133 rfl ?_
    refine ax_get (ci := 2) (k := 5) (T := TX1) dX3_copy_134 (ch_R (by first | assumption | exact ik.r hw (by assumption))) rfl (by decide) fl_X3_129 rfl ?_
    refine ax_iload dX3_copy_137 rfl ?_
    refine cl_vn hw dX3_copy_139 (by first | assumption | exact ik.r hw (by assumption)) ⟨hp, hi⟩ ?_
    refine ax_V3v cv_X3_132 dX3_copy_140 (ch_R (by first | assumption | exact ik.r hw (by assumption))) rfl (ok_put hw hr hc hi) (by decide) (Nat.le_refl _) (Nat.le_refl _) (Nat.le_of_ble_eq_true rfl) ?_
    refine ax_iincn (n := 1) dX3_copy_143 rfl (by decide) rfl ?_
    refine ax_goto 103 dX3_copy_146 (by decide) ?_
    refine ax_fg [true, true, true, true, true, true, false] rfl ?_
    exact ih (rCs r c p κ i) (i + 1) V (kf_pu hw hc hi (hw.lt 8 _)) hr hp hc rfl rfl (by omega) (by rw [← hV, List.range'_succ, List.foldl_cons])
theorem ok_ccopy0 (hw : kf κ) {x y : Int32} (hu : ¬ (0 ≤ x ∧ x < nI (κ.1 4 0)) ∨ isM y = false) : ax_Ok mX3_copy yX3_copy 6 0 0 [ax_r (1, 0), ax_i x, ax_i y] (fh (ch κ) ρ) (ax_D (ax_i (-1)) (fh (ch κ) ρ)) := by
  refine ax_Ok.of (by decide) rfl (fun q => by cases q) (Nat.le_of_ble_eq_true rfl) rfl ?_
  by_cases hx : 0 ≤ x ∧ x < nI (κ.1 4 0)
  · obtain ⟨r, hr, rfl⟩ := nI_inr (by have := hw.nR; omega) hx
    have hm : isM y = false := hu.resolve_left (fun z => z hx)
    refine ax_aload_n dX3_copy_0 rfl ?_
    refine ax_iload_n dX3_copy_1 rfl ?_
    refine ax_V1 cv_X3_100 dX3_copy_2 ch_O rfl (ok_regionAt hw hr) (by decide) (Nat.le_refl _) (Nat.le_refl _) (Nat.le_of_ble_eq_true rfl) ?_
    refine ax_astore_n dX3_copy_5 rfl (by decide) ?_
    refine ax_aload_n dX3_copy_6 rfl ?_
    refine ax_ifnull 17 dX3_copy_7 (by decide) (fun c7 => absurd c7 (by intro z; cases z)) (fun c7 => ?_)
    refine ax_iload_n dX3_copy_10 rfl ?_
    refine ax_S1 cs_X3_36 dX3_copy_11 (ok_cIsM _) (by decide) (Nat.le_refl _) (Nat.le_refl _) (Nat.le_of_ble_eq_true rfl) ?_
    refine ax_bne 19 dX3_copy_14 (by decide) (fun c14 => absurd c14 (by rw [hm]; simp)) (fun c14 => ?_)
    refine ax_iconst (-1) dX3_copy_17 (by decide) ?_
    refine ax_iretD dX3_copy_18 rfl ⟨(Nat.le_refl _), (Nat.le_refl _)⟩ ?_ ?_
    · rfl
    · rfl
  · skip
    refine ax_aload_n dX3_copy_0 rfl ?_
    refine ax_iload_n dX3_copy_1 rfl ?_
    refine ax_V1 cv_X3_100 dX3_copy_2 ch_O rfl (ok_regionAtN hx) (by decide) (Nat.le_refl _) (Nat.le_refl _) (Nat.le_of_ble_eq_true rfl) ?_
    refine ax_astore_n dX3_copy_5 rfl (by decide) ?_
    refine ax_aload_n dX3_copy_6 rfl ?_
    refine ax_ifnull 17 dX3_copy_7 (by decide) (fun c7 => ?_) (fun c7 => absurd c7 (fun z => z rfl))
    refine ax_iconst (-1) dX3_copy_17 (by decide) ?_
    refine ax_iretD dX3_copy_18 rfl ⟨(Nat.le_refl _), (Nat.le_refl _)⟩ ?_ ?_
    · rfl
    · rfl
theorem ok_ccopyL (hw : kf κ) {r m : Nat} (hr : r < κ.1 4 0) (hm : m < 6) (hp : cPr κ r = none) : ax_Ok mX3_copy yX3_copy 6 0 0 [ax_r (1, 0), ax_i (nI r), ax_i (nI m)] (fh (ch κ) ρ) (ax_D (ax_i (-5)) (fh (ch κ) ρ)) := by
  refine ax_Ok.of (by decide) rfl (fun q => by cases q) (Nat.le_of_ble_eq_true rfl) rfl ?_
  refine ax_aload_n dX3_copy_0 rfl ?_
  refine ax_iload_n dX3_copy_1 rfl ?_
  refine ax_V1 cv_X3_100 dX3_copy_2 ch_O rfl (ok_regionAt hw hr) (by decide) (Nat.le_refl _) (Nat.le_refl _) (Nat.le_of_ble_eq_true rfl) ?_
  refine ax_astore_n dX3_copy_5 rfl (by decide) ?_
  refine ax_aload_n dX3_copy_6 rfl ?_
  refine ax_ifnull 17 dX3_copy_7 (by decide) (fun c7 => absurd c7 (by intro z; cases z)) (fun c7 => ?_)
  refine ax_iload_n dX3_copy_10 rfl ?_
  refine ax_S1 cs_X3_36 dX3_copy_11 (ok_cIsM _) (by decide) (Nat.le_refl _) (Nat.le_refl _) (Nat.le_of_ble_eq_true rfl) ?_
  refine ax_bne 19 dX3_copy_14 (by decide) (fun c14 => ?_) (fun c14 => absurd c14 (by rw [isM_n hm]; simp))
  refine ax_aload_n dX3_copy_19 rfl ?_
  refine ax_aload_n dX3_copy_20 rfl ?_
  refine ax_V1 cv_X3_104 dX3_copy_21 ch_O rfl (ok_prN hw hr hp) (by decide) (Nat.le_refl _) (Nat.le_refl _) (Nat.le_of_ble_eq_true rfl) ?_
  refine ax_istore dX3_copy_24 rfl (by decide) ?_
  refine ax_iload dX3_copy_26 rfl ?_
  refine ax_bipush (-9) dX3_copy_28 (by decide) ?_
  refine ax_icmp_ne 36 dX3_copy_30 (by decide) (fun c30 => absurd c30 (fun z => z rfl)) (fun c30 => ?_)
  refine ax_bipush (-5) dX3_copy_33 (by decide) ?_
  refine ax_iretD dX3_copy_35 rfl ⟨(Nat.le_refl _), (Nat.le_refl _)⟩ ?_ ?_
  · rfl
  · rfl
theorem pm_eq {r m : Nat} : pm κ r (fun _ => true) m = (List.range' 0 (κ.1 5 r)).any (fun k => decide (κ.1 6 (6 * r + k) = m)) := by
  unfold pm
  simp only [Bool.and_true]
theorem pm_false {r m : Nat} (h : pm κ r (fun _ => true) m = false) : ∀ s, s < κ.1 5 r → κ.1 6 (6 * r + s) ≠ m := by
  intro s hs e
  rw [pm_eq, List.any_eq_false] at h
  exact h s (List.mem_range'_1.mpr (by omega)) (by simp [e])
/-- a machine that has no copy: there is room for one more -/
theorem c_room (hw : kf κ) {r m : Nat} (hm : m < 6) (h : ∀ s, s < κ.1 5 r → κ.1 6 (6 * r + s) ≠ m) : κ.1 5 r < 6 := by
  have h1 := pm_cnt (r := r) (P := fun _ => true) (Q := fun x => !decide (x = m)) hw
  have h2 : (List.range' 0 (κ.1 5 r)).countP (fun s => true && !decide (κ.1 6 (6 * r + s) = m)) = κ.1 5 r := by
    have h3 : ∀ a ∈ List.range' 0 (κ.1 5 r), (fun s => true && !decide (κ.1 6 (6 * r + s) = m)) a = true := fun a ha => by
      have h4 := List.mem_range'_1.mp ha
      simp [h a (by omega)]
    rw [List.countP_eq_length.mpr h3, List.length_range']
  have h5 : (List.range' 0 6).countP (fun x => pm κ r (fun _ => true) x && !decide (x = m)) ≤ (List.range' 0 6).countP (fun x => !decide (x = m)) := List.countP_mono_left (fun x _ hx => by simp at hx ⊢; exact hx.2)
  have h6 : ∀ m, m < 6 → (List.range' 0 6).countP (fun x => !decide (x = m)) = 5 := by decide
  rw [h6 m hm, h1, h2] at h5
  omega
theorem ok_ccopyS (hw : kf κ) {r m p : Nat} (hr : r < κ.1 4 0) (hm : m < 6) (hp : cPr κ r = some p) (h3 : rM κ r ≤ 3) : ax_Ok mX3_copy yX3_copy 6 0 0 [ax_r (1, 0), ax_i (nI r), ax_i (nI m)] (fh (ch κ) ρ) (ax_D (ax_i (rCp κ r m).1) (fh (ch (rCp κ r m).2) ρ)) := by
  refine ax_Ok.of (by decide) rfl (fun q => by cases q) (Nat.le_of_ble_eq_true rfl) rfl ?_
  refine ax_aload_n dX3_copy_0 rfl ?_
  refine ax_iload_n dX3_copy_1 rfl ?_
  refine ax_V1 cv_X3_100 dX3_copy_2 ch_O rfl (ok_regionAt hw hr) (by decide) (Nat.le_refl _) (Nat.le_refl _) (Nat.le_of_ble_eq_true rfl) ?_
  refine ax_astore_n dX3_copy_5 rfl (by decide) ?_
  refine ax_aload_n dX3_copy_6 rfl ?_
  refine ax_ifnull 17 dX3_copy_7 (by decide) (fun c7 => absurd c7 (by intro z; cases z)) (fun c7 => ?_)
  refine ax_iload_n dX3_copy_10 rfl ?_
  refine ax_S1 cs_X3_36 dX3_copy_11 (ok_cIsM _) (by decide) (Nat.le_refl _) (Nat.le_refl _) (Nat.le_of_ble_eq_true rfl) ?_
  refine ax_bne 19 dX3_copy_14 (by decide) (fun c14 => ?_) (fun c14 => absurd c14 (by rw [isM_n hm]; simp))
  refine ax_aload_n dX3_copy_19 rfl ?_
  refine ax_aload_n dX3_copy_20 rfl ?_
  refine ax_V1 cv_X3_104 dX3_copy_21 ch_O rfl (ok_prS hw hr hp) (by decide) (Nat.le_refl _) (Nat.le_refl _) (Nat.le_of_ble_eq_true rfl) ?_
  refine ax_istore dX3_copy_24 rfl (by decide) ?_
  refine ax_iload dX3_copy_26 rfl ?_
  refine ax_bipush (-9) dX3_copy_28 (by decide) ?_
  refine ax_icmp_ne 36 dX3_copy_30 (by decide) (fun c30 => ?_) (fun c30 => absurd c30 (nI_ne9 (by have := hw.m6 (6 * r + p); omega)))
  refine ax_aload_n dX3_copy_36 rfl ?_
  refine ax_get (ci := 2) (k := 3) (T := TX1) dX3_copy_37 (ch_R (by first | assumption | exact ik.r hw (by assumption))) rfl (by decide) fl_X3_108 rfl ?_
  refine ax_iload_n dX3_copy_40 rfl ?_
  refine ax_S2 cs_X3_111 dX3_copy_41 (ok_holds hm) (by decide) (Nat.le_refl _) (Nat.le_refl _) (Nat.le_of_ble_eq_true rfl) ?_
  refine ax_bne 72 dX3_copy_44 (by decide) (fun c44 => ?_) (fun c44 => ?_)
  · refine ax_bipush (-3) dX3_copy_72 (by decide) ?_
    refine ax_iretD dX3_copy_74 rfl ⟨(Nat.le_refl _), (Nat.le_refl _)⟩ ?_ ?_
    · have hcb : rCb κ r m = true := by first | (simp [rCb, rU, cPr_eq, hp, ← pm_eq, c7, c14, c30, c44]; done) | (simp [rCb, rU, cPr_eq, hp, ← pm_eq, show rM κ r = 3 by omega]; done)
      rw [rCp, if_neg (by rw [← cPr_none, hp]; simp), if_pos hcb]
    · have hcb : rCb κ r m = true := by first | (simp [rCb, rU, cPr_eq, hp, ← pm_eq, c7, c14, c30, c44]; done) | (simp [rCb, rU, cPr_eq, hp, ← pm_eq, show rM κ r = 3 by omega]; done)
      rw [rCp, if_neg (by rw [← cPr_none, hp]; simp), if_pos hcb]
  · refine ax_aload_n dX3_copy_47 rfl ?_
    refine ax_iload_n dX3_copy_48 rfl ?_
    refine ax_V1 cv_X3_43 dX3_copy_49 ch_O rfl (ok_isMember hm) (by decide) (Nat.le_refl _) (Nat.le_refl _) (Nat.le_of_ble_eq_true rfl) ?_
    refine ax_beq 72 dX3_copy_52 (by decide) (fun c52 => ?_) (fun c52 => ?_)
    · refine ax_bipush (-3) dX3_copy_72 (by decide) ?_
      refine ax_iretD dX3_copy_74 rfl ⟨(Nat.le_refl _), (Nat.le_refl _)⟩ ?_ ?_
      · have hcb : rCb κ r m = true := by first | (simp [rCb, rU, cPr_eq, hp, ← pm_eq, c7, c14, c30, c44, c52]; done) | (simp [rCb, rU, cPr_eq, hp, ← pm_eq, show rM κ r = 3 by omega]; done)
        rw [rCp, if_neg (by rw [← cPr_none, hp]; simp), if_pos hcb]
      · have hcb : rCb κ r m = true := by first | (simp [rCb, rU, cPr_eq, hp, ← pm_eq, c7, c14, c30, c44, c52]; done) | (simp [rCb, rU, cPr_eq, hp, ← pm_eq, show rM κ r = 3 by omega]; done)
        rw [rCp, if_neg (by rw [← cPr_none, hp]; simp), if_pos hcb]
    · refine ax_aload_n dX3_copy_55 rfl ?_
      refine ax_iload_n dX3_copy_56 rfl ?_
      refine ax_V1 cv_X3_65 dX3_copy_57 ch_O rfl (ok_isUp hm) (by decide) (Nat.le_refl _) (Nat.le_refl _) (Nat.le_of_ble_eq_true rfl) ?_
      refine ax_beq 72 dX3_copy_60 (by decide) (fun c60 => ?_) (fun c60 => ?_)
      · refine ax_bipush (-3) dX3_copy_72 (by decide) ?_
        refine ax_iretD dX3_copy_74 rfl ⟨(Nat.le_refl _), (Nat.le_refl _)⟩ ?_ ?_
        · have hcb : rCb κ r m = true := by first | (simp [rCb, rU, cPr_eq, hp, ← pm_eq, c7, c14, c30, c44, c52, c60]; done) | (simp [rCb, rU, cPr_eq, hp, ← pm_eq, show rM κ r = 3 by omega]; done)
          rw [rCp, if_neg (by rw [← cPr_none, hp]; simp), if_pos hcb]
        · have hcb : rCb κ r m = true := by first | (simp [rCb, rU, cPr_eq, hp, ← pm_eq, c7, c14, c30, c44, c52, c60]; done) | (simp [rCb, rU, cPr_eq, hp, ← pm_eq, show rM κ r = 3 by omega]; done)
          rw [rCp, if_neg (by rw [← cPr_none, hp]; simp), if_pos hcb]
      · refine ax_aload_n dX3_copy_63 rfl ?_
        refine ax_iload dX3_copy_64 rfl ?_
        refine ax_V1 cv_X3_65 dX3_copy_66 ch_O rfl (ok_isUp (hw.m6 _)) (by decide) (Nat.le_refl _) (Nat.le_refl _) (Nat.le_of_ble_eq_true rfl) ?_
        refine ax_bne 75 dX3_copy_69 (by decide) (fun c69 => ?_) (fun c69 => ?_)
        · refine ax_aload_n dX3_copy_75 rfl ?_
          refine ax_aload_n dX3_copy_76 rfl ?_
          refine ax_V1 cv_X3_115 dX3_copy_77 ch_O rfl (ok_copiesOnMembers hw hr) (by decide) (Nat.le_refl _) (Nat.le_refl _) (Nat.le_of_ble_eq_true rfl) ?_
          refine ax_iconst (nI 3) dX3_copy_80 (by decide) ?_
          refine ax_nge 92 dX3_copy_81 (by decide) (by omega) (by omega) (fun c81 => ?_) (fun c81 => ?_)
          · refine ax_bipush (-3) dX3_copy_92 (by decide) ?_
            refine ax_iretD dX3_copy_94 rfl ⟨(Nat.le_refl _), (Nat.le_refl _)⟩ ?_ ?_
            · have hcb : rCb κ r m = true := by first | (simp [rCb, rU, cPr_eq, hp, ← pm_eq, c7, c14, c30, c44, c52, c60, c69, c81, Nat.not_lt.mpr c81]; done) | (simp [rCb, rU, cPr_eq, hp, ← pm_eq, show rM κ r = 3 by omega]; done)
              rw [rCp, if_neg (by rw [← cPr_none, hp]; simp), if_pos hcb]
            · have hcb : rCb κ r m = true := by first | (simp [rCb, rU, cPr_eq, hp, ← pm_eq, c7, c14, c30, c44, c52, c60, c69, c81, Nat.not_lt.mpr c81]; done) | (simp [rCb, rU, cPr_eq, hp, ← pm_eq, show rM κ r = 3 by omega]; done)
              rw [rCp, if_neg (by rw [← cPr_none, hp]; simp), if_pos hcb]
          · refine ax_aload_n dX3_copy_84 rfl ?_
            refine ax_aload_n dX3_copy_85 rfl ?_
            refine ax_V1 cv_X3_118 dX3_copy_86 ch_O rfl (ok_wuw hw hr) (by decide) (Nat.le_refl _) (Nat.le_refl _) (Nat.le_of_ble_eq_true rfl) ?_
            refine ax_beq 95 dX3_copy_89 (by decide) (fun c89 => ?_) (fun c89 => ?_)
            · have hno := pm_false c44
              have hc6 := c_room hw hm hno
              refine ax_aload_n dX3_copy_95 rfl ?_
              refine ax_iload_n dX3_copy_96 rfl ?_
              refine ax_V1v cv_X3_55 dX3_copy_97 (ch_R hr) rfl (ok_addCopy (P := pm κ r (fun _ => true)) (ch_R hr) (ch_o hr) hc6 hm) (by decide) (Nat.le_refl _) (Nat.le_refl _) (Nat.le_of_ble_eq_true rfl) ?_
              refine ax_hq (cu_ad hw hr hc6 hno) ?_
              refine ax_iconst (nI 0) dX3_copy_100 (by decide) ?_
              refine ax_istore dX3_copy_101 rfl (by decide) ?_
              refine ax_fg [true, true, true, true, true, true, false] rfl ?_
              have e5 : (cAd κ r m).1 5 r = κ.1 5 r + 1 := by rw [ad_5, if_pos rfl]
              have hpl := (cPr_lt hp).1
              have hcb : rCb κ r m = false := by simp [rCb, rU, cPr_eq, hp, ← pm_eq, show ¬ rM κ r = 3 by omega, c44, c52, c60, c69]; simpa using c89
              have h46 : (rCp κ r m) = (nI (rM (rCq κ r m) r), rCq κ r m) := by rw [rCp, if_neg (by rw [← cPr_none, hp]; simp), if_neg (by simp [hcb])]
              rw [h46]
              exact lp_ccopy (p := p) (c := κ.1 5 r) 8 (cAd κ r m) 0 _ (kf_ad hw hr hm hc6 hno) (by rw [ad_n (by decide) (by decide)]; exact hr) (by omega) (by omega) (by rw [ad_6, if_neg (by omega)]) (by rw [ad_6, if_pos rfl]) rfl (by unfold rCq; rw [cPr_eq, hp]; rfl)
            · refine ax_bipush (-3) dX3_copy_92 (by decide) ?_
              refine ax_iretD dX3_copy_94 rfl ⟨(Nat.le_refl _), (Nat.le_refl _)⟩ ?_ ?_
              · have hcb : rCb κ r m = true := by first | (simp [rCb, rU, cPr_eq, hp, ← pm_eq, c7, c14, c30, c44, c52, c60, c69, c81, Nat.not_le.mpr c81, c89]; done) | (simp [rCb, rU, cPr_eq, hp, ← pm_eq, show rM κ r = 3 by omega]; done)
                rw [rCp, if_neg (by rw [← cPr_none, hp]; simp), if_pos hcb]
              · have hcb : rCb κ r m = true := by first | (simp [rCb, rU, cPr_eq, hp, ← pm_eq, c7, c14, c30, c44, c52, c60, c69, c81, Nat.not_le.mpr c81, c89]; done) | (simp [rCb, rU, cPr_eq, hp, ← pm_eq, show rM κ r = 3 by omega]; done)
                rw [rCp, if_neg (by rw [← cPr_none, hp]; simp), if_pos hcb]
        · refine ax_bipush (-3) dX3_copy_72 (by decide) ?_
          refine ax_iretD dX3_copy_74 rfl ⟨(Nat.le_refl _), (Nat.le_refl _)⟩ ?_ ?_
          · have hcb : rCb κ r m = true := by first | (simp [rCb, rU, cPr_eq, hp, ← pm_eq, c7, c14, c30, c44, c52, c60, c69]; done) | (simp [rCb, rU, cPr_eq, hp, ← pm_eq, show rM κ r = 3 by omega]; done)
            rw [rCp, if_neg (by rw [← cPr_none, hp]; simp), if_pos hcb]
          · have hcb : rCb κ r m = true := by first | (simp [rCb, rU, cPr_eq, hp, ← pm_eq, c7, c14, c30, c44, c52, c60, c69]; done) | (simp [rCb, rU, cPr_eq, hp, ← pm_eq, show rM κ r = 3 by omega]; done)
            rw [rCp, if_neg (by rw [← cPr_none, hp]; simp), if_pos hcb]
theorem ok_ccopy (hw : kf κ) {r m : Nat} (hr : r < κ.1 4 0) (hm : m < 6) (h3 : rM κ r ≤ 3) : ax_Ok mX3_copy yX3_copy 6 0 0 [ax_r (1, 0), ax_i (nI r), ax_i (nI m)] (fh (ch κ) ρ) (ax_D (ax_i (rCp κ r m).1) (fh (ch (rCp κ r m).2) ρ)) := by
  cases hp : cPr κ r with
  | none =>
    rw [rCp, if_pos (cPr_none.mp hp)]
    exact ok_ccopyL hw hr hm hp
  | some p => exact ok_ccopyS hw hr hm hp h3
end CLS9
