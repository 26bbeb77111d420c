section CR
variable {Y : ax_M} {d mc ms : Nat} {Fi : Option ax_V → ax_H → Prop} {pc : Nat} {L : List (Option ax_V)} {S : List ax_V} {uc us : Nat} {κ ρ : ax_R}
theorem cl_od {r s : Nat} (hd : decode Y.2.1 pc = .ok (.iaload, 1)) (h : r < κ.1 4 0) (hs : s < 6) (kk : ax_Z Y d mc ms Fi (pc + 1) L (ax_i (nI (κ.1 6 (6 * r + s))) :: S) (fh (ch κ) ρ) uc us) : ax_Z Y d mc ms Fi pc L (ax_i (nI s) :: ax_r (4, r) :: S) (fh (ch κ) ρ) uc us := by
  refine ax_iald hd (ch_o h) (vp_in_nI hs (by omega)) ?_
  rw [nI_clamp (by omega), show od κ r s = nI (κ.1 6 (6 * r + s)) from if_pos hs]
  exact kk
theorem cl_lk {r q : Nat} (hd : decode Y.2.1 pc = .ok (.iaload, 1)) (h : r < κ.1 4 0) (hs : q < 8) (kk : ax_Z Y d mc ms Fi (pc + 1) L (ax_i (κ.2.2 9 (8 * r + q)) :: S) (fh (ch κ) ρ) uc us) : ax_Z Y d mc ms Fi pc L (ax_i (nI q) :: ax_r (7, r) :: S) (fh (ch κ) ρ) uc us := by
  refine ax_iald hd (ch_l h) (vp_in_nI hs (by omega)) ?_
  rw [nI_clamp (by omega), show lk κ r q = κ.2.2 9 (8 * r + q) from if_pos hs]
  exact kk
theorem cl_vv (hw : kf κ) {r s q : Nat} (hd : decode Y.2.1 pc = .ok (.iaload, 1)) (h : r < κ.1 4 0) (hs : s < κ.1 5 r ∧ q < 8) (kk : ax_Z Y d mc ms Fi (pc + 1) L (ax_i (κ.2.2 7 (8 * (6 * r + s) + q)) :: S) (fh (ch κ) ρ) uc us) : ax_Z Y d mc ms Fi pc L (ax_i (nI (κ.1 6 (6 * r + s) * 8 + q)) :: ax_r (5, r) :: S) (fh (ch κ) ρ) uc us := by
  have := hw.m6 (6 * r + s)
  refine ax_iald hd (ch_v h) (vp_in_nI (by omega) (by omega)) ?_
  rw [nI_clamp (by omega), vv_at hw hs.1 hs.2]
  exact kk
theorem cl_vn (hw : kf κ) {r s q : Nat} (hd : decode Y.2.1 pc = .ok (.iaload, 1)) (h : r < κ.1 4 0) (hs : s < κ.1 5 r ∧ q < 8) (kk : ax_Z Y d mc ms Fi (pc + 1) L (ax_i (nI (κ.1 8 (8 * (6 * r + s) + q))) :: S) (fh (ch κ) ρ) uc us) : ax_Z Y d mc ms Fi pc L (ax_i (nI (κ.1 6 (6 * r + s) * 8 + q)) :: ax_r (6, r) :: S) (fh (ch κ) ρ) uc us := by
  have := hw.m6 (6 * r + s)
  refine ax_iald hd (ch_n h) (vp_in_nI (by omega) (by omega)) ?_
  rw [nI_clamp (by omega), vn_at hw hs.1 hs.2]
  exact kk
theorem cl_mm {j : Nat} (hd : decode Y.2.1 pc = .ok (.iaload, 1)) (hj : j < 48) (kk : ax_Z Y d mc ms Fi (pc + 1) L (ax_i (κ.2.2 32 j) :: S) (fh (ch κ) ρ) uc us) : ax_Z Y d mc ms Fi pc L (ax_i (nI j) :: ax_r (2, 0) :: S) (fh (ch κ) ρ) uc us := by
  refine ax_iald hd ch_M (vp_in_nI hj (by omega)) ?_
  rw [nI_clamp (by omega)]
  exact kk
theorem ct_lk {r q : Nat} {v : Int32} (hd : decode Y.2.1 pc = .ok (.iastore, 1)) (h : r < κ.1 4 0) (hs : q < 8) (kk : ax_Z Y d mc ms Fi (pc + 1) L S (fh (ch (ru κ 9 (8 * r + q) v)) ρ) uc us) : ax_Z Y d mc ms Fi pc L (ax_i v :: ax_i (nI q) :: ax_r (7, r) :: S) (fh (ch κ) ρ) uc us :=
  ax_iast hd (ch_l h) (vp_in_nI hs (by omega)) (by rw [nI_clamp (by omega)]; exact cu_lk h hs) kk
theorem ct_vv (hw : kf κ) {r s q : Nat} {v : Int32} (hd : decode Y.2.1 pc = .ok (.iastore, 1)) (h : r < κ.1 4 0) (hs : s < κ.1 5 r ∧ q < 8) (kk : ax_Z Y d mc ms Fi (pc + 1) L S (fh (ch (ru κ 7 (8 * (6 * r + s) + q) v)) ρ) uc us) : ax_Z Y d mc ms Fi pc L (ax_i v :: ax_i (nI (κ.1 6 (6 * r + s) * 8 + q)) :: ax_r (5, r) :: S) (fh (ch κ) ρ) uc us := by
  have := hw.m6 (6 * r + s)
  exact ax_iast hd (ch_v h) (vp_in_nI (by omega) (by omega)) (by rw [nI_clamp (by omega)]; exact cu_vv hw h hs.1 hs.2) kk
theorem ct_vn (hw : kf κ) {r s q v : Nat} (hd : decode Y.2.1 pc = .ok (.iastore, 1)) (h : r < κ.1 4 0) (hs : s < κ.1 5 r ∧ q < 8) (kk : ax_Z Y d mc ms Fi (pc + 1) L S (fh (ch (nu κ 8 (8 * (6 * r + s) + q) v)) ρ) uc us) : ax_Z Y d mc ms Fi pc L (ax_i (nI v) :: ax_i (nI (κ.1 6 (6 * r + s) * 8 + q)) :: ax_r (6, r) :: S) (fh (ch κ) ρ) uc us := by
  have := hw.m6 (6 * r + s)
  exact ax_iast hd (ch_n h) (vp_in_nI (by omega) (by omega)) (by rw [nI_clamp (by omega)]; exact cu_vn hw h hs.1 hs.2) kk
theorem ct_mm {j : Nat} {v : Int32} (hd : decode Y.2.1 pc = .ok (.iastore, 1)) (hj : j < 48) (kk : ax_Z Y d mc ms Fi (pc + 1) L S (fh (ch (ru κ 32 j v)) ρ) uc us) : ax_Z Y d mc ms Fi pc L (ax_i v :: ax_i (nI j) :: ax_r (2, 0) :: S) (fh (ch κ) ρ) uc us :=
  ax_iast hd ch_M (vp_in_nI hj (by omega)) (by rw [nI_clamp (by omega)]; exact cu_mm) kk
end CR
theorem isM_t {x : Int32} (h1 : ¬ x < 0) (h2 : ¬ nI 6 ≤ x) : isM x = true := by
  have e6 : (nI 6).toInt = 6 := by decide
  have e0 : (0 : Int32).toInt = 0 := by decide
  have e5 : (5 : Int32).toInt = 5 := by decide
  rw [Int32.lt_iff_toInt_lt] at h1
  rw [Int32.le_iff_toInt_le] at h2
  simp only [isM, Bool.and_eq_true, decide_eq_true_eq, Int32.le_iff_toInt_le]
  omega
theorem isM_f1 {x : Int32} (h1 : x < 0) : isM x = false := by
  have e0 : (0 : Int32).toInt = 0 := by decide
  rw [Int32.lt_iff_toInt_lt] at h1
  simp only [isM, Bool.and_eq_false_iff, decide_eq_false_iff_not, Int32.le_iff_toInt_le]
  omega
theorem isM_f2 {x : Int32} (h2 : nI 6 ≤ x) : isM x = false := by
  have e6 : (nI 6).toInt = 6 := by decide
  have e5 : (5 : Int32).toInt = 5 := by decide
  rw [Int32.le_iff_toInt_le] at h2
  simp only [isM, Bool.and_eq_false_iff, decide_eq_false_iff_not, Int32.le_iff_toInt_le]
  omega
def isO (x : Int32) : Bool := decide (0 ≤ x) && decide (x ≤ 7)
theorem isO_t {x : Int32} (h1 : ¬ x < 0) (h2 : ¬ nI 8 ≤ x) : isO x = true := by
  have e6 : (nI 8).toInt = 8 := by decide
  have e0 : (0 : Int32).toInt = 0 := by decide
  have e5 : (7 : Int32).toInt = 7 := by decide
  rw [Int32.lt_iff_toInt_lt] at h1
  rw [Int32.le_iff_toInt_le] at h2
  simp only [isO, Bool.and_eq_true, decide_eq_true_eq, Int32.le_iff_toInt_le]
  omega
theorem isO_f1 {x : Int32} (h1 : x < 0) : isO x = false := by
  have e0 : (0 : Int32).toInt = 0 := by decide
  rw [Int32.lt_iff_toInt_lt] at h1
  simp only [isO, Bool.and_eq_false_iff, decide_eq_false_iff_not, Int32.le_iff_toInt_le]
  omega
theorem isO_f2 {x : Int32} (h2 : nI 8 ≤ x) : isO x = false := by
  have e6 : (nI 8).toInt = 8 := by decide
  have e5 : (7 : Int32).toInt = 7 := by decide
  rw [Int32.le_iff_toInt_le] at h2
  simp only [isO, Bool.and_eq_false_iff, decide_eq_false_iff_not, Int32.le_iff_toInt_le]
  omega
def oM (κ : ax_R) (r : Nat) (V : Option Nat) : Int32 := match V with
  | some s => nI (κ.1 6 (6 * r + s))
  | none => -9
/-- the slot of the primary -/
def cPr (κ : ax_R) (r : Nat) : Option Nat := (List.range' 0 (κ.1 5 r)).find? (rO κ r)
theorem f0_find {p : Nat → Bool} : ∀ {l : List Nat}, (l.filter p)[0]? = l.find? p
  | [] => rfl
  | x :: l => by
    cases h : p x with
    | true => rw [List.filter_cons_of_pos h, List.find?_cons_of_pos h]; rfl
    | false => rw [List.filter_cons_of_neg (by simp [h]), List.find?_cons_of_neg (by simp [h])]; exact f0_find
theorem cPr_eq {κ : ax_R} {r : Nat} : (rL κ r)[0]? = cPr κ r := f0_find
theorem cPr_lt {κ : ax_R} {r s : Nat} (h : cPr κ r = some s) : s < κ.1 5 r ∧ rO κ r s = true := by
  have h1 := List.mem_range'_1.mp (List.mem_of_find?_eq_some h)
  have h2 := List.find?_some h
  exact ⟨by omega, h2⟩
theorem cPr_none {κ : ax_R} {r : Nat} : cPr κ r = none ↔ rM κ r = 0 := by
  unfold cPr rM
  rw [List.find?_eq_none, List.countP_eq_zero]
theorem nI_ne9 {a : Nat} (h : a < 2 ^ 31) : ¬ nI a = -9 := by
  intro e
  have h1 := nI_leI (a := 0) (b := a) (by decide) h
  have h2 := h1.mpr (Nat.zero_le _)
  rw [e] at h2
  revert h2
  decide
section CLS1
variable {κ ρ : ax_R}
theorem oM_eq (hw : kf κ) {r k : Nat} (hk : k < κ.1 5 r) : nI (κ.1 6 (6 * r + k)) = oM κ r (cPr κ r) ↔ cPr κ r = some k := by
  have h6 := hw.m6 (6 * r + k)
  cases h : cPr κ r with
  | none => exact ⟨fun e => absurd e (nI_ne9 (by omega)), fun e => by cases e⟩
  | some p =>
    have h7 := hw.m6 (6 * r + p)
    show nI _ = nI _ ↔ _
    rw [nI_inj (by omega) (by omega)]
    constructor
    · intro e; rw [hw.ds r k p hk (cPr_lt h).1 e]
    · intro e; cases e; rfl
theorem lost_iff (hw : kf κ) {r : Nat} : nI (mk (fun m => pm κ r (fun _ => true) m && κ.2.1 1 m)) = 0 ↔ rM κ r = 0 := by
  rw [k_z, pm_any hw]
  unfold rM
  rw [List.countP_eq_zero, List.any_eq_false]
  simp only [Bool.true_and]
  exact Iff.rfl
theorem ok_cbit {h : ax_H} {m : Nat} (hm : m < 6) : ax_Ok mX3_bit yX3_bit 1 0 0 [ax_i (nI m)] h (ax_D (ax_i (nI (mk (fun x => decide (x = m))))) h) := by
  refine ax_Ok.of (by decide) rfl (fun q => by cases q) (Nat.le_of_ble_eq_true rfl) rfl ?_
  refine ax_iconst (nI 1) dX3_bit_0 (by decide) ?_
  refine ax_iload_n dX3_bit_1 rfl ?_
  refine ax_ishl (nI (mk (fun x => decide (x = m)))) dX3_bit_2 (k_bit hm) ?_
  refine ax_iretD dX3_bit_3 rfl ⟨(Nat.le_refl _), (Nat.le_refl _)⟩ ?_ ?_
  · rfl
  · rfl
theorem ok_holds {h : ax_H} {P : Nat → Bool} {m : Nat} (hm : m < 6) : ax_Ok mX3_holds yX3_holds 1 0 0 [ax_i (nI (mk P)), ax_i (nI m)] h (ax_D (ax_i (ax_b (P m))) h) := by
  refine ax_Ok.of (by decide) rfl (fun q => by cases q) (Nat.le_of_ble_eq_true rfl) rfl ?_
  refine ax_iload_n dX3_holds_0 rfl ?_
  refine ax_iconst (nI 1) dX3_holds_1 (by decide) ?_
  refine ax_iload_n dX3_holds_2 rfl ?_
  refine ax_ishl (nI (mk (fun x => decide (x = m)))) dX3_holds_3 (k_bit hm) ?_
  refine ax_iand (nI (mk (fun x => P x && decide (x = m)))) dX3_holds_4 (k_and _ _) ?_
  refine ax_if_eq 12 dX3_holds_5 (by decide) (fun c5 => ?_) (fun c5 => ?_)
  · rw [k_one hm] at c5
    refine ax_iconst (ax_b false) dX3_holds_12 (by decide) ?_
    refine ax_bret dX3_holds_13 rfl ⟨(Nat.le_refl _), (Nat.le_refl _)⟩ ?_ ?_
    · simp [c5]
    · rfl
  · rw [k_one hm] at c5
    refine ax_iconst (ax_b true) dX3_holds_8 (by decide) ?_
    refine ax_goto 13 dX3_holds_9 (by decide) ?_
    refine ax_bret dX3_holds_13 rfl ⟨(Nat.le_refl _), (Nat.le_refl _)⟩ ?_ ?_
    · simp [c5]
    · rfl
theorem ok_ccell {h : ax_H} {a b : Nat} : ax_Ok mX3_cell yX3_cell 1 0 0 [ax_i (nI a), ax_i (nI b)] h (ax_D (ax_i (nI (a * 8 + b))) h) := by
  refine ax_Ok.of (by decide) rfl (fun q => by cases q) (Nat.le_of_ble_eq_true rfl) rfl ?_
  refine ax_iload_n dX3_cell_0 rfl ?_
  refine ax_bipush (nI 8) dX3_cell_1 (by decide) ?_
  refine ax_imuln dX3_cell_3 ?_
  refine ax_iload_n dX3_cell_4 rfl ?_
  refine ax_iaddn dX3_cell_5 ?_
  refine ax_iretD dX3_cell_6 rfl ⟨(Nat.le_refl _), (Nat.le_refl _)⟩ ?_ ?_
  · rfl
  · rfl
theorem ok_cIsM {h : ax_H} (x : Int32) : ax_Ok mX3_isMachine yX3_isMachine 1 0 0 [ax_i x] h (ax_D (ax_i (ax_b (isM x))) h) := by
  refine ax_Ok.of (by decide) rfl (fun q => by cases q) (Nat.le_of_ble_eq_true rfl) rfl ?_
  refine ax_iload_n dX3_isMachine_0 rfl ?_
  refine ax_if_lt 14 dX3_isMachine_1 (by decide) (fun c1 => ?_) (fun c1 => ?_)
  · refine ax_iconst (ax_b false) dX3_isMachine_14 (by decide) ?_
    refine ax_bret dX3_isMachine_15 rfl ⟨(Nat.le_refl _), (Nat.le_refl _)⟩ ?_ ?_
    · first | exact (isM_t c1 c7).symm | exact (isM_f1 c1).symm | exact (isM_f2 c7).symm
    · rfl
  · refine ax_iload_n dX3_isMachine_4 rfl ?_
    refine ax_bipush (nI 6) dX3_isMachine_5 (by decide) ?_
    refine ax_icmp_ge 14 dX3_isMachine_7 (by decide) (fun c7 => ?_) (fun c7 => ?_)
    · refine ax_iconst (ax_b false) dX3_isMachine_14 (by decide) ?_
      refine ax_bret dX3_isMachine_15 rfl ⟨(Nat.le_refl _), (Nat.le_refl _)⟩ ?_ ?_
      · first | exact (isM_t c1 c7).symm | exact (isM_f1 c1).symm | exact (isM_f2 c7).symm
      · rfl
    · refine ax_iconst (ax_b true) dX3_isMachine_10 (by decide) ?_
      refine ax_goto 15 dX3_isMachine_11 (by decide) ?_
      refine ax_bret dX3_isMachine_15 rfl ⟨(Nat.le_refl _), (Nat.le_refl _)⟩ ?_ ?_
      · first | exact (isM_t c1 c7).symm | exact (isM_f1 c1).symm | exact (isM_f2 c7).symm
      · rfl
theorem ok_cIsMN {h : ax_H} (x : Int32) : ax_Ok mX3_isMachineOrNone yX3_isMachineOrNone 2 0 0 [ax_i x] h (ax_D (ax_i (ax_b (decide (x = -9) || isM x))) h) := by
  refine ax_Ok.of (by decide) rfl (fun q => by cases q) (Nat.le_of_ble_eq_true rfl) rfl ?_
  refine ax_iload_n dX3_isMachineOrNone_0 rfl ?_
  refine ax_bipush (-9) dX3_isMachineOrNone_1 (by decide) ?_
  refine ax_icmp_eq 13 dX3_isMachineOrNone_3 (by decide) (fun c3 => ?_) (fun c3 => ?_)
  · refine ax_iconst (ax_b true) dX3_isMachineOrNone_13 (by decide) ?_
    refine ax_goto 18 dX3_isMachineOrNone_14 (by decide) ?_
    refine ax_bret dX3_isMachineOrNone_18 rfl ⟨(Nat.le_refl _), (Nat.le_refl _)⟩ ?_ ?_
    · simp [c3]
    · rfl
  · refine ax_iload_n dX3_isMachineOrNone_6 rfl ?_
    refine ax_S1 cs_X3_36 dX3_isMachineOrNone_7 (ok_cIsM _) (by decide) (Nat.le_refl _) (Nat.le_refl _) (Nat.le_of_ble_eq_true rfl) ?_
    refine ax_beq 17 dX3_isMachineOrNone_10 (by decide) (fun c10 => ?_) (fun c10 => ?_)
    · refine ax_iconst (ax_b false) dX3_isMachineOrNone_17 (by decide) ?_
      refine ax_bret dX3_isMachineOrNone_18 rfl ⟨(Nat.le_refl _), (Nat.le_refl _)⟩ ?_ ?_
      · simp [c3, c10]
      · rfl
    · refine ax_iconst (ax_b true) dX3_isMachineOrNone_13 (by decide) ?_
      refine ax_goto 18 dX3_isMachineOrNone_14 (by decide) ?_
      refine ax_bret dX3_isMachineOrNone_18 rfl ⟨(Nat.le_refl _), (Nat.le_refl _)⟩ ?_ ?_
      · simp [c3, c10]
      · rfl
theorem ok_cIsO {h : ax_H} (x : Int32) : ax_Ok mX3_isObject yX3_isObject 1 0 0 [ax_i x] h (ax_D (ax_i (ax_b (isO x))) h) := by
  refine ax_Ok.of (by decide) rfl (fun q => by cases q) (Nat.le_of_ble_eq_true rfl) rfl ?_
  refine ax_iload_n dX3_isObject_0 rfl ?_
  refine ax_if_lt 14 dX3_isObject_1 (by decide) (fun c1 => ?_) (fun c1 => ?_)
  · refine ax_iconst (ax_b false) dX3_isObject_14 (by decide) ?_
    refine ax_bret dX3_isObject_15 rfl ⟨(Nat.le_refl _), (Nat.le_refl _)⟩ ?_ ?_
    · first | exact (isO_t c1 c7).symm | exact (isO_f1 c1).symm | exact (isO_f2 c7).symm
    · rfl
  · refine ax_iload_n dX3_isObject_4 rfl ?_
    refine ax_bipush (nI 8) dX3_isObject_5 (by decide) ?_
    refine ax_icmp_ge 14 dX3_isObject_7 (by decide) (fun c7 => ?_) (fun c7 => ?_)
    · refine ax_iconst (ax_b false) dX3_isObject_14 (by decide) ?_
      refine ax_bret dX3_isObject_15 rfl ⟨(Nat.le_refl _), (Nat.le_refl _)⟩ ?_ ?_
      · first | exact (isO_t c1 c7).symm | exact (isO_f1 c1).symm | exact (isO_f2 c7).symm
      · rfl
    · refine ax_iconst (ax_b true) dX3_isObject_10 (by decide) ?_
      refine ax_goto 15 dX3_isObject_11 (by decide) ?_
      refine ax_bret dX3_isObject_15 rfl ⟨(Nat.le_refl _), (Nat.le_refl _)⟩ ?_ ?_
      · first | exact (isO_t c1 c7).symm | exact (isO_f1 c1).symm | exact (isO_f2 c7).symm
      · rfl
theorem ok_isUp {m : Nat} (hm : m < 6) : ax_Ok mX3_isUp yX3_isUp 2 0 0 [ax_r (1, 0), ax_i (nI m)] (fh (ch κ) ρ) (ax_D (ax_i (ax_b (κ.2.1 0 m))) (fh (ch κ) ρ)) := by
  refine ax_Ok.of (by decide) rfl (fun q => by cases q) (Nat.le_of_ble_eq_true rfl) rfl ?_
  refine ax_aload_n dX3_isUp_0 rfl ?_
  refine ax_get (ci := 4) (k := 4) (T := TX3) dX3_isUp_1 ch_O rfl (by decide) fl_X3_26 rfl ?_
  refine ax_iload_n dX3_isUp_4 rfl ?_
  refine ax_S2 cs_X3_111 dX3_isUp_5 (ok_holds (by first | omega | exact hw.m6 _ | exact hw.co6 _)) (by decide) (Nat.le_refl _) (Nat.le_refl _) (Nat.le_of_ble_eq_true rfl) ?_
  refine ax_bret dX3_isUp_8 rfl ⟨(Nat.le_refl _), (Nat.le_refl _)⟩ ?_ ?_
  · rfl
  · rfl
theorem ok_isMember {m : Nat} (hm : m < 6) : ax_Ok mX3_isMember yX3_isMember 2 0 0 [ax_r (1, 0), ax_i (nI m)] (fh (ch κ) ρ) (ax_D (ax_i (ax_b (κ.2.1 1 m))) (fh (ch κ) ρ)) := by
  refine ax_Ok.of (by decide) rfl (fun q => by cases q) (Nat.le_of_ble_eq_true rfl) rfl ?_
  refine ax_aload_n dX3_isMember_0 rfl ?_
  refine ax_get (ci := 4) (k := 5) (T := TX3) dX3_isMember_1 ch_O rfl (by decide) fl_X3_30 rfl ?_
  refine ax_iload_n dX3_isMember_4 rfl ?_
  refine ax_S2 cs_X3_111 dX3_isMember_5 (ok_holds (by first | omega | exact hw.m6 _ | exact hw.co6 _)) (by decide) (Nat.le_refl _) (Nat.le_refl _) (Nat.le_of_ble_eq_true rfl) ?_
  refine ax_bret dX3_isMember_8 rfl ⟨(Nat.le_refl _), (Nat.le_refl _)⟩ ?_ ?_
  · rfl
  · rfl
theorem ok_szR : ax_Ok mJx4a65c_size_8abf5 yJx4a65c_size_8abf5 1 0 0 [ax_r (10, 0)] (fh (ch κ) ρ) (ax_D (ax_i (nI (κ.1 4 0))) (fh (ch κ) ρ)) := ok_size ch_lR
theorem ok_geR (hw : kf κ) {i : Nat} (hi : i < κ.1 4 0) : ax_Ok mJx4a65c_get_915e3 yJx4a65c_get_915e3 3 0 0 [ax_r (10, 0), ax_i (nI i)] (fh (ch κ) ρ) (ax_D (ax_r (3, i)) (fh (ch κ) ρ)) := by
  have h6 := hw.nR
  have e := ch_lR (κ := κ) (ρ := ρ)
  rw [if_neg (by omega)] at e
  have := ok_get e (ch_eR (by omega)) hi (by omega) (by decide)
  rwa [if_pos ⟨hi, by omega⟩] at this
theorem ok_szI {t : Nat} (ht : t < κ.1 10 0) : ax_Ok mJx4a65c_size_8abf5 yJx4a65c_size_8abf5 1 0 0 [ax_r (13, t)] (fh (ch κ) ρ) (ax_D (ax_i (nI (κ.1 14 t))) (fh (ch κ) ρ)) := ok_size (ch_lI ht)
theorem ok_geI (hw : kf κ) {t : Nat} (ht : t < κ.1 10 0) {i : Nat} (hi : i < κ.1 14 t) : ax_Ok mJx4a65c_get_915e3 yJx4a65c_get_915e3 3 0 0 [ax_r (13, t), ax_i (nI i)] (fh (ch κ) ρ) (ax_D (ax_r (9, 8 * t + i)) (fh (ch κ) ρ)) := by
  have h6 := hw.i8 t
  have e := ch_lI (κ := κ) (ρ := ρ) ht
  rw [if_neg (by omega)] at e
  have := ok_get e (ch_eI ht (by omega)) hi (by omega) (by decide)
  rwa [if_pos ⟨hi, by omega⟩] at this
theorem lv_ok {n : Nat} (h0 : 0 < n) (h : n ≤ 60) : lvl n < 6 ∧ lov (lvl n) < n ∧ n ≤ cpv (lvl n) ∧ cpv (lvl n) ≤ 73 := by
  unfold lvl
  split
  · exact ⟨by decide, by show 0 < n; omega, by show n ≤ 10; omega, by decide⟩
  split
  · exact ⟨by decide, by show 10 < n; omega, by show n ≤ 15; omega, by decide⟩
  split
  · exact ⟨by decide, by show 15 < n; omega, by show n ≤ 22; omega, by decide⟩
  split
  · exact ⟨by decide, by show 22 < n; omega, by show n ≤ 33; omega, by decide⟩
  split
  · exact ⟨by decide, by show 33 < n; omega, by show n ≤ 49; omega, by decide⟩
  · exact ⟨by decide, by show 49 < n; omega, by show n ≤ 73; omega, by decide⟩
theorem ok_szT : ax_Ok mJx4a65c_size_8abf5 yJx4a65c_size_8abf5 1 0 0 [ax_r (11, 0)] (fh (ch κ) ρ) (ax_D (ax_i (nI (κ.1 10 0))) (fh (ch κ) ρ)) := ok_size ch_lT
theorem ok_geT (hw : kf κ) {i : Nat} (hi : i < κ.1 10 0) : ax_Ok mJx4a65c_get_915e3 yJx4a65c_get_915e3 3 0 0 [ax_r (11, 0), ax_i (nI i)] (fh (ch κ) ρ) (ax_D (ax_r (8, i)) (fh (ch κ) ρ)) := by
  have h6 := hw.nT
  obtain ⟨h1, h2, h3, h4⟩ := lv_ok (n := κ.1 10 0) (by omega) h6
  have e := ch_lT (κ := κ) (ρ := ρ)
  rw [if_neg (by omega)] at e
  have := ok_get e (ch_eT h1 h2) hi h3 (by omega)
  rwa [if_pos ⟨hi, by omega⟩] at this
theorem ok_szP : ax_Ok mJx4a65c_size_8abf5 yJx4a65c_size_8abf5 1 0 0 [ax_r (12, 0)] (fh (ch κ) ρ) (ax_D (ax_i (nI (κ.1 17 0))) (fh (ch κ) ρ)) := ok_size ch_lP
theorem ok_geP (hw : kf κ) {i : Nat} (hi : i < κ.1 17 0) : ax_Ok mJx4a65c_get_915e3 yJx4a65c_get_915e3 3 0 0 [ax_r (12, 0), ax_i (nI i)] (fh (ch κ) ρ) (ax_D (ax_r (8, κ.1 47 i)) (fh (ch κ) ρ)) := by
  have h6 := hw.nP
  obtain ⟨h1, h2, h3, h4⟩ := lv_ok (n := κ.1 17 0) (by omega) h6
  have e := ch_lP (κ := κ) (ρ := ρ)
  rw [if_neg (by omega)] at e
  have := ok_get e (ch_eP h1 h2) hi h3 (by omega)
  rwa [if_pos ⟨hi, by omega⟩] at this
theorem ok_regionAt (hw : kf κ) {r : Nat} (hr : r < κ.1 4 0) : ax_Ok mX3_regionAt yX3_regionAt 4 0 0 [ax_r (1, 0), ax_i (nI r)] (fh (ch κ) ρ) (ax_D (ax_r (3, r)) (fh (ch κ) ρ)) := by
  refine ax_Ok.of (by decide) rfl (fun q => by cases q) (Nat.le_of_ble_eq_true rfl) rfl ?_
  have h6 := hw.nR
  refine ax_iload_n dX3_regionAt_0 rfl ?_
  refine ax_zlt dX3_regionAt_1 29 (by decide) (by omega) ?_
  refine ax_iload_n dX3_regionAt_4 rfl ?_
  refine ax_aload_n dX3_regionAt_5 rfl ?_
  refine ax_get (ci := 4) (k := 0) (T := TX3) dX3_regionAt_6 ch_O rfl (by decide) fl_X3_10 rfl ?_
  refine ax_V0 cv_X3_46 dX3_regionAt_9 ch_lR rfl (ok_szR) (by decide) (Nat.le_refl _) (Nat.le_refl _) (Nat.le_of_ble_eq_true rfl) ?_
  refine ax_nge 29 dX3_regionAt_12 (by decide) (by omega) (by omega) (fun c12 => absurd c12 (by omega)) (fun c12 => ?_)
  refine ax_aload_n dX3_regionAt_15 rfl ?_
  refine ax_get (ci := 4) (k := 0) (T := TX3) dX3_regionAt_16 ch_O rfl (by decide) fl_X3_10 rfl ?_
  refine ax_iload_n dX3_regionAt_19 rfl ?_
  refine ax_V1 cv_X3_77 dX3_regionAt_20 ch_lR rfl (ok_geR hw (by first | assumption | omega)) (by decide) (Nat.le_refl _) (Nat.le_refl _) (Nat.le_of_ble_eq_true rfl) ?_
  refine ax_cast (ci := 2) dX3_regionAt_23 cl_X3_50 (ch_R (by first | assumption | exact ik.r hw (by assumption))) rfl ?_
  refine ax_goto 30 dX3_regionAt_26 (by decide) ?_
  refine ax_aret dX3_regionAt_30 rfl (Or.inl ⟨_, rfl⟩) ⟨(Nat.le_refl _), (Nat.le_refl _)⟩ ?_
  exact ⟨rfl, rfl⟩
theorem ok_regionAtN {x : Int32} (hx : ¬ (0 ≤ x ∧ x < nI (κ.1 4 0))) : ax_Ok mX3_regionAt yX3_regionAt 4 0 0 [ax_r (1, 0), ax_i x] (fh (ch κ) ρ) (ax_D (ax_z) (fh (ch κ) ρ)) := by
  refine ax_Ok.of (by decide) rfl (fun q => by cases q) (Nat.le_of_ble_eq_true rfl) rfl ?_
  refine ax_iload_n dX3_regionAt_0 rfl ?_
  refine ax_if_lt 29 dX3_regionAt_1 (by decide) (fun c1 => ?_) (fun c1 => ?_)
  · refine ax_null dX3_regionAt_29 ?_
    refine ax_aret dX3_regionAt_30 rfl (Or.inl ⟨_, rfl⟩) ⟨(Nat.le_refl _), (Nat.le_refl _)⟩ ?_
    exact ⟨rfl, rfl⟩
  · refine ax_iload_n dX3_regionAt_4 rfl ?_
    refine ax_aload_n dX3_regionAt_5 rfl ?_
    refine ax_get (ci := 4) (k := 0) (T := TX3) dX3_regionAt_6 ch_O rfl (by decide) fl_X3_10 rfl ?_
    refine ax_V0 cv_X3_46 dX3_regionAt_9 ch_lR rfl (ok_szR) (by decide) (Nat.le_refl _) (Nat.le_refl _) (Nat.le_of_ble_eq_true rfl) ?_
    refine ax_icmp_ge 29 dX3_regionAt_12 (by decide) (fun c12 => ?_) (fun c12 => absurd c12 (by intro z; exact hx ⟨Int32.not_lt.mp c1, Int32.not_le.mp z⟩))
    refine ax_null dX3_regionAt_29 ?_
    refine ax_aret dX3_regionAt_30 rfl (Or.inl ⟨_, rfl⟩) ⟨(Nat.le_refl _), (Nat.le_refl _)⟩ ?_
    exact ⟨rfl, rfl⟩
theorem ok_transactionAt (hw : kf κ) {r : Nat} (hr : r < κ.1 10 0) : ax_Ok mX3_transactionAt yX3_transactionAt 4 0 0 [ax_r (1, 0), ax_i (nI r)] (fh (ch κ) ρ) (ax_D (ax_r (8, r)) (fh (ch κ) ρ)) := by
  refine ax_Ok.of (by decide) rfl (fun q => by cases q) (Nat.le_of_ble_eq_true rfl) rfl ?_
  have h6 := hw.nT
  refine ax_iload_n dX3_transactionAt_0 rfl ?_
  refine ax_zlt dX3_transactionAt_1 29 (by decide) (by omega) ?_
  refine ax_iload_n dX3_transactionAt_4 rfl ?_
  refine ax_aload_n dX3_transactionAt_5 rfl ?_
  refine ax_get (ci := 4) (k := 1) (T := TX3) dX3_transactionAt_6 ch_O rfl (by decide) fl_X3_16 rfl ?_
  refine ax_V0 cv_X3_46 dX3_transactionAt_9 ch_lT rfl (ok_szT) (by decide) (Nat.le_refl _) (Nat.le_refl _) (Nat.le_of_ble_eq_true rfl) ?_
  refine ax_nge 29 dX3_transactionAt_12 (by decide) (by omega) (by omega) (fun c12 => absurd c12 (by omega)) (fun c12 => ?_)
  refine ax_aload_n dX3_transactionAt_15 rfl ?_
  refine ax_get (ci := 4) (k := 1) (T := TX3) dX3_transactionAt_16 ch_O rfl (by decide) fl_X3_16 rfl ?_
  refine ax_iload_n dX3_transactionAt_19 rfl ?_
  refine ax_V1 cv_X3_77 dX3_transactionAt_20 ch_lT rfl (ok_geT hw (by first | assumption | omega)) (by decide) (Nat.le_refl _) (Nat.le_refl _) (Nat.le_of_ble_eq_true rfl) ?_
  refine ax_cast (ci := 3) dX3_transactionAt_23 cl_X3_81 (ch_T (by assumption)) rfl ?_
  refine ax_goto 30 dX3_transactionAt_26 (by decide) ?_
  refine ax_aret dX3_transactionAt_30 rfl (Or.inl ⟨_, rfl⟩) ⟨(Nat.le_refl _), (Nat.le_refl _)⟩ ?_
  exact ⟨rfl, rfl⟩
theorem ok_transactionAtN {x : Int32} (hx : ¬ (0 ≤ x ∧ x < nI (κ.1 10 0))) : ax_Ok mX3_transactionAt yX3_transactionAt 4 0 0 [ax_r (1, 0), ax_i x] (fh (ch κ) ρ) (ax_D (ax_z) (fh (ch κ) ρ)) := by
  refine ax_Ok.of (by decide) rfl (fun q => by cases q) (Nat.le_of_ble_eq_true rfl) rfl ?_
  refine ax_iload_n dX3_transactionAt_0 rfl ?_
  refine ax_if_lt 29 dX3_transactionAt_1 (by decide) (fun c1 => ?_) (fun c1 => ?_)
  · refine ax_null dX3_transactionAt_29 ?_
    refine ax_aret dX3_transactionAt_30 rfl (Or.inl ⟨_, rfl⟩) ⟨(Nat.le_refl _), (Nat.le_refl _)⟩ ?_
    exact ⟨rfl, rfl⟩
  · refine ax_iload_n dX3_transactionAt_4 rfl ?_
    refine ax_aload_n dX3_transactionAt_5 rfl ?_
    refine ax_get (ci := 4) (k := 1) (T := TX3) dX3_transactionAt_6 ch_O rfl (by decide) fl_X3_16 rfl ?_
    refine ax_V0 cv_X3_46 dX3_transactionAt_9 ch_lT rfl (ok_szT) (by decide) (Nat.le_refl _) (Nat.le_refl _) (Nat.le_of_ble_eq_true rfl) ?_
    refine ax_icmp_ge 29 dX3_transactionAt_12 (by decide) (fun c12 => ?_) (fun c12 => absurd c12 (by intro z; exact hx ⟨Int32.not_lt.mp c1, Int32.not_le.mp z⟩))
    refine ax_null dX3_transactionAt_29 ?_
    refine ax_aret dX3_transactionAt_30 rfl (Or.inl ⟨_, rfl⟩) ⟨(Nat.le_refl _), (Nat.le_refl _)⟩ ?_
    exact ⟨rfl, rfl⟩
theorem lp_firstWithin (hw : kf κ) {r : Nat} {Q : Nat → Bool} (hr : r < κ.1 4 0) : ∀ (m : Nat) (k : Nat) (V : Option Nat), k + m = κ.1 5 r → (List.range' k m).find? (fun s => Q (κ.1 6 (6 * r + s))) = V → ax_Z mX1_firstWithin 1 0 0 (ax_D (ax_i (oM κ r V)) (fh (ch κ) ρ)) 2 [some (ax_r (3, r)), some (ax_i (nI (mk Q))), some (ax_i (nI k))] [] (fh (ch κ) ρ) 0 0 := by
  intro m
  induction m with
  | zero =>
    intro k V hk hV
    have h5 := hw.c6 r
    refine ax_iload_n dX1_firstWithin_2 rfl ?_
    refine ax_aload_n dX1_firstWithin_3 rfl ?_
    refine ax_get (ci := 2) (k := 2) (T := TX1) dX1_firstWithin_4 (ch_R (by first | assumption | exact ik.r hw (by assumption))) rfl (by decide) fl_X1_15 rfl ?_
    refine ax_nge 36 dX1_firstWithin_7 (by decide) (by omega) (by omega) (fun c7 => ?_) (fun c7 => absurd c7 (by omega))
    refine ax_bipush (-9) dX1_firstWithin_36 (by decide) ?_
    refine ax_iretD dX1_firstWithin_38 rfl ⟨(Nat.le_refl _), (Nat.le_refl _)⟩ ?_ ?_
    · rw [ls_d2 hV]; rfl
    · rfl
  | succ m ih =>
    intro k V hk hV
    have h5 := hw.c6 r
    refine ax_iload_n dX1_firstWithin_2 rfl ?_
    refine ax_aload_n dX1_firstWithin_3 rfl ?_
    refine ax_get (ci := 2) (k := 2) (T := TX1) dX1_firstWithin_4 (ch_R (by first | assumption | exact ik.r hw (by assumption))) rfl (by decide) fl_X1_15 rfl ?_
    refine ax_nge 36 dX1_firstWithin_7 (by decide) (by omega) (by omega) (fun c7 => absurd c7 (by omega)) (fun c7 => ?_)
    refine ax_iload_n dX1_firstWithin_10 rfl ?_
    refine ax_iconst (nI 1) dX1_firstWithin_11 (by decide) ?_
    refine ax_aload_n dX1_firstWithin_12 rfl ?_
    refine ax_get (ci := 2) (k := 1) (T := TX1) dX1_firstWithin_13 (ch_R (by first | assumption | exact ik.r hw (by assumption))) rfl (by decide) fl_X1_9 rfl ?_
    refine ax_iload_n dX1_firstWithin_16 rfl ?_
    refine cl_od dX1_firstWithin_17 (by first | assumption | exact ik.r hw (by assumption)) (by omega) ?_
    refine ax_ishl (nI (mk (fun x => decide (x = κ.1 6 (6 * r + k))))) dX1_firstWithin_18 (k_bit (hw.m6 _)) ?_
    refine ax_iand (nI (mk (fun m => Q m && decide (m = κ.1 6 (6 * r + k))))) dX1_firstWithin_19 (k_and _ _) ?_
    refine ax_if_eq 30 dX1_firstWithin_20 (by decide) (fun c20 => ?_) (fun c20 => ?_)
    · rw [k_one (hw.m6 _)] at c20
      refine ax_iincn (n := 1) dX1_firstWithin_30 rfl (by decide) rfl ?_
      refine ax_goto 2 dX1_firstWithin_33 (by decide) ?_
      exact ih (k + 1) V (by omega) (ls_d0 c20 hV)
    · rw [k_one (hw.m6 _), Bool.not_eq_false] at c20
      refine ax_aload_n dX1_firstWithin_23 rfl ?_
      refine ax_get (ci := 2) (k := 1) (T := TX1) dX1_firstWithin_24 (ch_R (by first | assumption | exact ik.r hw (by assumption))) rfl (by decide) fl_X1_9 rfl ?_
      refine ax_iload_n dX1_firstWithin_27 rfl ?_
      refine cl_od dX1_firstWithin_28 (by first | assumption | exact ik.r hw (by assumption)) (by omega) ?_
      refine ax_iretD dX1_firstWithin_29 rfl ⟨(Nat.le_refl _), (Nat.le_refl _)⟩ ?_ ?_
      · rw [ls_d1 (p := fun s => Q (κ.1 6 (6 * r + s))) c20 hV]; rfl
      · rfl
theorem ok_firstWithin (hw : kf κ) {r : Nat} {Q : Nat → Bool} (hr : r < κ.1 4 0) : ax_Ok mX1_firstWithin yX1_firstWithin 1 0 0 [ax_r (3, r), ax_i (nI (mk Q))] (fh (ch κ) ρ) (ax_D (ax_i (oM κ r ((List.range' 0 (κ.1 5 r)).find? (fun s => Q (κ.1 6 (6 * r + s)))))) (fh (ch κ) ρ)) := by
  refine ax_Ok.of (by decide) rfl (fun q => by cases q) (Nat.le_of_ble_eq_true rfl) rfl ?_
  refine ax_iconst (nI 0) dX1_firstWithin_0 (by decide) ?_
  refine ax_istore_n dX1_firstWithin_1 rfl (by decide) ?_
  exact lp_firstWithin hw hr (κ.1 5 r) 0 _ (Nat.zero_add _) rfl
theorem ok_primaryOf (hw : kf κ) {r : Nat} (hr : r < κ.1 4 0) : ax_Ok mX3_primaryOf yX3_primaryOf 2 0 0 [ax_r (1, 0), ax_r (3, r)] (fh (ch κ) ρ) (ax_D (ax_i (oM κ r (cPr κ r))) (fh (ch κ) ρ)) := by
  refine ax_Ok.of (by decide) rfl (fun q => by cases q) (Nat.le_of_ble_eq_true rfl) rfl ?_
  refine ax_aload_n dX3_primaryOf_0 rfl ?_
  refine ax_aload_n dX3_primaryOf_1 rfl ?_
  refine ax_get (ci := 4) (k := 5) (T := TX3) dX3_primaryOf_2 ch_O rfl (by decide) fl_X3_30 rfl ?_
  refine ax_V1 cv_X3_247 dX3_primaryOf_5 (ch_R (by first | assumption | exact ik.r hw (by assumption))) rfl (ok_firstWithin hw (by first | assumption | exact ik.r hw (by assumption))) (by decide) (Nat.le_refl _) (Nat.le_refl _) (Nat.le_of_ble_eq_true rfl) ?_
  refine ax_iretD dX3_primaryOf_8 rfl ⟨(Nat.le_refl _), (Nat.le_refl _)⟩ ?_ ?_
  · rfl
  · rfl
theorem ok_cIsLost (hw : kf κ) {r : Nat} (hr : r < κ.1 4 0) : ax_Ok mX3_isLost yX3_isLost 1 0 0 [ax_r (1, 0), ax_r (3, r)] (fh (ch κ) ρ) (ax_D (ax_i (ax_b (decide (rM κ r = 0)))) (fh (ch κ) ρ)) := by
  refine ax_Ok.of (by decide) rfl (fun q => by cases q) (Nat.le_of_ble_eq_true rfl) rfl ?_
  refine ax_aload_n dX3_isLost_0 rfl ?_
  refine ax_get (ci := 2) (k := 3) (T := TX1) dX3_isLost_1 (ch_R (by first | assumption | exact ik.r hw (by assumption))) rfl (by decide) fl_X3_108 rfl ?_
  refine ax_aload_n dX3_isLost_4 rfl ?_
  refine ax_get (ci := 4) (k := 5) (T := TX3) dX3_isLost_5 ch_O rfl (by decide) fl_X3_30 rfl ?_
  refine ax_iand (nI (mk (fun m => pm κ r (fun _ => true) m && κ.2.1 1 m))) dX3_isLost_8 (k_and _ _) ?_
  refine ax_if_ne 16 dX3_isLost_9 (by decide) (fun c9 => ?_) (fun c9 => ?_)
  · rw [lost_iff hw] at c9
    refine ax_iconst (ax_b false) dX3_isLost_16 (by decide) ?_
    refine ax_bret dX3_isLost_17 rfl ⟨(Nat.le_refl _), (Nat.le_refl _)⟩ ?_ ?_
    · simp [c9]
    · rfl
  · rw [lost_iff hw] at c9
    refine ax_iconst (ax_b true) dX3_isLost_12 (by decide) ?_
    refine ax_goto 17 dX3_isLost_13 (by decide) ?_
    refine ax_bret dX3_isLost_17 rfl ⟨(Nat.le_refl _), (Nat.le_refl _)⟩ ?_ ?_
    · simp [c9]
    · rfl
theorem ok_copiesOnMembers (hw : kf κ) {r : Nat} (hr : r < κ.1 4 0) : ax_Ok mX3_copiesOnMembers yX3_copiesOnMembers 2 0 0 [ax_r (1, 0), ax_r (3, r)] (fh (ch κ) ρ) (ax_D (ax_i (nI (rM κ r))) (fh (ch κ) ρ)) := by
  refine ax_Ok.of (by decide) rfl (fun q => by cases q) (Nat.le_of_ble_eq_true rfl) rfl ?_
  refine ax_aload_n dX3_copiesOnMembers_0 rfl ?_
  refine ax_get (ci := 2) (k := 3) (T := TX1) dX3_copiesOnMembers_1 (ch_R (by first | assumption | exact ik.r hw (by assumption))) rfl (by decide) fl_X3_108 rfl ?_
  refine ax_aload_n dX3_copiesOnMembers_4 rfl ?_
  refine ax_get (ci := 4) (k := 5) (T := TX3) dX3_copiesOnMembers_5 ch_O rfl (by decide) fl_X3_30 rfl ?_
  refine ax_iand (nI (mk (fun m => pm κ r (fun _ => true) m && κ.2.1 1 m))) dX3_copiesOnMembers_8 (k_and _ _) ?_
  refine ax_S1 cs_X3_72 dX3_copiesOnMembers_9 (ok_bitCount (mk_lt _)) (by decide) (Nat.le_refl _) (Nat.le_refl _) (Nat.le_of_ble_eq_true rfl) ?_
  refine ax_iretD dX3_copiesOnMembers_12 rfl ⟨(Nat.le_refl _), (Nat.le_refl _)⟩ ?_ ?_
  · rw [mk_pc, pm_cnt hw]; simp only [Bool.true_and]; rfl
  · rfl
def bk (κ : ax_R) (r k : Nat) : Bool := decide (k < κ.1 5 r) && (rO κ r k && !decide (cPr κ r = some k))
theorem ok_isBackup (hw : kf κ) {r k : Nat} (hr : r < κ.1 4 0) (hk : k < 6) : ax_Ok mX3_isBackup yX3_isBackup 2 0 0 [ax_r (1, 0), ax_r (3, r), ax_i (nI k)] (fh (ch κ) ρ) (ax_D (ax_i (ax_b (bk κ r k))) (fh (ch κ) ρ)) := by
  refine ax_Ok.of (by decide) rfl (fun q => by cases q) (Nat.le_of_ble_eq_true rfl) rfl ?_
  have h5 := hw.c6 r
  refine ax_iload_n dX3_isBackup_0 rfl ?_
  refine ax_zlt dX3_isBackup_1 49 (by decide) (by omega) ?_
  refine ax_iload_n dX3_isBackup_4 rfl ?_
  refine ax_aload_n dX3_isBackup_5 rfl ?_
  refine ax_get (ci := 2) (k := 2) (T := TX1) dX3_isBackup_6 (ch_R (by first | assumption | exact ik.r hw (by assumption))) rfl (by decide) fl_X3_250 rfl ?_
  refine ax_nge 49 dX3_isBackup_9 (by decide) (by omega) (by omega) (fun c9 => ?_) (fun c9 => ?_)
  · refine ax_iconst (ax_b false) dX3_isBackup_49 (by decide) ?_
    refine ax_bret dX3_isBackup_50 rfl ⟨(Nat.le_refl _), (Nat.le_refl _)⟩ ?_ ?_
    · simp [bk, rO, c9, Nat.not_lt.mpr c9]
    · rfl
  · refine ax_aload_n dX3_isBackup_12 rfl ?_
    refine ax_get (ci := 4) (k := 5) (T := TX3) dX3_isBackup_13 ch_O rfl (by decide) fl_X3_30 rfl ?_
    refine ax_aload_n dX3_isBackup_16 rfl ?_
    refine ax_get (ci := 2) (k := 1) (T := TX1) dX3_isBackup_17 (ch_R (by first | assumption | exact ik.r hw (by assumption))) rfl (by decide) fl_X3_253 rfl ?_
    refine ax_iload_n dX3_isBackup_20 rfl ?_
    refine cl_od dX3_isBackup_21 (by first | assumption | exact ik.r hw (by assumption)) (by omega) ?_
    refine ax_S2 cs_X3_111 dX3_isBackup_22 (ok_holds (by first | omega | exact hw.m6 _ | exact hw.co6 _)) (by decide) (Nat.le_refl _) (Nat.le_refl _) (Nat.le_of_ble_eq_true rfl) ?_
    refine ax_beq 49 dX3_isBackup_25 (by decide) (fun c25 => ?_) (fun c25 => ?_)
    · refine ax_iconst (ax_b false) dX3_isBackup_49 (by decide) ?_
      refine ax_bret dX3_isBackup_50 rfl ⟨(Nat.le_refl _), (Nat.le_refl _)⟩ ?_ ?_
      · simp [bk, rO, c9, Nat.not_le.mpr c9, c25]
      · rfl
    · refine ax_aload_n dX3_isBackup_28 rfl ?_
      refine ax_get (ci := 2) (k := 1) (T := TX1) dX3_isBackup_29 (ch_R (by first | assumption | exact ik.r hw (by assumption))) rfl (by decide) fl_X3_253 rfl ?_
      refine ax_iload_n dX3_isBackup_32 rfl ?_
      refine cl_od dX3_isBackup_33 (by first | assumption | exact ik.r hw (by assumption)) (by omega) ?_
      refine ax_aload_n dX3_isBackup_34 rfl ?_
      refine ax_aload_n dX3_isBackup_35 rfl ?_
      refine ax_get (ci := 4) (k := 5) (T := TX3) dX3_isBackup_36 ch_O rfl (by decide) fl_X3_30 rfl ?_
      refine ax_V1 cv_X3_247 dX3_isBackup_39 (ch_R (by first | assumption | exact ik.r hw (by assumption))) rfl (ok_firstWithin hw (by first | assumption | exact ik.r hw (by assumption))) (by decide) (Nat.le_refl _) (Nat.le_refl _) (Nat.le_of_ble_eq_true rfl) ?_
      refine ax_icmp_eq 49 dX3_isBackup_42 (by decide) (fun c42 => ?_) (fun c42 => ?_)
      · have c42 := (oM_eq hw c9).mp c42
        refine ax_iconst (ax_b false) dX3_isBackup_49 (by decide) ?_
        refine ax_bret dX3_isBackup_50 rfl ⟨(Nat.le_refl _), (Nat.le_refl _)⟩ ?_ ?_
        · simp [bk, rO, c9, Nat.not_le.mpr c9, c25, c42]
        · rfl
      · have c42 : ¬ cPr κ r = some k := fun z => c42 ((oM_eq hw c9).mpr z)
        refine ax_iconst (ax_b true) dX3_isBackup_45 (by decide) ?_
        refine ax_goto 50 dX3_isBackup_46 (by decide) ?_
        refine ax_bret dX3_isBackup_50 rfl ⟨(Nat.le_refl _), (Nat.le_refl _)⟩ ?_ ?_
        · simp [bk, rO, c9, Nat.not_le.mpr c9, c25, c42]
        · rfl
def cMo (κ : ax_R) (r : Nat) (x : Int32) : Int32 := if x < 0 then -9 else oM κ r ((rL κ r)[x.toNatClampNeg]?)
theorem nI_nn {a : Nat} (h : a < 2 ^ 31) : ¬ nI a < 0 := by
  have h1 := nI_leI (a := 0) (b := a) (by decide) h
  exact Int32.not_lt.mpr (h1.mpr (Nat.zero_le _))
theorem lp_mocN (hw : kf κ) {r : Nat} {x : Int32} (hr : r < κ.1 4 0) (hx : x < 0) : ∀ (m : Nat) (k n : Nat), k + m = κ.1 5 r → n ≤ k → ax_Z mX3_machineOfCopy 3 0 0 (ax_D (ax_i (-9)) (fh (ch κ) ρ)) 5 [some (ax_r (1, 0)), some (ax_r (3, r)), some (ax_i x), some (ax_i (nI n)), some (ax_i (nI k))] [] (fh (ch κ) ρ) 0 0 := by
  intro m
  induction m with
  | zero =>
    intro k n hk hn
    have h5 := hw.c6 r
    refine ax_iload dX3_machineOfCopy_5 rfl ?_
    refine ax_aload_n dX3_machineOfCopy_7 rfl ?_
    refine ax_get (ci := 2) (k := 2) (T := TX1) dX3_machineOfCopy_8 (ch_R (by first | assumption | exact ik.r hw (by assumption))) rfl (by decide) fl_X3_250 rfl ?_
    refine ax_nge 50 dX3_machineOfCopy_11 (by decide) (by omega) (by omega) (fun c11 => ?_) (fun c11 => absurd c11 (by omega))
    refine ax_bipush (-9) dX3_machineOfCopy_50 (by decide) ?_
    refine ax_iretD dX3_machineOfCopy_52 rfl ⟨(Nat.le_refl _), (Nat.le_refl _)⟩ ?_ ?_
    · rfl
    · rfl
  | succ m ih =>
    intro k n hk hn
    have h5 := hw.c6 r
    refine ax_iload dX3_machineOfCopy_5 rfl ?_
    refine ax_aload_n dX3_machineOfCopy_7 rfl ?_
    refine ax_get (ci := 2) (k := 2) (T := TX1) dX3_machineOfCopy_8 (ch_R (by first | assumption | exact ik.r hw (by assumption))) rfl (by decide) fl_X3_250 rfl ?_
    refine ax_nge 50 dX3_machineOfCopy_11 (by decide) (by omega) (by omega) (fun c11 => absurd c11 (by omega)) (fun c11 => ?_)
    refine ax_aload_n dX3_machineOfCopy_14 rfl ?_
    refine ax_aload_n dX3_machineOfCopy_15 rfl ?_
    refine ax_get (ci := 2) (k := 1) (T := TX1) dX3_machineOfCopy_16 (ch_R (by first | assumption | exact ik.r hw (by assumption))) rfl (by decide) fl_X3_253 rfl ?_
    refine ax_iload dX3_machineOfCopy_19 rfl ?_
    refine cl_od dX3_machineOfCopy_21 (by first | assumption | exact ik.r hw (by assumption)) (by omega) ?_
    refine ax_V1 cv_X3_43 dX3_machineOfCopy_22 ch_O rfl (ok_isMember (by first | omega | exact hw.m6 _ | exact hw.co6 _)) (by decide) (Nat.le_refl _) (Nat.le_refl _) (Nat.le_of_ble_eq_true rfl) ?_
    refine ax_beq 44 dX3_machineOfCopy_25 (by decide) (fun c25 => ?_) (fun c25 => ?_)
    · refine ax_iincn (n := 1) dX3_machineOfCopy_44 rfl (by decide) rfl ?_
      refine ax_goto 5 dX3_machineOfCopy_47 (by decide) ?_
      first | exact ih (k + 1) n (by omega) (by omega) | exact ih (k + 1) (n + 1) (by omega) (by omega)
    · refine ax_iload_n dX3_machineOfCopy_28 rfl ?_
      refine ax_iload_n dX3_machineOfCopy_29 rfl ?_
      refine ax_icmp_ne 41 dX3_machineOfCopy_30 (by decide) (fun c30 => ?_) (fun c30 => absurd c30 (by intro z; exact nI_nn (by omega) (z ▸ hx)))
      refine ax_iincn (n := 1) dX3_machineOfCopy_41 rfl (by decide) rfl ?_
      refine ax_iincn (n := 1) dX3_machineOfCopy_44 rfl (by decide) rfl ?_
      refine ax_goto 5 dX3_machineOfCopy_47 (by decide) ?_
      first | exact ih (k + 1) n (by omega) (by omega) | exact ih (k + 1) (n + 1) (by omega) (by omega)
theorem lp_moc (hw : kf κ) {r j : Nat} (hr : r < κ.1 4 0) (hj : j < 2 ^ 31) : ∀ (m : Nat) (k n : Nat) (V : Option Nat), k + m = κ.1 5 r → n ≤ k → n ≤ j → ((List.range' k m).filter (rO κ r))[j - n]? = V → ax_Z mX3_machineOfCopy 3 0 0 (ax_D (ax_i (oM κ r V)) (fh (ch κ) ρ)) 5 [some (ax_r (1, 0)), some (ax_r (3, r)), some (ax_i (nI j)), some (ax_i (nI n)), some (ax_i (nI k))] [] (fh (ch κ) ρ) 0 0 := by
  intro m
  induction m with
  | zero =>
    intro k n V hk hn hnj hV
    have h5 := hw.c6 r
    refine ax_iload dX3_machineOfCopy_5 rfl ?_
    refine ax_aload_n dX3_machineOfCopy_7 rfl ?_
    refine ax_get (ci := 2) (k := 2) (T := TX1) dX3_machineOfCopy_8 (ch_R (by first | assumption | exact ik.r hw (by assumption))) rfl (by decide) fl_X3_250 rfl ?_
    refine ax_nge 50 dX3_machineOfCopy_11 (by decide) (by omega) (by omega) (fun c11 => ?_) (fun c11 => absurd c11 (by omega))
    refine ax_bipush (-9) dX3_machineOfCopy_50 (by decide) ?_
    refine ax_iretD dX3_machineOfCopy_52 rfl ⟨(Nat.le_refl _), (Nat.le_refl _)⟩ ?_ ?_
    · rw [ls_f3 hV]; rfl
    · rfl
  | succ m ih =>
    intro k n V hk hn hnj hV
    have h5 := hw.c6 r
    refine ax_iload dX3_machineOfCopy_5 rfl ?_
    refine ax_aload_n dX3_machineOfCopy_7 rfl ?_
    refine ax_get (ci := 2) (k := 2) (T := TX1) dX3_machineOfCopy_8 (ch_R (by first | assumption | exact ik.r hw (by assumption))) rfl (by decide) fl_X3_250 rfl ?_
    refine ax_nge 50 dX3_machineOfCopy_11 (by decide) (by omega) (by omega) (fun c11 => absurd c11 (by omega)) (fun c11 => ?_)
    refine ax_aload_n dX3_machineOfCopy_14 rfl ?_
    refine ax_aload_n dX3_machineOfCopy_15 rfl ?_
    refine ax_get (ci := 2) (k := 1) (T := TX1) dX3_machineOfCopy_16 (ch_R (by first | assumption | exact ik.r hw (by assumption))) rfl (by decide) fl_X3_253 rfl ?_
    refine ax_iload dX3_machineOfCopy_19 rfl ?_
    refine cl_od dX3_machineOfCopy_21 (by first | assumption | exact ik.r hw (by assumption)) (by omega) ?_
    refine ax_V1 cv_X3_43 dX3_machineOfCopy_22 ch_O rfl (ok_isMember (by first | omega | exact hw.m6 _ | exact hw.co6 _)) (by decide) (Nat.le_refl _) (Nat.le_refl _) (Nat.le_of_ble_eq_true rfl) ?_
    refine ax_beq 44 dX3_machineOfCopy_25 (by decide) (fun c25 => ?_) (fun c25 => ?_)
    · refine ax_iincn (n := 1) dX3_machineOfCopy_44 rfl (by decide) rfl ?_
      refine ax_goto 5 dX3_machineOfCopy_47 (by decide) ?_
      first | exact ih (k + 1) n V (by omega) (by omega) hnj (ls_f0 c25 hV) | exact ih (k + 1) (n + 1) V (by omega) (by omega) (by omega) (by rw [show j - (n + 1) = j - n - 1 by omega]; exact ls_f1 c25 (by omega) hV)
    · refine ax_iload_n dX3_machineOfCopy_28 rfl ?_
      refine ax_iload_n dX3_machineOfCopy_29 rfl ?_
      refine ax_nne 41 dX3_machineOfCopy_30 (by decide) (by omega) (by omega) (fun c30 => ?_) (fun c30 => ?_)
      · refine ax_iincn (n := 1) dX3_machineOfCopy_41 rfl (by decide) rfl ?_
        refine ax_iincn (n := 1) dX3_machineOfCopy_44 rfl (by decide) rfl ?_
        refine ax_goto 5 dX3_machineOfCopy_47 (by decide) ?_
        first | exact ih (k + 1) n V (by omega) (by omega) hnj (ls_f0 c25 hV) | exact ih (k + 1) (n + 1) V (by omega) (by omega) (by omega) (by rw [show j - (n + 1) = j - n - 1 by omega]; exact ls_f1 c25 (by omega) hV)
      · refine ax_aload_n dX3_machineOfCopy_33 rfl ?_
        refine ax_get (ci := 2) (k := 1) (T := TX1) dX3_machineOfCopy_34 (ch_R (by first | assumption | exact ik.r hw (by assumption))) rfl (by decide) fl_X3_253 rfl ?_
        refine ax_iload dX3_machineOfCopy_37 rfl ?_
        refine cl_od dX3_machineOfCopy_39 (by first | assumption | exact ik.r hw (by assumption)) (by omega) ?_
        refine ax_iretD dX3_machineOfCopy_40 rfl ⟨(Nat.le_refl _), (Nat.le_refl _)⟩ ?_ ?_
        · rw [ls_f2 (p := rO κ r) (k := k) c25 (by omega) hV]; rfl
        · rfl
theorem ok_machineOfCopy (hw : kf κ) {r : Nat} {x : Int32} (hr : r < κ.1 4 0) : ax_Ok mX3_machineOfCopy yX3_machineOfCopy 3 0 0 [ax_r (1, 0), ax_r (3, r), ax_i x] (fh (ch κ) ρ) (ax_D (ax_i (cMo κ r x)) (fh (ch κ) ρ)) := by
  refine ax_Ok.of (by decide) rfl (fun q => by cases q) (Nat.le_of_ble_eq_true rfl) rfl ?_
  by_cases hx : x < 0
  · rw [show cMo κ r x = -9 from if_pos hx]
    refine ax_iconst (nI 0) dX3_machineOfCopy_0 (by decide) ?_
    refine ax_istore_n dX3_machineOfCopy_1 rfl (by decide) ?_
    refine ax_iconst (nI 0) dX3_machineOfCopy_2 (by decide) ?_
    refine ax_istore dX3_machineOfCopy_3 rfl (by decide) ?_
    exact lp_mocN hw hr hx (κ.1 5 r) 0 0 (Nat.zero_add _) (Nat.le_refl _)
  · obtain ⟨j, hj, rfl⟩ := nI_of hx
    rw [show cMo κ r (nI j) = oM κ r ((rL κ r)[j]?) by rw [cMo, if_neg hx, nI_clamp hj]]
    refine ax_iconst (nI 0) dX3_machineOfCopy_0 (by decide) ?_
    refine ax_istore_n dX3_machineOfCopy_1 rfl (by decide) ?_
    refine ax_iconst (nI 0) dX3_machineOfCopy_2 (by decide) ?_
    refine ax_istore dX3_machineOfCopy_3 rfl (by decide) ?_
    exact lp_moc hw hr hj (κ.1 5 r) 0 0 _ (Nat.zero_add _) (Nat.le_refl _) (Nat.zero_le _) rfl
end CLS1
