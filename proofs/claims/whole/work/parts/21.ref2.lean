theorem ls_f0 {p : Nat → Bool} {k m n : Nat} {V : Option Nat} (hp : p k = false) (hV : ((List.range' k (m + 1)).filter p)[n]? = V) : ((List.range' (k + 1) m).filter p)[n]? = V := by
  rw [← hV, List.range'_succ, List.filter_cons_of_neg (by simp [hp])]
theorem ls_f1 {p : Nat → Bool} {k m n : Nat} {V : Option Nat} (hp : p k = true) (h0 : 0 < n) (hV : ((List.range' k (m + 1)).filter p)[n]? = V) : ((List.range' (k + 1) m).filter p)[n - 1]? = V := by
  rw [← hV, List.range'_succ, List.filter_cons_of_pos hp]
  cases n with
  | zero => omega
  | succ n => simp
theorem ls_f2 {p : Nat → Bool} {k m n : Nat} {V : Option Nat} (hp : p k = true) (h0 : n = 0) (hV : ((List.range' k (m + 1)).filter p)[n]? = V) : V = some k := by
  rw [← hV, List.range'_succ, List.filter_cons_of_pos hp, h0]
  rfl
theorem ls_f3 {p : Nat → Bool} {k n : Nat} {V : Option Nat} (hV : ((List.range' k 0).filter p)[n]? = V) : V = none := by
  rw [← hV]; rfl
theorem ls_c0 {p : Nat → Bool} {k m n V : Nat} (hp : p k = false) (hV : n + (List.range' k (m + 1)).countP p = V) : n + 0 + (List.range' (k + 1) m).countP p = V := by
  rw [← hV, List.range'_succ, List.countP_cons_of_neg (by simp [hp]), Nat.add_zero]
theorem ls_c1 {p : Nat → Bool} {k m n V : Nat} (hp : p k = true) (hV : n + (List.range' k (m + 1)).countP p = V) : n + 1 + (List.range' (k + 1) m).countP p = V := by
  rw [← hV, List.range'_succ, List.countP_cons_of_pos hp]; omega
theorem ls_c2 {p : Nat → Bool} {k n V : Nat} (hV : n + (List.range' k 0).countP p = V) : n = V := by
  rw [← hV]; rfl
theorem ls_d0 {p : Nat → Bool} {k m : Nat} {V : Option Nat} (hp : p k = false) (hV : (List.range' k (m + 1)).find? p = V) : (List.range' (k + 1) m).find? p = V := by
  rw [← hV, List.range'_succ, List.find?_cons_of_neg (by simp [hp])]
theorem ls_d1 {p : Nat → Bool} {k m : Nat} {V : Option Nat} (hp : p k = true) (hV : (List.range' k (m + 1)).find? p = V) : V = some k := by
  rw [← hV, List.range'_succ, List.find?_cons_of_pos hp]
theorem ls_d2 {p : Nat → Bool} {k : Nat} {V : Option Nat} (hV : (List.range' k 0).find? p = V) : V = none := by
  rw [← hV]; rfl
theorem ls_a {p : Nat → Bool} {k m : Nat} {b V : Bool} (hV : (b || (List.range' k (m + 1)).any p) = V) : ((b || p k) || (List.range' (k + 1) m).any p) = V := by
  rw [← hV, List.range'_succ, List.any_cons, Bool.or_assoc]
theorem ls_a2 {p : Nat → Bool} {k : Nat} {b V : Bool} (hV : (b || (List.range' k 0).any p) = V) : b = V := by
  rw [← hV]; simp
def rP (ρ : ax_R) (r : Nat) (x : Int32) : Int32 := if x < 0 then -9 else oI ((rL ρ r)[x.toNatClampNeg]?)
def rM (ρ : ax_R) (r : Nat) : Nat := (List.range' 0 (ρ.1 5 r)).countP (rO ρ r)
def rUp (ρ : ax_R) : Nat := (List.range' 0 6).countP (ρ.2.1 0)
def rI (ρ : ax_R) (t : Nat) : List Nat := List.range' (8 * t) (ρ.1 14 t)
def rAc (ρ : ax_R) (t : Nat) : Bool := decide (1 ≤ ρ.1 12 t) && decide (ρ.1 12 t ≤ 6)
def rWr (ρ : ax_R) (t r : Nat) : Bool := (rI ρ t).any fun i => decide (ρ.1 18 i = r) && ρ.2.1 22 i
def rIo (ρ : ax_R) (t r o : Nat) : Option Nat := (rI ρ t).find? fun i => decide (ρ.1 18 i = r) && decide (ρ.1 19 i = o)
def rW (ρ : ax_R) (t : Nat) : Nat := (rI ρ t).countP (ρ.2.1 22)
def rNt (ρ : ax_R) (t n : Nat) (b : Bool) : Option Nat := ((rI ρ t).filter fun i => ρ.2.1 22 i == b)[n]?
def rFr (ρ : ax_R) (t : Nat) : Option Nat := (List.range' 0 (ρ.1 25 0)).find? fun k => decide (ρ.2.2 26 k ≠ -9) && decide ((ρ.2.2 26 k).toNatClampNeg / 8 = t)
def rFl (ρ : ax_R) (t : Nat) : Option Nat := (rI ρ t).find? fun i => ρ.2.1 22 i && decide (ρ.2.2 9 (8 * ρ.1 18 i + ρ.1 19 i) = nI t)
theorem n31 {n : Nat} (h : n < 1000000) : n < 2 ^ 31 := by omega
theorem rf_dI {a b : Nat} (ha : a < 2 ^ 31) (hb : b < 2 ^ 31) : (decide (lN a ≤ lN b)) = decide (a ≤ b) := by simp [lN_le ha hb]
theorem ax_bb {a b : Bool} : ax_b a = ax_b b ↔ a = b := by cases a <;> cases b <;> decide
section REFM
variable {c : ax_H} {ρ : ax_R}
theorem lp_placeOf (hw : rf_ok ρ) {r j : Nat} (hr : r < 6) (hj : j < 2 ^ 31) : ∀ (m : Nat) (k left : Nat) (V : Option Nat), k + m = ρ.1 5 r → left < 2 ^ 31 → ((List.range' k m).filter (rO ρ r))[left]? = V → ax_Z mX4_placeOf 2 0 0 (ax_D (ax_i (oI V)) (fh c ρ)) 5 [some (ax_r (80, 0)), some (ax_i (nI r)), some (ax_i (nI j)), some (ax_i (nI left)), some (ax_i (nI k))] [] (fh c ρ) 0 0 := by
  intro m
  induction m with
  | zero =>
    intro k left V hk hl hV
    have h5 := rk_5 hw r
    refine ax_iload dX4_placeOf_5 rfl ?_
    refine ax_aload_n dX4_placeOf_7 rfl ?_
    refine rg_5 dX4_placeOf_8 ?_
    refine ax_iload_n dX4_placeOf_11 rfl ?_
    refine rl_5 dX4_placeOf_12 (by first | omega | exact rk_6 hw _ | exact rk_11 hw _ | exact rk_18 hw _ | exact rk_19 hw _ | exact rk_27 hw _ | exact rk_N hw _ _) ?_
    refine ax_nge 46 dX4_placeOf_13 (by decide) (by first | omega | exact rk_6 hw _ | exact rk_11 hw _ | exact rk_18 hw _ | exact rk_19 hw _ | exact rk_27 hw _ | exact rk_N hw _ _) (by first | omega | exact rk_6 hw _ | exact rk_11 hw _ | exact rk_18 hw _ | exact rk_19 hw _ | exact rk_27 hw _ | exact rk_N hw _ _) (fun c13 => ?_) (fun c13 => absurd c13 (by omega))
    refine ax_bipush (-9) dX4_placeOf_46 (by decide) ?_
    refine ax_iretD dX4_placeOf_48 rfl ⟨(Nat.le_refl _), (Nat.le_refl _)⟩ ?_ ?_
    · rw [ls_f3 hV]; rfl
    · rfl
  | succ m ih =>
    intro k left V hk hl hV
    have h5 := rk_5 hw r
    refine ax_iload dX4_placeOf_5 rfl ?_
    refine ax_aload_n dX4_placeOf_7 rfl ?_
    refine rg_5 dX4_placeOf_8 ?_
    refine ax_iload_n dX4_placeOf_11 rfl ?_
    refine rl_5 dX4_placeOf_12 (by first | omega | exact rk_6 hw _ | exact rk_11 hw _ | exact rk_18 hw _ | exact rk_19 hw _ | exact rk_27 hw _ | exact rk_N hw _ _) ?_
    refine ax_nge 46 dX4_placeOf_13 (by decide) (by first | omega | exact rk_6 hw _ | exact rk_11 hw _ | exact rk_18 hw _ | exact rk_19 hw _ | exact rk_27 hw _ | exact rk_N hw _ _) (by first | omega | exact rk_6 hw _ | exact rk_11 hw _ | exact rk_18 hw _ | exact rk_19 hw _ | exact rk_27 hw _ | exact rk_N hw _ _) (fun c13 => absurd c13 (by omega)) (fun c13 => ?_)
    refine ax_iload_n dX4_placeOf_16 rfl ?_
    refine ax_zlt dX4_placeOf_17 46 (by decide) (by first | omega | exact rk_6 hw _ | exact rk_11 hw _ | exact rk_18 hw _ | exact rk_19 hw _ | exact rk_27 hw _ | exact rk_N hw _ _) ?_
    refine ax_aload_n dX4_placeOf_20 rfl ?_
    refine ax_iload_n dX4_placeOf_21 rfl ?_
    refine ax_iload dX4_placeOf_22 rfl ?_
    refine ax_V2 cv_X4_96 dX4_placeOf_24 fh_M rfl (ok_isOn hw (by first | omega | exact rk_6 hw _ | exact rk_11 hw _ | exact rk_18 hw _ | exact rk_19 hw _ | exact rk_27 hw _ | exact rk_N hw _ _) (by first | omega | exact rk_6 hw _ | exact rk_11 hw _ | exact rk_18 hw _ | exact rk_19 hw _ | exact rk_27 hw _ | exact rk_N hw _ _)) (by decide) (Nat.le_refl _) (Nat.le_refl _) (Nat.le_of_ble_eq_true rfl) ?_
    refine ax_beq 40 dX4_placeOf_27 (by decide) (fun c27 => ?_) (fun c27 => ?_)
    · refine ax_iincn (n := 1) dX4_placeOf_40 rfl (by decide) rfl ?_
      refine ax_goto 5 dX4_placeOf_43 (by decide) ?_
      first | exact ih (k + 1) left V (by omega) hl (ls_f0 c27 hV) | exact ih (k + 1) (left - 1) V (by omega) (by omega) (ls_f1 c27 (by omega) hV)
    · refine ax_iload_n dX4_placeOf_30 rfl ?_
      refine ax_zne 37 dX4_placeOf_31 (by decide) (by first | omega | exact rk_6 hw _ | exact rk_11 hw _ | exact rk_18 hw _ | exact rk_19 hw _ | exact rk_27 hw _ | exact rk_N hw _ _) (fun c31 => ?_) (fun c31 => ?_)
      · refine ax_idecn dX4_placeOf_37 rfl (by decide) rfl (by omega) ?_
        refine ax_iincn (n := 1) dX4_placeOf_40 rfl (by decide) rfl ?_
        refine ax_goto 5 dX4_placeOf_43 (by decide) ?_
        first | exact ih (k + 1) left V (by omega) hl (ls_f0 c27 hV) | exact ih (k + 1) (left - 1) V (by omega) (by omega) (ls_f1 c27 (by omega) hV)
      · refine ax_iload dX4_placeOf_34 rfl ?_
        refine ax_iretD dX4_placeOf_36 rfl ⟨(Nat.le_refl _), (Nat.le_refl _)⟩ ?_ ?_
        · rw [ls_f2 c27 c31 hV]; rfl
        · rfl
theorem ok_placeOf (hw : rf_ok ρ) {r : Nat} (hr : r < 6) (x : Int32) : ax_Ok mX4_placeOf yX4_placeOf 2 0 0 [ax_r (80, 0), ax_i (nI r), ax_i x] (fh c ρ) (ax_D (ax_i (rP ρ r x)) (fh c ρ)) := by
  refine ax_Ok.of (by decide) rfl (fun q => by cases q) (Nat.le_of_ble_eq_true rfl) rfl ?_
  have h5 := rk_5 hw r
  by_cases hx : x < 0
  · skip
    refine ax_iload_n dX4_placeOf_0 rfl ?_
    refine ax_istore_n dX4_placeOf_1 rfl (by decide) ?_
    refine ax_iconst (nI 0) dX4_placeOf_2 (by decide) ?_
    refine ax_istore dX4_placeOf_3 rfl (by decide) ?_
    refine ax_iload dX4_placeOf_5 rfl ?_
    refine ax_aload_n dX4_placeOf_7 rfl ?_
    refine rg_5 dX4_placeOf_8 ?_
    refine ax_iload_n dX4_placeOf_11 rfl ?_
    refine rl_5 dX4_placeOf_12 (by first | omega | exact rk_6 hw _ | exact rk_11 hw _ | exact rk_18 hw _ | exact rk_19 hw _ | exact rk_27 hw _ | exact rk_N hw _ _) ?_
    refine ax_nge 46 dX4_placeOf_13 (by decide) (by first | omega | exact rk_6 hw _ | exact rk_11 hw _ | exact rk_18 hw _ | exact rk_19 hw _ | exact rk_27 hw _ | exact rk_N hw _ _) (by first | omega | exact rk_6 hw _ | exact rk_11 hw _ | exact rk_18 hw _ | exact rk_19 hw _ | exact rk_27 hw _ | exact rk_N hw _ _) (fun c13 => ?_) (fun c13 => ?_)
    · refine ax_bipush (-9) dX4_placeOf_46 (by decide) ?_
      refine ax_iretD dX4_placeOf_48 rfl ⟨(Nat.le_refl _), (Nat.le_refl _)⟩ ?_ ?_
      · simp [rP, hx]
      · rfl
    · refine ax_iload_n dX4_placeOf_16 rfl ?_
      refine ax_if_lt 46 dX4_placeOf_17 (by decide) (fun c17 => ?_) (fun c17 => absurd c17 (by simpa using hx))
      refine ax_bipush (-9) dX4_placeOf_46 (by decide) ?_
      refine ax_iretD dX4_placeOf_48 rfl ⟨(Nat.le_refl _), (Nat.le_refl _)⟩ ?_ ?_
      · simp [rP, hx]
      · rfl
  · obtain ⟨j, hj, rfl⟩ := nI_of hx
    have e : rP ρ r (nI j) = oI ((rL ρ r)[j]?) := by simp only [rP, if_neg hx, nI_clamp hj]
    rw [e]
    refine ax_iload_n dX4_placeOf_0 rfl ?_
    refine ax_istore_n dX4_placeOf_1 rfl (by decide) ?_
    refine ax_iconst (nI 0) dX4_placeOf_2 (by decide) ?_
    refine ax_istore dX4_placeOf_3 rfl (by decide) ?_
    exact lp_placeOf hw hr hj (ρ.1 5 r) 0 j _ (by omega) hj rfl
theorem lp_onMembers (hw : rf_ok ρ) {r : Nat} (hr : r < 6) : ∀ (m : Nat) (k n : Nat) (V : Nat), k + m = ρ.1 5 r → n + (List.range' k m).countP (rO ρ r) = V → ax_Z mX4_onMembers 2 0 0 (ax_D (ax_i (nI V)) (fh c ρ)) 4 [some (ax_r (80, 0)), some (ax_i (nI r)), some (ax_i (nI n)), some (ax_i (nI k))] [] (fh c ρ) 0 0 := by
  intro m
  induction m with
  | zero =>
    intro k n V hk hV
    have h5 := rk_5 hw r
    refine ax_iload_n dX4_onMembers_4 rfl ?_
    refine ax_aload_n dX4_onMembers_5 rfl ?_
    refine rg_5 dX4_onMembers_6 ?_
    refine ax_iload_n dX4_onMembers_9 rfl ?_
    refine rl_5 dX4_onMembers_10 (by first | omega | exact rk_6 hw _ | exact rk_11 hw _ | exact rk_18 hw _ | exact rk_19 hw _ | exact rk_27 hw _ | exact rk_N hw _ _) ?_
    refine ax_nge 37 dX4_onMembers_11 (by decide) (by first | omega | exact rk_6 hw _ | exact rk_11 hw _ | exact rk_18 hw _ | exact rk_19 hw _ | exact rk_27 hw _ | exact rk_N hw _ _) (by first | omega | exact rk_6 hw _ | exact rk_11 hw _ | exact rk_18 hw _ | exact rk_19 hw _ | exact rk_27 hw _ | exact rk_N hw _ _) (fun c11 => ?_) (fun c11 => absurd c11 (by omega))
    refine ax_iload_n dX4_onMembers_37 rfl ?_
    refine ax_iretD dX4_onMembers_38 rfl ⟨(Nat.le_refl _), (Nat.le_refl _)⟩ ?_ ?_
    · rw [ls_c2 hV]
    · rfl
  | succ m ih =>
    intro k n V hk hV
    have h5 := rk_5 hw r
    refine ax_iload_n dX4_onMembers_4 rfl ?_
    refine ax_aload_n dX4_onMembers_5 rfl ?_
    refine rg_5 dX4_onMembers_6 ?_
    refine ax_iload_n dX4_onMembers_9 rfl ?_
    refine rl_5 dX4_onMembers_10 (by first | omega | exact rk_6 hw _ | exact rk_11 hw _ | exact rk_18 hw _ | exact rk_19 hw _ | exact rk_27 hw _ | exact rk_N hw _ _) ?_
    refine ax_nge 37 dX4_onMembers_11 (by decide) (by first | omega | exact rk_6 hw _ | exact rk_11 hw _ | exact rk_18 hw _ | exact rk_19 hw _ | exact rk_27 hw _ | exact rk_N hw _ _) (by first | omega | exact rk_6 hw _ | exact rk_11 hw _ | exact rk_18 hw _ | exact rk_19 hw _ | exact rk_27 hw _ | exact rk_N hw _ _) (fun c11 => absurd c11 (by omega)) (fun c11 => ?_)
    refine ax_iload_n dX4_onMembers_14 rfl ?_
    refine ax_aload_n dX4_onMembers_15 rfl ?_
    refine ax_iload_n dX4_onMembers_16 rfl ?_
    refine ax_iload_n dX4_onMembers_17 rfl ?_
    refine ax_V2 cv_X4_96 dX4_onMembers_18 fh_M rfl (ok_isOn hw (by first | omega | exact rk_6 hw _ | exact rk_11 hw _ | exact rk_18 hw _ | exact rk_19 hw _ | exact rk_27 hw _ | exact rk_N hw _ _) (by first | omega | exact rk_6 hw _ | exact rk_11 hw _ | exact rk_18 hw _ | exact rk_19 hw _ | exact rk_27 hw _ | exact rk_N hw _ _)) (by decide) (Nat.le_refl _) (Nat.le_refl _) (Nat.le_of_ble_eq_true rfl) ?_
    refine ax_beq 28 dX4_onMembers_21 (by decide) (fun c21 => ?_) (fun c21 => ?_)
    · refine ax_iconst (nI 0) dX4_onMembers_28 (by decide) ?_
      refine ax_iaddn dX4_onMembers_29 ?_
      refine ax_istore_n dX4_onMembers_30 rfl (by decide) ?_
      refine ax_iincn (n := 1) dX4_onMembers_31 rfl (by decide) rfl ?_
      refine ax_goto 4 dX4_onMembers_34 (by decide) ?_
      first | exact ih (k + 1) (n + 0) V (by omega) (ls_c0 c21 hV) | exact ih (k + 1) (n + 1) V (by omega) (ls_c1 c21 hV)
    · refine ax_iconst (nI 1) dX4_onMembers_24 (by decide) ?_
      refine ax_goto 29 dX4_onMembers_25 (by decide) ?_
      refine ax_iaddn dX4_onMembers_29 ?_
      refine ax_istore_n dX4_onMembers_30 rfl (by decide) ?_
      refine ax_iincn (n := 1) dX4_onMembers_31 rfl (by decide) rfl ?_
      refine ax_goto 4 dX4_onMembers_34 (by decide) ?_
      first | exact ih (k + 1) (n + 0) V (by omega) (ls_c0 c21 hV) | exact ih (k + 1) (n + 1) V (by omega) (ls_c1 c21 hV)
theorem ok_onMembers (hw : rf_ok ρ) {r : Nat} (hr : r < 6) : ax_Ok mX4_onMembers yX4_onMembers 2 0 0 [ax_r (80, 0), ax_i (nI r)] (fh c ρ) (ax_D (ax_i (nI (rM ρ r))) (fh c ρ)) := by
  refine ax_Ok.of (by decide) rfl (fun q => by cases q) (Nat.le_of_ble_eq_true rfl) rfl ?_
  refine ax_iconst (nI 0) dX4_onMembers_0 (by decide) ?_
  refine ax_istore_n dX4_onMembers_1 rfl (by decide) ?_
  refine ax_iconst (nI 0) dX4_onMembers_2 (by decide) ?_
  refine ax_istore_n dX4_onMembers_3 rfl (by decide) ?_
  exact lp_onMembers hw hr (ρ.1 5 r) 0 0 _ (by omega) (Nat.zero_add _)
theorem rM_le (hw : rf_ok ρ) (r : Nat) : rM ρ r ≤ 6 := Nat.le_trans List.countP_le_length (by rw [List.length_range']; exact rk_5 hw r)
theorem ok_isLost (hw : rf_ok ρ) {r : Nat} (hr : r < 6) : ax_Ok mX4_isLost yX4_isLost 3 0 0 [ax_r (80, 0), ax_i (nI r)] (fh c ρ) (ax_D (ax_i (ax_b (decide (rM ρ r = 0)))) (fh c ρ)) := by
  refine ax_Ok.of (by decide) rfl (fun q => by cases q) (Nat.le_of_ble_eq_true rfl) rfl ?_
  refine ax_aload_n dX4_isLost_0 rfl ?_
  refine ax_iload_n dX4_isLost_1 rfl ?_
  refine ax_V1 cv_X4_100 dX4_isLost_2 fh_M rfl (ok_onMembers hw hr) (by decide) (Nat.le_refl _) (Nat.le_refl _) (Nat.le_of_ble_eq_true rfl) ?_
  refine ax_zne 12 dX4_isLost_5 (by decide) (by have := rM_le hw r; omega) (fun c5 => ?_) (fun c5 => ?_)
  · refine ax_iconst (ax_b false) dX4_isLost_12 (by decide) ?_
    refine ax_bret dX4_isLost_13 rfl ⟨(Nat.le_refl _), (Nat.le_refl _)⟩ ?_ ?_
    · simp; omega
    · rfl
  · refine ax_iconst (ax_b true) dX4_isLost_8 (by decide) ?_
    refine ax_goto 13 dX4_isLost_9 (by decide) ?_
    refine ax_bret dX4_isLost_13 rfl ⟨(Nat.le_refl _), (Nat.le_refl _)⟩ ?_ ?_
    · simp; omega
    · rfl
theorem ok_primary (hw : rf_ok ρ) {r : Nat} (hr : r < 6) : ax_Ok mX4_primary yX4_primary 3 0 0 [ax_r (80, 0), ax_i (nI r)] (fh c ρ) (ax_D (ax_i (oI (rL ρ r)[0]?)) (fh c ρ)) := by
  refine ax_Ok.of (by decide) rfl (fun q => by cases q) (Nat.le_of_ble_eq_true rfl) rfl ?_
  refine ax_aload_n dX4_primary_0 rfl ?_
  refine ax_iload_n dX4_primary_1 rfl ?_
  refine ax_iconst (nI 0) dX4_primary_2 (by decide) ?_
  refine ax_V2 cv_X4_104 dX4_primary_3 fh_M rfl (ok_placeOf hw (by first | omega | exact rk_6 hw _ | exact rk_11 hw _ | exact rk_18 hw _ | exact rk_19 hw _ | exact rk_27 hw _ | exact rk_N hw _ _) _) (by decide) (Nat.le_refl _) (Nat.le_refl _) (Nat.le_of_ble_eq_true rfl) ?_
  refine ax_iretD dX4_primary_6 rfl ⟨(Nat.le_refl _), (Nat.le_refl _)⟩ ?_ ?_
  · simp only [rP]; rfl
  · rfl
theorem lp_up (hw : rf_ok ρ)  : ∀ (m : Nat) (k n : Nat) (V : Nat), k + m = 6 → n + (List.range' k m).countP (ρ.2.1 0) = V → ax_Z mX4_up 1 0 0 (ax_D (ax_i (nI V)) (fh c ρ)) 4 [some (ax_r (80, 0)), some (ax_i (nI n)), some (ax_i (nI k))] [] (fh c ρ) 0 0 := by
  intro m
  induction m with
  | zero =>
    intro k n V hk hV
    refine ax_iload_n dX4_up_4 rfl ?_
    refine ax_bipush (nI 6) dX4_up_5 (by decide) ?_
    refine ax_nge 33 dX4_up_7 (by decide) (by first | omega | exact rk_6 hw _ | exact rk_11 hw _ | exact rk_18 hw _ | exact rk_19 hw _ | exact rk_27 hw _ | exact rk_N hw _ _) (by first | omega | exact rk_6 hw _ | exact rk_11 hw _ | exact rk_18 hw _ | exact rk_19 hw _ | exact rk_27 hw _ | exact rk_N hw _ _) (fun c7 => ?_) (fun c7 => absurd c7 (by omega))
    refine ax_iload_n dX4_up_33 rfl ?_
    refine ax_iretD dX4_up_34 rfl ⟨(Nat.le_refl _), (Nat.le_refl _)⟩ ?_ ?_
    · rw [ls_c2 hV]
    · rfl
  | succ m ih =>
    intro k n V hk hV
    refine ax_iload_n dX4_up_4 rfl ?_
    refine ax_bipush (nI 6) dX4_up_5 (by decide) ?_
    refine ax_nge 33 dX4_up_7 (by decide) (by first | omega | exact rk_6 hw _ | exact rk_11 hw _ | exact rk_18 hw _ | exact rk_19 hw _ | exact rk_27 hw _ | exact rk_N hw _ _) (by first | omega | exact rk_6 hw _ | exact rk_11 hw _ | exact rk_18 hw _ | exact rk_19 hw _ | exact rk_27 hw _ | exact rk_N hw _ _) (fun c7 => absurd c7 (by omega)) (fun c7 => ?_)
    refine ax_iload_n dX4_up_10 rfl ?_
    refine ax_aload_n dX4_up_11 rfl ?_
    refine rg_0 dX4_up_12 ?_
    refine ax_iload_n dX4_up_15 rfl ?_
    refine rl_0 dX4_up_16 (by first | omega | exact rk_6 hw _ | exact rk_11 hw _ | exact rk_18 hw _ | exact rk_19 hw _ | exact rk_27 hw _ | exact rk_N hw _ _) ?_
    refine ax_beq 24 dX4_up_17 (by decide) (fun c17 => ?_) (fun c17 => ?_)
    · refine ax_iconst (nI 0) dX4_up_24 (by decide) ?_
      refine ax_iaddn dX4_up_25 ?_
      refine ax_istore_n dX4_up_26 rfl (by decide) ?_
      refine ax_iincn (n := 1) dX4_up_27 rfl (by decide) rfl ?_
      refine ax_goto 4 dX4_up_30 (by decide) ?_
      first | exact ih (k + 1) (n + 0) V (by omega) (ls_c0 c17 hV) | exact ih (k + 1) (n + 1) V (by omega) (ls_c1 c17 hV)
    · refine ax_iconst (nI 1) dX4_up_20 (by decide) ?_
      refine ax_goto 25 dX4_up_21 (by decide) ?_
      refine ax_iaddn dX4_up_25 ?_
      refine ax_istore_n dX4_up_26 rfl (by decide) ?_
      refine ax_iincn (n := 1) dX4_up_27 rfl (by decide) rfl ?_
      refine ax_goto 4 dX4_up_30 (by decide) ?_
      first | exact ih (k + 1) (n + 0) V (by omega) (ls_c0 c17 hV) | exact ih (k + 1) (n + 1) V (by omega) (ls_c1 c17 hV)
theorem ok_up (hw : rf_ok ρ) : ax_Ok mX4_up yX4_up 1 0 0 [ax_r (80, 0)] (fh c ρ) (ax_D (ax_i (nI (rUp ρ))) (fh c ρ)) := by
  refine ax_Ok.of (by decide) rfl (fun q => by cases q) (Nat.le_of_ble_eq_true rfl) rfl ?_
  refine ax_iconst (nI 0) dX4_up_0 (by decide) ?_
  refine ax_istore_n dX4_up_1 rfl (by decide) ?_
  refine ax_iconst (nI 0) dX4_up_2 (by decide) ?_
  refine ax_istore_n dX4_up_3 rfl (by decide) ?_
  exact lp_up hw 6 0 0 _ (by omega) (Nat.zero_add _)
theorem ok_isActive (hw : rf_ok ρ) {t : Nat} (ht : t < 60) : ax_Ok mX4_isActive yX4_isActive 2 0 0 [ax_r (80, 0), ax_i (nI t)] (fh c ρ) (ax_D (ax_i (ax_b (rAc ρ t))) (fh c ρ)) := by
  refine ax_Ok.of (by decide) rfl (fun q => by cases q) (Nat.le_of_ble_eq_true rfl) rfl ?_
  refine ax_aload_n dX4_isActive_0 rfl ?_
  refine rg_12 dX4_isActive_1 ?_
  refine ax_iload_n dX4_isActive_4 rfl ?_
  refine rl_12 dX4_isActive_5 (by first | omega | exact rk_6 hw _ | exact rk_11 hw _ | exact rk_18 hw _ | exact rk_19 hw _ | exact rk_27 hw _ | exact rk_N hw _ _) ?_
  refine ax_i2l _ dX4_isActive_6 rfl ?_
  refine ax_lconst 1 dX4_isActive_7 (by decide) ?_
  refine ax_ldc2 dX4_isActive_8 co_X4_116 ?_
  refine ax_S3 cs_X4_88 dX4_isActive_11 (ok_in _ _ _) (by decide) (Nat.le_refl _) (Nat.le_refl _) (Nat.le_of_ble_eq_true rfl) ?_
  refine ax_bret dX4_isActive_14 rfl ⟨(Nat.le_refl _), (Nat.le_refl _)⟩ ?_ ?_
  · rw [nI_l (rk_N hw _ _)]; rw [rAc, ← rf_dI (a := 1) (by decide) (rk_N hw _ _), ← rf_dI (b := 6) (rk_N hw _ _) (by decide)]; rfl
  · rfl
theorem ok_isTransaction (x : Int32) : ax_Ok mX4_isTransaction yX4_isTransaction 2 0 0 [ax_r (80, 0), ax_i x] (fh c ρ) (ax_D (ax_i (ax_b (decide (0 ≤ x) && decide (x ≤ nI (ρ.1 10 0) - 1)))) (fh c ρ)) := by
  refine ax_Ok.of (by decide) rfl (fun q => by cases q) (Nat.le_of_ble_eq_true rfl) rfl ?_
  refine ax_iload_n dX4_isTransaction_0 rfl ?_
  refine ax_i2l _ dX4_isTransaction_1 rfl ?_
  refine ax_lconst 0 dX4_isTransaction_2 (by decide) ?_
  refine ax_aload_n dX4_isTransaction_3 rfl ?_
  refine rg_10 dX4_isTransaction_4 ?_
  refine ax_iconst (nI 1) dX4_isTransaction_7 (by decide) ?_
  refine ax_isub _ dX4_isTransaction_8 (rfl) ?_
  refine ax_i2l _ dX4_isTransaction_9 rfl ?_
  refine ax_S3 cs_X4_88 dX4_isTransaction_10 (ok_in _ _ _) (by decide) (Nat.le_refl _) (Nat.le_refl _) (Nat.le_of_ble_eq_true rfl) ?_
  refine ax_bret dX4_isTransaction_13 rfl ⟨(Nat.le_refl _), (Nat.le_refl _)⟩ ?_ ?_
  · rw [show (0 : Int64) = (0 : Int32).toInt64 from rfl]; simp only [i64_le]; rfl
  · rfl
theorem lp_writesOf (hw : rf_ok ρ) {t r : Nat} (ht : t < 60) (hr : r < 6) : ∀ (m : Nat) (i : Nat) (b V : Bool), i + m = 8 * t + ρ.1 14 t → (b || (List.range' i m).any (fun i => decide (ρ.1 18 i = r) && ρ.2.1 22 i)) = V → ax_Z mX4_writesOf 1 0 0 (ax_D (ax_i (ax_b V)) (fh c ρ)) 8 [some (ax_r (80, 0)), some (ax_i (nI t)), some (ax_i (nI r)), some (ax_i (ax_b b)), some (ax_i (nI i))] [] (fh c ρ) 0 0 := by
  intro m
  induction m with
  | zero =>
    intro i b V hk hV
    have h14 := rk_14 hw t
    refine ax_iload dX4_writesOf_8 rfl ?_
    refine ax_bipush (nI 8) dX4_writesOf_10 (by decide) ?_
    refine ax_iload_n dX4_writesOf_12 rfl ?_
    refine ax_imuln dX4_writesOf_13 ?_
    refine ax_aload_n dX4_writesOf_14 rfl ?_
    refine rg_14 dX4_writesOf_15 ?_
    refine ax_iload_n dX4_writesOf_18 rfl ?_
    refine rl_14 dX4_writesOf_19 (by first | omega | exact rk_18 hw _ | exact rk_19 hw _ | exact rk_N hw _ _) ?_
    refine ax_iaddn dX4_writesOf_20 ?_
    refine ax_nge 61 dX4_writesOf_21 (by decide) (by first | omega | exact rk_18 hw _ | exact rk_19 hw _ | exact rk_N hw _ _) (by first | omega | exact rk_18 hw _ | exact rk_19 hw _ | exact rk_N hw _ _) (fun c21 => ?_) (fun c21 => absurd c21 (by omega))
    refine ax_iload_n dX4_writesOf_61 rfl ?_
    refine ax_bret dX4_writesOf_62 rfl ⟨(Nat.le_refl _), (Nat.le_refl _)⟩ ?_ ?_
    · exact ls_a2 hV
    · rfl
  | succ m ih =>
    intro i b V hk hV
    have h14 := rk_14 hw t
    refine ax_iload dX4_writesOf_8 rfl ?_
    refine ax_bipush (nI 8) dX4_writesOf_10 (by decide) ?_
    refine ax_iload_n dX4_writesOf_12 rfl ?_
    refine ax_imuln dX4_writesOf_13 ?_
    refine ax_aload_n dX4_writesOf_14 rfl ?_
    refine rg_14 dX4_writesOf_15 ?_
    refine ax_iload_n dX4_writesOf_18 rfl ?_
    refine rl_14 dX4_writesOf_19 (by first | omega | exact rk_18 hw _ | exact rk_19 hw _ | exact rk_N hw _ _) ?_
    refine ax_iaddn dX4_writesOf_20 ?_
    refine ax_nge 61 dX4_writesOf_21 (by decide) (by first | omega | exact rk_18 hw _ | exact rk_19 hw _ | exact rk_N hw _ _) (by first | omega | exact rk_18 hw _ | exact rk_19 hw _ | exact rk_N hw _ _) (fun c21 => absurd c21 (by omega)) (fun c21 => ?_)
    refine ax_iload_n dX4_writesOf_24 rfl ?_
    refine ax_bne 49 dX4_writesOf_25 (by decide) (fun c25 => ?_) (fun c25 => ?_)
    · refine ax_iconst (ax_b true) dX4_writesOf_49 (by decide) ?_
      refine ax_goto 54 dX4_writesOf_50 (by decide) ?_
      refine ax_istore_n dX4_writesOf_54 rfl (by decide) ?_
      refine ax_iincn (n := 1) dX4_writesOf_55 rfl (by decide) rfl ?_
      refine ax_goto 8 dX4_writesOf_58 (by decide) ?_
      first | exact ih (i + 1) true V (by omega) (by simpa [c21, c25] using ls_a hV) | exact ih (i + 1) false V (by omega) (by simpa [c21, c25] using ls_a hV)
    · refine ax_aload_n dX4_writesOf_28 rfl ?_
      refine rg_18 dX4_writesOf_29 ?_
      refine ax_iload dX4_writesOf_32 rfl ?_
      refine rl_18 dX4_writesOf_34 (by first | omega | exact rk_18 hw _ | exact rk_19 hw _ | exact rk_N hw _ _) ?_
      refine ax_iload_n dX4_writesOf_35 rfl ?_
      refine ax_nne 53 dX4_writesOf_36 (by decide) (by first | omega | exact rk_18 hw _ | exact rk_19 hw _ | exact rk_N hw _ _) (by first | omega | exact rk_18 hw _ | exact rk_19 hw _ | exact rk_N hw _ _) (fun c36 => ?_) (fun c36 => ?_)
      · refine ax_iconst (ax_b false) dX4_writesOf_53 (by decide) ?_
        refine ax_istore_n dX4_writesOf_54 rfl (by decide) ?_
        refine ax_iincn (n := 1) dX4_writesOf_55 rfl (by decide) rfl ?_
        refine ax_goto 8 dX4_writesOf_58 (by decide) ?_
        first | exact ih (i + 1) true V (by omega) (by simpa [c21, c25, c36] using ls_a hV) | exact ih (i + 1) false V (by omega) (by simpa [c21, c25, c36] using ls_a hV)
      · refine ax_aload_n dX4_writesOf_39 rfl ?_
        refine rg_22 dX4_writesOf_40 ?_
        refine ax_iload dX4_writesOf_43 rfl ?_
        refine rl_22 dX4_writesOf_45 (by first | omega | exact rk_18 hw _ | exact rk_19 hw _ | exact rk_N hw _ _) ?_
        refine ax_beq 53 dX4_writesOf_46 (by decide) (fun c46 => ?_) (fun c46 => ?_)
        · refine ax_iconst (ax_b false) dX4_writesOf_53 (by decide) ?_
          refine ax_istore_n dX4_writesOf_54 rfl (by decide) ?_
          refine ax_iincn (n := 1) dX4_writesOf_55 rfl (by decide) rfl ?_
          refine ax_goto 8 dX4_writesOf_58 (by decide) ?_
          first | exact ih (i + 1) true V (by omega) (by simpa [c21, c25, c36, c46] using ls_a hV) | exact ih (i + 1) false V (by omega) (by simpa [c21, c25, c36, c46] using ls_a hV)
        · refine ax_iconst (ax_b true) dX4_writesOf_49 (by decide) ?_
          refine ax_goto 54 dX4_writesOf_50 (by decide) ?_
          refine ax_istore_n dX4_writesOf_54 rfl (by decide) ?_
          refine ax_iincn (n := 1) dX4_writesOf_55 rfl (by decide) rfl ?_
          refine ax_goto 8 dX4_writesOf_58 (by decide) ?_
          first | exact ih (i + 1) true V (by omega) (by simpa [c21, c25, c36, c46] using ls_a hV) | exact ih (i + 1) false V (by omega) (by simpa [c21, c25, c36, c46] using ls_a hV)
theorem ok_writesOf (hw : rf_ok ρ) {t r : Nat} (ht : t < 60) (hr : r < 6) : ax_Ok mX4_writesOf yX4_writesOf 1 0 0 [ax_r (80, 0), ax_i (nI t), ax_i (nI r)] (fh c ρ) (ax_D (ax_i (ax_b (rWr ρ t r))) (fh c ρ)) := by
  refine ax_Ok.of (by decide) rfl (fun q => by cases q) (Nat.le_of_ble_eq_true rfl) rfl ?_
  refine ax_iconst (ax_b false) dX4_writesOf_0 (by decide) ?_
  refine ax_istore_n dX4_writesOf_1 rfl (by decide) ?_
  refine ax_bipush (nI 8) dX4_writesOf_2 (by decide) ?_
  refine ax_iload_n dX4_writesOf_4 rfl ?_
  refine ax_imuln dX4_writesOf_5 ?_
  refine ax_istore dX4_writesOf_6 rfl (by decide) ?_
  exact lp_writesOf hw ht hr (ρ.1 14 t) (8 * t) false _ rfl (Bool.false_or _)
theorem lp_itemOf (hw : rf_ok ρ) {t r o : Nat} (ht : t < 60) (hr : r < 6) (ho : o < 8) : ∀ (m : Nat) (i : Nat) (V : Option Nat), i + m = 8 * t + ρ.1 14 t → (List.range' i m).find? (fun i => decide (ρ.1 18 i = r) && decide (ρ.1 19 i = o)) = V → ax_Z mX4_itemOf 1 0 0 (ax_D (ax_i (oI V)) (fh c ρ)) 6 [some (ax_r (80, 0)), some (ax_i (nI t)), some (ax_i (nI r)), some (ax_i (nI o)), some (ax_i (nI i))] [] (fh c ρ) 0 0 := by
  intro m
  induction m with
  | zero =>
    intro i V hk hV
    have h14 := rk_14 hw t
    refine ax_iload dX4_itemOf_6 rfl ?_
    refine ax_bipush (nI 8) dX4_itemOf_8 (by decide) ?_
    refine ax_iload_n dX4_itemOf_10 rfl ?_
    refine ax_imuln dX4_itemOf_11 ?_
    refine ax_aload_n dX4_itemOf_12 rfl ?_
    refine rg_14 dX4_itemOf_13 ?_
    refine ax_iload_n dX4_itemOf_16 rfl ?_
    refine rl_14 dX4_itemOf_17 (by first | omega | exact rk_18 hw _ | exact rk_19 hw _ | exact rk_N hw _ _) ?_
    refine ax_iaddn dX4_itemOf_18 ?_
    refine ax_nge 53 dX4_itemOf_19 (by decide) (by first | omega | exact rk_18 hw _ | exact rk_19 hw _ | exact rk_N hw _ _) (by first | omega | exact rk_18 hw _ | exact rk_19 hw _ | exact rk_N hw _ _) (fun c19 => ?_) (fun c19 => absurd c19 (by omega))
    refine ax_bipush (-9) dX4_itemOf_53 (by decide) ?_
    refine ax_iretD dX4_itemOf_55 rfl ⟨(Nat.le_refl _), (Nat.le_refl _)⟩ ?_ ?_
    · rw [ls_d2 hV]; rfl
    · rfl
  | succ m ih =>
    intro i V hk hV
    have h14 := rk_14 hw t
    refine ax_iload dX4_itemOf_6 rfl ?_
    refine ax_bipush (nI 8) dX4_itemOf_8 (by decide) ?_
    refine ax_iload_n dX4_itemOf_10 rfl ?_
    refine ax_imuln dX4_itemOf_11 ?_
    refine ax_aload_n dX4_itemOf_12 rfl ?_
    refine rg_14 dX4_itemOf_13 ?_
    refine ax_iload_n dX4_itemOf_16 rfl ?_
    refine rl_14 dX4_itemOf_17 (by first | omega | exact rk_18 hw _ | exact rk_19 hw _ | exact rk_N hw _ _) ?_
    refine ax_iaddn dX4_itemOf_18 ?_
    refine ax_nge 53 dX4_itemOf_19 (by decide) (by first | omega | exact rk_18 hw _ | exact rk_19 hw _ | exact rk_N hw _ _) (by first | omega | exact rk_18 hw _ | exact rk_19 hw _ | exact rk_N hw _ _) (fun c19 => absurd c19 (by omega)) (fun c19 => ?_)
    refine ax_aload_n dX4_itemOf_22 rfl ?_
    refine rg_18 dX4_itemOf_23 ?_
    refine ax_iload dX4_itemOf_26 rfl ?_
    refine rl_18 dX4_itemOf_28 (by first | omega | exact rk_18 hw _ | exact rk_19 hw _ | exact rk_N hw _ _) ?_
    refine ax_iload_n dX4_itemOf_29 rfl ?_
    refine ax_nne 47 dX4_itemOf_30 (by decide) (by first | omega | exact rk_18 hw _ | exact rk_19 hw _ | exact rk_N hw _ _) (by first | omega | exact rk_18 hw _ | exact rk_19 hw _ | exact rk_N hw _ _) (fun c30 => ?_) (fun c30 => ?_)
    · refine ax_iincn (n := 1) dX4_itemOf_47 rfl (by decide) rfl ?_
      refine ax_goto 6 dX4_itemOf_50 (by decide) ?_
      exact ih (i + 1) V (by omega) (ls_d0 (by simp [c19, c30]) hV)
    · refine ax_aload_n dX4_itemOf_33 rfl ?_
      refine rg_19 dX4_itemOf_34 ?_
      refine ax_iload dX4_itemOf_37 rfl ?_
      refine rl_19 dX4_itemOf_39 (by first | omega | exact rk_18 hw _ | exact rk_19 hw _ | exact rk_N hw _ _) ?_
      refine ax_iload_n dX4_itemOf_40 rfl ?_
      refine ax_nne 47 dX4_itemOf_41 (by decide) (by first | omega | exact rk_18 hw _ | exact rk_19 hw _ | exact rk_N hw _ _) (by first | omega | exact rk_18 hw _ | exact rk_19 hw _ | exact rk_N hw _ _) (fun c41 => ?_) (fun c41 => ?_)
      · refine ax_iincn (n := 1) dX4_itemOf_47 rfl (by decide) rfl ?_
        refine ax_goto 6 dX4_itemOf_50 (by decide) ?_
        exact ih (i + 1) V (by omega) (ls_d0 (by simp [c19, c30, c41]) hV)
      · refine ax_iload dX4_itemOf_44 rfl ?_
        refine ax_iretD dX4_itemOf_46 rfl ⟨(Nat.le_refl _), (Nat.le_refl _)⟩ ?_ ?_
        · rw [ls_d1 (by simp [c19, c30, c41]) hV]; rfl
        · rfl
theorem ok_itemOf (hw : rf_ok ρ) {t r o : Nat} (ht : t < 60) (hr : r < 6) (ho : o < 8) : ax_Ok mX4_itemOf yX4_itemOf 1 0 0 [ax_r (80, 0), ax_i (nI t), ax_i (nI r), ax_i (nI o)] (fh c ρ) (ax_D (ax_i (oI (rIo ρ t r o))) (fh c ρ)) := by
  refine ax_Ok.of (by decide) rfl (fun q => by cases q) (Nat.le_of_ble_eq_true rfl) rfl ?_
  refine ax_bipush (nI 8) dX4_itemOf_0 (by decide) ?_
  refine ax_iload_n dX4_itemOf_2 rfl ?_
  refine ax_imuln dX4_itemOf_3 ?_
  refine ax_istore dX4_itemOf_4 rfl (by decide) ?_
  exact lp_itemOf hw ht hr ho (ρ.1 14 t) (8 * t) _ rfl rfl
theorem lp_writes (hw : rf_ok ρ) {t : Nat} (ht : t < 60) : ∀ (m : Nat) (i n : Nat) (V : Nat), i + m = 8 * t + ρ.1 14 t → n + (List.range' i m).countP (ρ.2.1 22) = V → ax_Z mX4_writes 1 0 0 (ax_D (ax_i (nI V)) (fh c ρ)) 7 [some (ax_r (80, 0)), some (ax_i (nI t)), some (ax_i (nI n)), some (ax_i (nI i))] [] (fh c ρ) 0 0 := by
  intro m
  induction m with
  | zero =>
    intro i n V hk hV
    have h14 := rk_14 hw t
    refine ax_iload_n dX4_writes_7 rfl ?_
    refine ax_bipush (nI 8) dX4_writes_8 (by decide) ?_
    refine ax_iload_n dX4_writes_10 rfl ?_
    refine ax_imuln dX4_writes_11 ?_
    refine ax_aload_n dX4_writes_12 rfl ?_
    refine rg_14 dX4_writes_13 ?_
    refine ax_iload_n dX4_writes_16 rfl ?_
    refine rl_14 dX4_writes_17 (by first | omega | exact rk_18 hw _ | exact rk_19 hw _ | exact rk_N hw _ _) ?_
    refine ax_iaddn dX4_writes_18 ?_
    refine ax_nge 45 dX4_writes_19 (by decide) (by first | omega | exact rk_18 hw _ | exact rk_19 hw _ | exact rk_N hw _ _) (by first | omega | exact rk_18 hw _ | exact rk_19 hw _ | exact rk_N hw _ _) (fun c19 => ?_) (fun c19 => absurd c19 (by omega))
    refine ax_iload_n dX4_writes_45 rfl ?_
    refine ax_iretD dX4_writes_46 rfl ⟨(Nat.le_refl _), (Nat.le_refl _)⟩ ?_ ?_
    · rw [ls_c2 hV]
    · rfl
  | succ m ih =>
    intro i n V hk hV
    have h14 := rk_14 hw t
    refine ax_iload_n dX4_writes_7 rfl ?_
    refine ax_bipush (nI 8) dX4_writes_8 (by decide) ?_
    refine ax_iload_n dX4_writes_10 rfl ?_
    refine ax_imuln dX4_writes_11 ?_
    refine ax_aload_n dX4_writes_12 rfl ?_
    refine rg_14 dX4_writes_13 ?_
    refine ax_iload_n dX4_writes_16 rfl ?_
    refine rl_14 dX4_writes_17 (by first | omega | exact rk_18 hw _ | exact rk_19 hw _ | exact rk_N hw _ _) ?_
    refine ax_iaddn dX4_writes_18 ?_
    refine ax_nge 45 dX4_writes_19 (by decide) (by first | omega | exact rk_18 hw _ | exact rk_19 hw _ | exact rk_N hw _ _) (by first | omega | exact rk_18 hw _ | exact rk_19 hw _ | exact rk_N hw _ _) (fun c19 => absurd c19 (by omega)) (fun c19 => ?_)
    refine ax_iload_n dX4_writes_22 rfl ?_
    refine ax_aload_n dX4_writes_23 rfl ?_
    refine rg_22 dX4_writes_24 ?_
    refine ax_iload_n dX4_writes_27 rfl ?_
    refine rl_22 dX4_writes_28 (by first | omega | exact rk_18 hw _ | exact rk_19 hw _ | exact rk_N hw _ _) ?_
    refine ax_beq 36 dX4_writes_29 (by decide) (fun c29 => ?_) (fun c29 => ?_)
    · refine ax_iconst (nI 0) dX4_writes_36 (by decide) ?_
      refine ax_iaddn dX4_writes_37 ?_
      refine ax_istore_n dX4_writes_38 rfl (by decide) ?_
      refine ax_iincn (n := 1) dX4_writes_39 rfl (by decide) rfl ?_
      refine ax_goto 7 dX4_writes_42 (by decide) ?_
      first | exact ih (i + 1) (n + 0) V (by omega) (ls_c0 c29 hV) | exact ih (i + 1) (n + 1) V (by omega) (ls_c1 c29 hV)
    · refine ax_iconst (nI 1) dX4_writes_32 (by decide) ?_
      refine ax_goto 37 dX4_writes_33 (by decide) ?_
      refine ax_iaddn dX4_writes_37 ?_
      refine ax_istore_n dX4_writes_38 rfl (by decide) ?_
      refine ax_iincn (n := 1) dX4_writes_39 rfl (by decide) rfl ?_
      refine ax_goto 7 dX4_writes_42 (by decide) ?_
      first | exact ih (i + 1) (n + 0) V (by omega) (ls_c0 c29 hV) | exact ih (i + 1) (n + 1) V (by omega) (ls_c1 c29 hV)
theorem ok_writes (hw : rf_ok ρ) {t : Nat} (ht : t < 60) : ax_Ok mX4_writes yX4_writes 1 0 0 [ax_r (80, 0), ax_i (nI t)] (fh c ρ) (ax_D (ax_i (nI (rW ρ t))) (fh c ρ)) := by
  refine ax_Ok.of (by decide) rfl (fun q => by cases q) (Nat.le_of_ble_eq_true rfl) rfl ?_
  refine ax_iconst (nI 0) dX4_writes_0 (by decide) ?_
  refine ax_istore_n dX4_writes_1 rfl (by decide) ?_
  refine ax_bipush (nI 8) dX4_writes_2 (by decide) ?_
  refine ax_iload_n dX4_writes_4 rfl ?_
  refine ax_imuln dX4_writes_5 ?_
  refine ax_istore_n dX4_writes_6 rfl (by decide) ?_
  exact lp_writes hw ht (ρ.1 14 t) (8 * t) 0 _ rfl (Nat.zero_add _)
theorem lp_nth (hw : rf_ok ρ) {t n : Nat} {b : Bool} (ht : t < 60) (hn : n < 2 ^ 31) : ∀ (m : Nat) (i left : Nat) (V : Option Nat), i + m = 8 * t + ρ.1 14 t → left < 2 ^ 31 → ((List.range' i m).filter (fun i => ρ.2.1 22 i == b))[left]? = V → ax_Z mX4_nth 1 0 0 (ax_D (ax_i (oI V)) (fh c ρ)) 9 [some (ax_r (80, 0)), some (ax_i (nI t)), some (ax_i (nI n)), some (ax_i (ax_b b)), some (ax_i (nI left)), some (ax_i (nI i))] [] (fh c ρ) 0 0 := by
  intro m
  induction m with
  | zero =>
    intro i left V hk hl hV
    have h14 := rk_14 hw t
    refine ax_iload dX4_nth_9 rfl ?_
    refine ax_bipush (nI 8) dX4_nth_11 (by decide) ?_
    refine ax_iload_n dX4_nth_13 rfl ?_
    refine ax_imuln dX4_nth_14 ?_
    refine ax_aload_n dX4_nth_15 rfl ?_
    refine rg_14 dX4_nth_16 ?_
    refine ax_iload_n dX4_nth_19 rfl ?_
    refine rl_14 dX4_nth_20 (by first | omega | exact rk_18 hw _ | exact rk_19 hw _ | exact rk_N hw _ _) ?_
    refine ax_iaddn dX4_nth_21 ?_
    refine ax_nge 53 dX4_nth_22 (by decide) (by first | omega | exact rk_18 hw _ | exact rk_19 hw _ | exact rk_N hw _ _) (by first | omega | exact rk_18 hw _ | exact rk_19 hw _ | exact rk_N hw _ _) (fun c22 => ?_) (fun c22 => absurd c22 (by omega))
    refine ax_bipush (-9) dX4_nth_53 (by decide) ?_
    refine ax_iretD dX4_nth_55 rfl ⟨(Nat.le_refl _), (Nat.le_refl _)⟩ ?_ ?_
    · rw [ls_f3 hV]; rfl
    · rfl
  | succ m ih =>
    intro i left V hk hl hV
    have h14 := rk_14 hw t
    refine ax_iload dX4_nth_9 rfl ?_
    refine ax_bipush (nI 8) dX4_nth_11 (by decide) ?_
    refine ax_iload_n dX4_nth_13 rfl ?_
    refine ax_imuln dX4_nth_14 ?_
    refine ax_aload_n dX4_nth_15 rfl ?_
    refine rg_14 dX4_nth_16 ?_
    refine ax_iload_n dX4_nth_19 rfl ?_
    refine rl_14 dX4_nth_20 (by first | omega | exact rk_18 hw _ | exact rk_19 hw _ | exact rk_N hw _ _) ?_
    refine ax_iaddn dX4_nth_21 ?_
    refine ax_nge 53 dX4_nth_22 (by decide) (by first | omega | exact rk_18 hw _ | exact rk_19 hw _ | exact rk_N hw _ _) (by first | omega | exact rk_18 hw _ | exact rk_19 hw _ | exact rk_N hw _ _) (fun c22 => absurd c22 (by omega)) (fun c22 => ?_)
    refine ax_aload_n dX4_nth_25 rfl ?_
    refine rg_22 dX4_nth_26 ?_
    refine ax_iload dX4_nth_29 rfl ?_
    refine rl_22 dX4_nth_31 (by first | omega | exact rk_18 hw _ | exact rk_19 hw _ | exact rk_N hw _ _) ?_
    refine ax_iload_n dX4_nth_32 rfl ?_
    refine ax_icmp_ne 47 dX4_nth_33 (by decide) (fun c33 => ?_) (fun c33 => ?_)
    · rw [ax_bb] at c33
      refine ax_iincn (n := 1) dX4_nth_47 rfl (by decide) rfl ?_
      refine ax_goto 9 dX4_nth_50 (by decide) ?_
      first | exact ih (i + 1) left V (by omega) hl (ls_f0 (by simp [c33]) hV) | exact ih (i + 1) (left - 1) V (by omega) (by omega) (ls_f1 (by simp [c33]) (by omega) hV)
    · rw [ax_bb] at c33
      refine ax_iload dX4_nth_36 rfl ?_
      refine ax_zne 44 dX4_nth_38 (by decide) (by first | omega | exact rk_18 hw _ | exact rk_19 hw _ | exact rk_N hw _ _) (fun c38 => ?_) (fun c38 => ?_)
      · refine ax_idecn dX4_nth_44 rfl (by decide) rfl (by omega) ?_
        refine ax_iincn (n := 1) dX4_nth_47 rfl (by decide) rfl ?_
        refine ax_goto 9 dX4_nth_50 (by decide) ?_
        first | exact ih (i + 1) left V (by omega) hl (ls_f0 (by simp [c33]) hV) | exact ih (i + 1) (left - 1) V (by omega) (by omega) (ls_f1 (by simp [c33]) (by omega) hV)
      · refine ax_iload dX4_nth_41 rfl ?_
        refine ax_iretD dX4_nth_43 rfl ⟨(Nat.le_refl _), (Nat.le_refl _)⟩ ?_ ?_
        · rw [ls_f2 (by simp [c33]) c38 hV]; rfl
        · rfl
theorem ok_nth (hw : rf_ok ρ) {t n : Nat} {b : Bool} (ht : t < 60) (hn : n < 2 ^ 31) : ax_Ok mX4_nth yX4_nth 1 0 0 [ax_r (80, 0), ax_i (nI t), ax_i (nI n), ax_i (ax_b b)] (fh c ρ) (ax_D (ax_i (oI (rNt ρ t n b))) (fh c ρ)) := by
  refine ax_Ok.of (by decide) rfl (fun q => by cases q) (Nat.le_of_ble_eq_true rfl) rfl ?_
  refine ax_iload_n dX4_nth_0 rfl ?_
  refine ax_istore dX4_nth_1 rfl (by decide) ?_
  refine ax_bipush (nI 8) dX4_nth_3 (by decide) ?_
  refine ax_iload_n dX4_nth_5 rfl ?_
  refine ax_imuln dX4_nth_6 ?_
  refine ax_istore dX4_nth_7 rfl (by decide) ?_
  exact lp_nth hw ht hn (ρ.1 14 t) (8 * t) n _ rfl hn rfl
theorem lp_firstRecord (hw : rf_ok ρ) {t : Nat} (ht : t < 60) : ∀ (m : Nat) (k : Nat) (V : Option Nat), k + m = ρ.1 25 0 → (List.range' k m).find? (fun k => decide (ρ.2.2 26 k ≠ -9) && decide ((ρ.2.2 26 k).toNatClampNeg / 8 = t)) = V → ax_Z mX4_firstRecord 1 0 0 (ax_D (ax_i (oI V)) (fh c ρ)) 2 [some (ax_r (80, 0)), some (ax_i (nI t)), some (ax_i (nI k))] [] (fh c ρ) 0 0 := by
  intro m
  induction m with
  | zero =>
    intro k V hk hV
    have h25 := rk_25 hw
    refine ax_iload_n dX4_firstRecord_2 rfl ?_
    refine ax_aload_n dX4_firstRecord_3 rfl ?_
    refine rg_25 dX4_firstRecord_4 ?_
    refine ax_nge 42 dX4_firstRecord_7 (by decide) (by first | omega | exact rk_18 hw _ | exact rk_19 hw _ | exact rk_N hw _ _) (by first | omega | exact rk_18 hw _ | exact rk_19 hw _ | exact rk_N hw _ _) (fun c7 => ?_) (fun c7 => absurd c7 (by omega))
    refine ax_bipush (-9) dX4_firstRecord_42 (by decide) ?_
    refine ax_iretD dX4_firstRecord_44 rfl ⟨(Nat.le_refl _), (Nat.le_refl _)⟩ ?_ ?_
    · rw [ls_d2 hV]; rfl
    · rfl
  | succ m ih =>
    intro k V hk hV
    have h25 := rk_25 hw
    refine ax_iload_n dX4_firstRecord_2 rfl ?_
    refine ax_aload_n dX4_firstRecord_3 rfl ?_
    refine rg_25 dX4_firstRecord_4 ?_
    refine ax_nge 42 dX4_firstRecord_7 (by decide) (by first | omega | exact rk_18 hw _ | exact rk_19 hw _ | exact rk_N hw _ _) (by first | omega | exact rk_18 hw _ | exact rk_19 hw _ | exact rk_N hw _ _) (fun c7 => absurd c7 (by omega)) (fun c7 => ?_)
    refine ax_aload_n dX4_firstRecord_10 rfl ?_
    refine rg_26 dX4_firstRecord_11 ?_
    refine ax_iload_n dX4_firstRecord_14 rfl ?_
    refine rl_26 dX4_firstRecord_15 (by first | omega | exact rk_18 hw _ | exact rk_19 hw _ | exact rk_N hw _ _) ?_
    refine ax_bipush (-9) dX4_firstRecord_16 (by decide) ?_
    refine ax_icmp_eq 36 dX4_firstRecord_18 (by decide) (fun c18 => ?_) (fun c18 => ?_)
    · refine ax_iincn (n := 1) dX4_firstRecord_36 rfl (by decide) rfl ?_
      refine ax_goto 2 dX4_firstRecord_39 (by decide) ?_
      exact ih (k + 1) V (by omega) (ls_d0 (by simp [c18]) hV)
    · obtain ⟨j, hj, ej⟩ := (rk_26 hw k).resolve_left c18
      have hj9 : ¬ nI j = -9 := by rw [← ej]; exact c18
      refine ax_aload_n dX4_firstRecord_21 rfl ?_
      refine rg_26 dX4_firstRecord_22 ?_
      refine ax_iload_n dX4_firstRecord_25 rfl ?_
      refine rl_26 dX4_firstRecord_26 (by first | omega | exact rk_18 hw _ | exact rk_19 hw _ | exact rk_N hw _ _) ?_
      rw [ej]
      refine ax_bipush (nI 8) dX4_firstRecord_27 (by decide) ?_
      refine ax_idivn dX4_firstRecord_29 (by decide) (by first | omega | exact rk_18 hw _ | exact rk_19 hw _ | exact rk_N hw _ _) (by decide) ?_
      refine ax_iload_n dX4_firstRecord_30 rfl ?_
      refine ax_nne 36 dX4_firstRecord_31 (by decide) (by first | omega | exact rk_18 hw _ | exact rk_19 hw _ | exact rk_N hw _ _) (by first | omega | exact rk_18 hw _ | exact rk_19 hw _ | exact rk_N hw _ _) (fun c31 => ?_) (fun c31 => ?_)
      · refine ax_iincn (n := 1) dX4_firstRecord_36 rfl (by decide) rfl ?_
        refine ax_goto 2 dX4_firstRecord_39 (by decide) ?_
        exact ih (k + 1) V (by omega) (ls_d0 (by rw [ej, nI_clamp (by omega)]; simp [c31]) hV)
      · refine ax_iload_n dX4_firstRecord_34 rfl ?_
        refine ax_iretD dX4_firstRecord_35 rfl ⟨(Nat.le_refl _), (Nat.le_refl _)⟩ ?_ ?_
        · rw [ls_d1 (by rw [ej, nI_clamp (by omega)]; simp [c31]; exact hj9) hV]; rfl
        · rfl
theorem ok_firstRecord (hw : rf_ok ρ) {t : Nat} (ht : t < 60) : ax_Ok mX4_firstRecord yX4_firstRecord 1 0 0 [ax_r (80, 0), ax_i (nI t)] (fh c ρ) (ax_D (ax_i (oI (rFr ρ t))) (fh c ρ)) := by
  refine ax_Ok.of (by decide) rfl (fun q => by cases q) (Nat.le_of_ble_eq_true rfl) rfl ?_
  refine ax_iconst (nI 0) dX4_firstRecord_0 (by decide) ?_
  refine ax_istore_n dX4_firstRecord_1 rfl (by decide) ?_
  exact lp_firstRecord hw ht (ρ.1 25 0) 0 _ (Nat.zero_add _) rfl
theorem lp_firstLocked (hw : rf_ok ρ) {t : Nat} (ht : t < 60) : ∀ (m : Nat) (i : Nat) (V : Option Nat), i + m = 8 * t + ρ.1 14 t → (List.range' i m).find? (fun i => ρ.2.1 22 i && decide (ρ.2.2 9 (8 * ρ.1 18 i + ρ.1 19 i) = nI t)) = V → ax_Z mX4_firstLocked 1 0 0 (ax_D (ax_i (oI V)) (fh c ρ)) 5 [some (ax_r (80, 0)), some (ax_i (nI t)), some (ax_i (nI i))] [] (fh c ρ) 0 0 := by
  intro m
  induction m with
  | zero =>
    intro i V hk hV
    have h14 := rk_14 hw t
    have h18 := rk_18 hw i
    have h19 := rk_19 hw i
    refine ax_iload_n dX4_firstLocked_5 rfl ?_
    refine ax_bipush (nI 8) dX4_firstLocked_6 (by decide) ?_
    refine ax_iload_n dX4_firstLocked_8 rfl ?_
    refine ax_imuln dX4_firstLocked_9 ?_
    refine ax_aload_n dX4_firstLocked_10 rfl ?_
    refine rg_14 dX4_firstLocked_11 ?_
    refine ax_iload_n dX4_firstLocked_14 rfl ?_
    refine rl_14 dX4_firstLocked_15 (by first | omega | exact rk_18 hw _ | exact rk_19 hw _ | exact rk_N hw _ _) ?_
    refine ax_iaddn dX4_firstLocked_16 ?_
    refine ax_nge 62 dX4_firstLocked_17 (by decide) (by first | omega | exact rk_18 hw _ | exact rk_19 hw _ | exact rk_N hw _ _) (by first | omega | exact rk_18 hw _ | exact rk_19 hw _ | exact rk_N hw _ _) (fun c17 => ?_) (fun c17 => absurd c17 (by omega))
    refine ax_bipush (-9) dX4_firstLocked_62 (by decide) ?_
    refine ax_iretD dX4_firstLocked_64 rfl ⟨(Nat.le_refl _), (Nat.le_refl _)⟩ ?_ ?_
    · rw [ls_d2 hV]; rfl
    · rfl
  | succ m ih =>
    intro i V hk hV
    have h14 := rk_14 hw t
    have h18 := rk_18 hw i
    have h19 := rk_19 hw i
    refine ax_iload_n dX4_firstLocked_5 rfl ?_
    refine ax_bipush (nI 8) dX4_firstLocked_6 (by decide) ?_
    refine ax_iload_n dX4_firstLocked_8 rfl ?_
    refine ax_imuln dX4_firstLocked_9 ?_
    refine ax_aload_n dX4_firstLocked_10 rfl ?_
    refine rg_14 dX4_firstLocked_11 ?_
    refine ax_iload_n dX4_firstLocked_14 rfl ?_
    refine rl_14 dX4_firstLocked_15 (by first | omega | exact rk_18 hw _ | exact rk_19 hw _ | exact rk_N hw _ _) ?_
    refine ax_iaddn dX4_firstLocked_16 ?_
    refine ax_nge 62 dX4_firstLocked_17 (by decide) (by first | omega | exact rk_18 hw _ | exact rk_19 hw _ | exact rk_N hw _ _) (by first | omega | exact rk_18 hw _ | exact rk_19 hw _ | exact rk_N hw _ _) (fun c17 => absurd c17 (by omega)) (fun c17 => ?_)
    refine ax_aload_n dX4_firstLocked_20 rfl ?_
    refine rg_22 dX4_firstLocked_21 ?_
    refine ax_iload_n dX4_firstLocked_24 rfl ?_
    refine rl_22 dX4_firstLocked_25 (by first | omega | exact rk_18 hw _ | exact rk_19 hw _ | exact rk_N hw _ _) ?_
    refine ax_beq 56 dX4_firstLocked_26 (by decide) (fun c26 => ?_) (fun c26 => ?_)
    · refine ax_iincn (n := 1) dX4_firstLocked_56 rfl (by decide) rfl ?_
      refine ax_goto 5 dX4_firstLocked_59 (by decide) ?_
      exact ih (i + 1) V (by omega) (ls_d0 (by simp [c17, c26]) hV)
    · refine ax_aload_n dX4_firstLocked_29 rfl ?_
      refine rg_9 dX4_firstLocked_30 ?_
      refine ax_bipush (nI 8) dX4_firstLocked_33 (by decide) ?_
      refine ax_aload_n dX4_firstLocked_35 rfl ?_
      refine rg_18 dX4_firstLocked_36 ?_
      refine ax_iload_n dX4_firstLocked_39 rfl ?_
      refine rl_18 dX4_firstLocked_40 (by first | omega | exact rk_18 hw _ | exact rk_19 hw _ | exact rk_N hw _ _) ?_
      refine ax_imuln dX4_firstLocked_41 ?_
      refine ax_aload_n dX4_firstLocked_42 rfl ?_
      refine rg_19 dX4_firstLocked_43 ?_
      refine ax_iload_n dX4_firstLocked_46 rfl ?_
      refine rl_19 dX4_firstLocked_47 (by first | omega | exact rk_18 hw _ | exact rk_19 hw _ | exact rk_N hw _ _) ?_
      refine ax_iaddn dX4_firstLocked_48 ?_
      refine rl_9 dX4_firstLocked_49 (by first | omega | exact rk_18 hw _ | exact rk_19 hw _ | exact rk_N hw _ _) ?_
      refine ax_iload_n dX4_firstLocked_50 rfl ?_
      refine ax_icmp_ne 56 dX4_firstLocked_51 (by decide) (fun c51 => ?_) (fun c51 => ?_)
      · refine ax_iincn (n := 1) dX4_firstLocked_56 rfl (by decide) rfl ?_
        refine ax_goto 5 dX4_firstLocked_59 (by decide) ?_
        exact ih (i + 1) V (by omega) (ls_d0 (by simp [c17, c26, c51]) hV)
      · refine ax_iload_n dX4_firstLocked_54 rfl ?_
        refine ax_iretD dX4_firstLocked_55 rfl ⟨(Nat.le_refl _), (Nat.le_refl _)⟩ ?_ ?_
        · rw [ls_d1 (by simp [c17, c26, c51]) hV]; rfl
        · rfl
theorem ok_firstLocked (hw : rf_ok ρ) {t : Nat} (ht : t < 60) : ax_Ok mX4_firstLocked yX4_firstLocked 1 0 0 [ax_r (80, 0), ax_i (nI t)] (fh c ρ) (ax_D (ax_i (oI (rFl ρ t))) (fh c ρ)) := by
  refine ax_Ok.of (by decide) rfl (fun q => by cases q) (Nat.le_of_ble_eq_true rfl) rfl ?_
  refine ax_bipush (nI 8) dX4_firstLocked_0 (by decide) ?_
  refine ax_iload_n dX4_firstLocked_2 rfl ?_
  refine ax_imuln dX4_firstLocked_3 ?_
  refine ax_istore_n dX4_firstLocked_4 rfl (by decide) ?_
  exact lp_firstLocked hw ht (ρ.1 14 t) (8 * t) _ rfl rfl
end REFM
