section CLS3
variable {κ ρ : ax_R}
theorem io_ik (hw : kf κ) {t r q k : Nat} (ht : t < κ.1 10 0) (h : rIo κ t r q = some k) : ik κ k ∧ κ.1 18 k = r ∧ κ.1 19 k = q ∧ 8 * t ≤ k ∧ k < 8 * t + κ.1 14 t := by
  have h1 := List.mem_range'_1.mp (List.mem_of_find?_eq_some h)
  have h2 := List.find?_some h
  simp only [Bool.and_eq_true, decide_eq_true_eq] at h2
  have := ik.of (i := k - 8 * t) hw ht (by omega)
  rw [show 8 * t + (k - 8 * t) = k by omega] at this
  exact ⟨this, h2.1, h2.2, h1.1, h1.2⟩
theorem ok_itN (hw : kf κ) {t r q : Nat} (ht : t < κ.1 10 0) (hq : q < 8) (h : rIo κ t r q = none) : ax_Ok mX2_itemOf yX2_itemOf 4 0 0 [ax_r (8, t), ax_r (3, r), ax_i (nI q)] (fh (ch κ) ρ) (ax_D ax_z (fh (ch κ) ρ)) := by
  have := ok_itemOfC (ρ := ρ) (r := r) hw ht hq
  rw [h] at this
  exact this
theorem ok_itS (hw : kf κ) {t r q k : Nat} (ht : t < κ.1 10 0) (hq : q < 8) (h : rIo κ t r q = some k) : ax_Ok mX2_itemOf yX2_itemOf 4 0 0 [ax_r (8, t), ax_r (3, r), ax_i (nI q)] (fh (ch κ) ρ) (ax_D (ax_r (9, k)) (fh (ch κ) ρ)) := by
  have := ok_itemOfC (ρ := ρ) (r := r) hw ht hq
  rw [h] at this
  exact this
def cRo (κ : ax_R) (r q x t : Nat) : Bool := match rIo κ t r q with
  | some k => pm κ (κ.1 18 k) (fun s => κ.2.1 41 (6 * k + s)) x
  | none => false
theorem lp_recordsOf (hw : kf κ) {r q x : Nat} (hr : r < κ.1 4 0) (hq : q < 8) (hx : x < 6) : ∀ (m : Nat) (t n V : Nat), t + m = κ.1 10 0 → n + (List.range' t m).countP (cRo κ r q x) = V → ax_Z mX3_recordsOf 5 0 0 (ax_D (ax_i (nI V)) (fh (ch κ) ρ)) 6 [some (ax_r (1, 0)), some (ax_r (3, r)), some (ax_i (nI q)), some (ax_i (nI x)), some (ax_i (nI n)), some (ax_i (nI t)), none] [] (fh (ch κ) ρ) 0 0 := by
  intro m
  induction m with
  | zero =>
    intro t n V hk hV
    have h6 := hw.nT
    refine ax_iload dX3_recordsOf_6 rfl ?_
    refine ax_aload_n dX3_recordsOf_8 rfl ?_
    refine ax_get (ci := 4) (k := 1) (T := TX3) dX3_recordsOf_9 ch_O rfl (by decide) fl_X3_16 rfl ?_
    refine ax_V0 cv_X3_46 dX3_recordsOf_12 ch_lT rfl (ok_szT) (by decide) (Nat.le_refl _) (Nat.le_refl _) (Nat.le_of_ble_eq_true rfl) ?_
    refine ax_nge 63 dX3_recordsOf_15 (by decide) (by omega) (by omega) (fun c15 => ?_) (fun c15 => absurd c15 (by omega))
    refine ax_iload dX3_recordsOf_63 rfl ?_
    refine ax_iretD dX3_recordsOf_65 rfl ⟨(Nat.le_refl _), (Nat.le_refl _)⟩ ?_ ?_
    · rw [ls_c2 hV]
    · rfl
  | succ m ih =>
    intro t n V hk hV
    have h6 := hw.nT
    have ht : t < κ.1 10 0 := by omega
    cases hio : rIo κ t r q with
    | none =>
      refine ax_iload dX3_recordsOf_6 rfl ?_
      refine ax_aload_n dX3_recordsOf_8 rfl ?_
      refine ax_get (ci := 4) (k := 1) (T := TX3) dX3_recordsOf_9 ch_O rfl (by decide) fl_X3_16 rfl ?_
      refine ax_V0 cv_X3_46 dX3_recordsOf_12 ch_lT rfl (ok_szT) (by decide) (Nat.le_refl _) (Nat.le_refl _) (Nat.le_of_ble_eq_true rfl) ?_
      refine ax_nge 63 dX3_recordsOf_15 (by decide) (by omega) (by omega) (fun c15 => absurd c15 (by omega)) (fun c15 => ?_)
      refine ax_aload_n dX3_recordsOf_18 rfl ?_
      refine ax_get (ci := 4) (k := 1) (T := TX3) dX3_recordsOf_19 ch_O rfl (by decide) fl_X3_16 rfl ?_
      refine ax_iload dX3_recordsOf_22 rfl ?_
      refine ax_V1 cv_X3_77 dX3_recordsOf_24 ch_lT rfl (ok_geT hw (by first | assumption | omega)) (by decide) (Nat.le_refl _) (Nat.le_refl _) (Nat.le_of_ble_eq_true rfl) ?_
      refine ax_cast (ci := 3) dX3_recordsOf_27 cl_X3_81 (ch_T (by assumption)) rfl ?_
      refine ax_aload_n dX3_recordsOf_30 rfl ?_
      refine ax_iload_n dX3_recordsOf_31 rfl ?_
      refine ax_V2 cv_X3_263 dX3_recordsOf_32 (ch_T (by assumption)) rfl (ok_itN hw ht hq hio) (by decide) (Nat.le_refl _) (Nat.le_refl _) (Nat.le_of_ble_eq_true rfl) ?_
      refine ax_astore dX3_recordsOf_35 rfl (by decide) ?_
      refine ax_aload dX3_recordsOf_37 rfl ?_
      refine ax_ifnull 57 dX3_recordsOf_39 (by decide) (fun c39 => ?_) (fun c39 => absurd c39 (fun z => z rfl))
      refine ax_iincn (n := 1) dX3_recordsOf_57 rfl (by decide) rfl ?_
      refine ax_goto 6 dX3_recordsOf_60 (by decide) ?_
      refine ax_fg [true, true, true, true, true, true, false] rfl ?_
      exact ih (t + 1) (n + 0) V (by omega) (ls_c0 (by simp [cRo, hio]) hV)
    | some k =>
      have hik := (io_ik hw ht hio).1
      refine ax_iload dX3_recordsOf_6 rfl ?_
      refine ax_aload_n dX3_recordsOf_8 rfl ?_
      refine ax_get (ci := 4) (k := 1) (T := TX3) dX3_recordsOf_9 ch_O rfl (by decide) fl_X3_16 rfl ?_
      refine ax_V0 cv_X3_46 dX3_recordsOf_12 ch_lT rfl (ok_szT) (by decide) (Nat.le_refl _) (Nat.le_refl _) (Nat.le_of_ble_eq_true rfl) ?_
      refine ax_nge 63 dX3_recordsOf_15 (by decide) (by omega) (by omega) (fun c15 => absurd c15 (by omega)) (fun c15 => ?_)
      refine ax_aload_n dX3_recordsOf_18 rfl ?_
      refine ax_get (ci := 4) (k := 1) (T := TX3) dX3_recordsOf_19 ch_O rfl (by decide) fl_X3_16 rfl ?_
      refine ax_iload dX3_recordsOf_22 rfl ?_
      refine ax_V1 cv_X3_77 dX3_recordsOf_24 ch_lT rfl (ok_geT hw (by first | assumption | omega)) (by decide) (Nat.le_refl _) (Nat.le_refl _) (Nat.le_of_ble_eq_true rfl) ?_
      refine ax_cast (ci := 3) dX3_recordsOf_27 cl_X3_81 (ch_T (by assumption)) rfl ?_
      refine ax_aload_n dX3_recordsOf_30 rfl ?_
      refine ax_iload_n dX3_recordsOf_31 rfl ?_
      refine ax_V2 cv_X3_263 dX3_recordsOf_32 (ch_T (by assumption)) rfl (ok_itS hw ht hq hio) (by decide) (Nat.le_refl _) (Nat.le_refl _) (Nat.le_of_ble_eq_true rfl) ?_
      refine ax_astore dX3_recordsOf_35 rfl (by decide) ?_
      refine ax_aload dX3_recordsOf_37 rfl ?_
      refine ax_ifnull 57 dX3_recordsOf_39 (by decide) (fun c39 => absurd c39 (by intro z; cases z)) (fun c39 => ?_)
      refine ax_aload dX3_recordsOf_42 rfl ?_
      refine ax_get (ci := 1) (k := 6) (T := TX0) dX3_recordsOf_44 (ch_I (by assumption)) rfl (by decide) fl_X3_267 rfl ?_
      refine ax_iload_n dX3_recordsOf_47 rfl ?_
      refine ax_S2 cs_X3_111 dX3_recordsOf_48 (ok_holds (by first | omega | exact hw.m6 _ | exact hw.co6 _)) (by decide) (Nat.le_refl _) (Nat.le_refl _) (Nat.le_of_ble_eq_true rfl) ?_
      refine ax_beq 57 dX3_recordsOf_51 (by decide) (fun c51 => ?_) (fun c51 => ?_)
      · refine ax_iincn (n := 1) dX3_recordsOf_57 rfl (by decide) rfl ?_
        refine ax_goto 6 dX3_recordsOf_60 (by decide) ?_
        refine ax_fg [true, true, true, true, true, true, false] rfl ?_
        first | exact ih (t + 1) (n + 0) V (by omega) (ls_c0 (by simp only [cRo, hio]; exact c51) hV) | exact ih (t + 1) (n + 1) V (by omega) (ls_c1 (by simp only [cRo, hio]; exact c51) hV)
      · refine ax_iincn (n := 1) dX3_recordsOf_54 rfl (by decide) rfl ?_
        refine ax_iincn (n := 1) dX3_recordsOf_57 rfl (by decide) rfl ?_
        refine ax_goto 6 dX3_recordsOf_60 (by decide) ?_
        refine ax_fg [true, true, true, true, true, true, false] rfl ?_
        first | exact ih (t + 1) (n + 0) V (by omega) (ls_c0 (by simp only [cRo, hio]; exact c51) hV) | exact ih (t + 1) (n + 1) V (by omega) (ls_c1 (by simp only [cRo, hio]; exact c51) hV)
theorem ok_recordsOf (hw : kf κ) {r q x : Nat} (hr : r < κ.1 4 0) (hq : q < 8) (hx : x < 6) : ax_Ok mX3_recordsOf yX3_recordsOf 5 0 0 [ax_r (1, 0), ax_r (3, r), ax_i (nI q), ax_i (nI x)] (fh (ch κ) ρ) (ax_D (ax_i (nI ((List.range' 0 (κ.1 10 0)).countP (cRo κ r q x)))) (fh (ch κ) ρ)) := by
  refine ax_Ok.of (by decide) rfl (fun q => by cases q) (Nat.le_of_ble_eq_true rfl) rfl ?_
  refine ax_iconst (nI 0) dX3_recordsOf_0 (by decide) ?_
  refine ax_istore dX3_recordsOf_1 rfl (by decide) ?_
  refine ax_iconst (nI 0) dX3_recordsOf_3 (by decide) ?_
  refine ax_istore dX3_recordsOf_4 rfl (by decide) ?_
  exact lp_recordsOf hw hr hq hx (κ.1 10 0) 0 0 _ (Nat.zero_add _) (Nat.zero_add _)
def cRk (κ : ax_R) (Q : Nat → Bool) (k : Nat) : Nat := (List.range' 0 (κ.1 5 (κ.1 18 k))).countP (fun s => κ.2.1 41 (6 * k + s) && Q (κ.1 6 (6 * κ.1 18 k + s)))
def cRt (κ : ax_R) (Q : Nat → Bool) (n t : Nat) : Nat := (rI κ t).foldl (fun a k => a + cRk κ Q k) n
def cRw (κ : ax_R) (Q : Nat → Bool) : Nat := (List.range' 0 (κ.1 10 0)).foldl (cRt κ Q) 0
theorem lp_rw1 (hw : kf κ) {Fi : Option ax_V → ax_H → Prop} {Q : Nat → Bool} {t : Nat} (ht : t < κ.1 10 0) : ∀ (m : Nat) (i n V : Nat), i + m = κ.1 14 t → (List.range' (8 * t + i) m).foldl (fun a k => a + cRk κ Q k) n = V → ax_Z mX3_recordsWithin 4 0 0 Fi 74 [some (ax_r (1, 0)), some (ax_i (nI (mk Q))), some (ax_i (nI V)), some (ax_i (nI t)), some (ax_r (8, t)), some (ax_i (nI (κ.1 14 t)))] [] (fh (ch κ) ρ) 0 0 → ax_Z mX3_recordsWithin 4 0 0 (Fi) 31 [some (ax_r (1, 0)), some (ax_i (nI (mk Q))), some (ax_i (nI n)), some (ax_i (nI t)), some (ax_r (8, t)), some (ax_i (nI i))] [] (fh (ch κ) ρ) 0 0 := by
  intro m
  induction m with
  | zero =>
    intro i n V hk hV hK
    have h8 := hw.i8 t
    refine ax_iload dX3_recordsWithin_31 rfl ?_
    refine ax_aload dX3_recordsWithin_33 rfl ?_
    refine ax_get (ci := 3) (k := 2) (T := TX2) dX3_recordsWithin_35 (ch_T (by assumption)) rfl (by decide) fl_X3_205 rfl ?_
    refine ax_V0 cv_X3_46 dX3_recordsWithin_38 (ch_lI (by assumption)) rfl (ok_szI (by assumption)) (by decide) (Nat.le_refl _) (Nat.le_refl _) (Nat.le_of_ble_eq_true rfl) ?_
    refine ax_nge 74 dX3_recordsWithin_41 (by decide) (by omega) (by omega) (fun c41 => ?_) (fun c41 => absurd c41 (by omega))
    subst hV
    have e : i = κ.1 14 t := by omega
    subst e
    exact hK
  | succ m ih =>
    intro i n V hk hV hK
    have h8 := hw.i8 t
    have hik : ik κ (8 * t + i) := ik.of hw ht (by omega)
    refine ax_iload dX3_recordsWithin_31 rfl ?_
    refine ax_aload dX3_recordsWithin_33 rfl ?_
    refine ax_get (ci := 3) (k := 2) (T := TX2) dX3_recordsWithin_35 (ch_T (by assumption)) rfl (by decide) fl_X3_205 rfl ?_
    refine ax_V0 cv_X3_46 dX3_recordsWithin_38 (ch_lI (by assumption)) rfl (ok_szI (by assumption)) (by decide) (Nat.le_refl _) (Nat.le_refl _) (Nat.le_of_ble_eq_true rfl) ?_
    refine ax_nge 74 dX3_recordsWithin_41 (by decide) (by omega) (by omega) (fun c41 => absurd c41 (by omega)) (fun c41 => ?_)
    refine ax_iload_n dX3_recordsWithin_44 rfl ?_
    refine ax_aload dX3_recordsWithin_45 rfl ?_
    refine ax_get (ci := 3) (k := 2) (T := TX2) dX3_recordsWithin_47 (ch_T (by assumption)) rfl (by decide) fl_X3_205 rfl ?_
    refine ax_iload dX3_recordsWithin_50 rfl ?_
    refine ax_V1 cv_X3_77 dX3_recordsWithin_52 (ch_lI (by assumption)) rfl (ok_geI hw (by assumption) (by first | assumption | omega)) (by decide) (Nat.le_refl _) (Nat.le_refl _) (Nat.le_of_ble_eq_true rfl) ?_
    refine ax_cast (ci := 1) dX3_recordsWithin_55 cl_X3_173 (ch_I (by assumption)) rfl ?_
    refine ax_get (ci := 1) (k := 6) (T := TX0) dX3_recordsWithin_58 (ch_I (by assumption)) rfl (by decide) fl_X3_267 rfl ?_
    refine ax_iload_n dX3_recordsWithin_61 rfl ?_
    refine ax_iand (nI (mk (fun m => pm κ (κ.1 18 (8 * t + i)) (fun s => κ.2.1 41 (6 * (8 * t + i) + s)) m && Q m))) dX3_recordsWithin_62 (k_and _ _) ?_
    refine ax_S1 cs_X3_72 dX3_recordsWithin_63 (ok_bitCount (mk_lt _)) (by decide) (Nat.le_refl _) (Nat.le_refl _) (Nat.le_of_ble_eq_true rfl) ?_
    rw [mk_pc, pm_cnt hw]
    refine ax_iaddn dX3_recordsWithin_66 ?_
    refine ax_istore_n dX3_recordsWithin_67 rfl (by decide) ?_
    refine ax_iincn (n := 1) dX3_recordsWithin_68 rfl (by decide) rfl ?_
    refine ax_goto 31 dX3_recordsWithin_71 (by decide) ?_
    exact ih (i + 1) _ V (by omega) (by rw [← hV, List.range'_succ, List.foldl_cons]; rfl) hK
theorem lp_rw (hw : kf κ) {Q : Nat → Bool} : ∀ (m : Nat) (t n V : Nat), t + m = κ.1 10 0 → (List.range' t m).foldl (cRt κ Q) n = V → ax_Z mX3_recordsWithin 4 0 0 (ax_D (ax_i (nI V)) (fh (ch κ) ρ)) 4 [some (ax_r (1, 0)), some (ax_i (nI (mk Q))), some (ax_i (nI n)), some (ax_i (nI t)), none, none] [] (fh (ch κ) ρ) 0 0 := by
  intro m
  induction m with
  | zero =>
    intro t n V hk hV
    have h6 := hw.nT
    refine ax_iload_n dX3_recordsWithin_4 rfl ?_
    refine ax_aload_n dX3_recordsWithin_5 rfl ?_
    refine ax_get (ci := 4) (k := 1) (T := TX3) dX3_recordsWithin_6 ch_O rfl (by decide) fl_X3_16 rfl ?_
    refine ax_V0 cv_X3_46 dX3_recordsWithin_9 ch_lT rfl (ok_szT) (by decide) (Nat.le_refl _) (Nat.le_refl _) (Nat.le_of_ble_eq_true rfl) ?_
    refine ax_nge 80 dX3_recordsWithin_12 (by decide) (by omega) (by omega) (fun c12 => ?_) (fun c12 => absurd c12 (by omega))
    refine ax_iload_n dX3_recordsWithin_80 rfl ?_
    refine ax_iretD dX3_recordsWithin_81 rfl ⟨(Nat.le_refl _), (Nat.le_refl _)⟩ ?_ ?_
    · rw [← hV]; rfl
    · rfl
  | succ m ih =>
    intro t n V hk hV
    have h6 := hw.nT
    have ht : t < κ.1 10 0 := by omega
    refine ax_iload_n dX3_recordsWithin_4 rfl ?_
    refine ax_aload_n dX3_recordsWithin_5 rfl ?_
    refine ax_get (ci := 4) (k := 1) (T := TX3) dX3_recordsWithin_6 ch_O rfl (by decide) fl_X3_16 rfl ?_
    refine ax_V0 cv_X3_46 dX3_recordsWithin_9 ch_lT rfl (ok_szT) (by decide) (Nat.le_refl _) (Nat.le_refl _) (Nat.le_of_ble_eq_true rfl) ?_
    refine ax_nge 80 dX3_recordsWithin_12 (by decide) (by omega) (by omega) (fun c12 => absurd c12 (by omega)) (fun c12 => ?_)
    refine ax_aload_n dX3_recordsWithin_15 rfl ?_
    refine ax_get (ci := 4) (k := 1) (T := TX3) dX3_recordsWithin_16 ch_O rfl (by decide) fl_X3_16 rfl ?_
    refine ax_iload_n dX3_recordsWithin_19 rfl ?_
    refine ax_V1 cv_X3_77 dX3_recordsWithin_20 ch_lT rfl (ok_geT hw (by first | assumption | omega)) (by decide) (Nat.le_refl _) (Nat.le_refl _) (Nat.le_of_ble_eq_true rfl) ?_
    refine ax_cast (ci := 3) dX3_recordsWithin_23 cl_X3_81 (ch_T (by assumption)) rfl ?_
    refine ax_astore dX3_recordsWithin_26 rfl (by decide) ?_
    refine ax_iconst (nI 0) dX3_recordsWithin_28 (by decide) ?_
    refine ax_istore dX3_recordsWithin_29 rfl (by decide) ?_
    refine lp_rw1 hw ht (κ.1 14 t) 0 n _ (Nat.zero_add _) rfl ?_
    refine ax_iincn (n := 1) dX3_recordsWithin_74 rfl (by decide) rfl ?_
    refine ax_goto 4 dX3_recordsWithin_77 (by decide) ?_
    refine ax_fg [true, true, true, true, false, false] rfl ?_
    exact ih (t + 1) _ V (by omega) (by rw [← hV, List.range'_succ, List.foldl_cons]; rfl)
theorem ok_recordsWithin (hw : kf κ) {Q : Nat → Bool} : ax_Ok mX3_recordsWithin yX3_recordsWithin 4 0 0 [ax_r (1, 0), ax_i (nI (mk Q))] (fh (ch κ) ρ) (ax_D (ax_i (nI (cRw κ Q))) (fh (ch κ) ρ)) := by
  refine ax_Ok.of (by decide) rfl (fun q => by cases q) (Nat.le_of_ble_eq_true rfl) rfl ?_
  refine ax_iconst (nI 0) dX3_recordsWithin_0 (by decide) ?_
  refine ax_istore_n dX3_recordsWithin_1 rfl (by decide) ?_
  refine ax_iconst (nI 0) dX3_recordsWithin_2 (by decide) ?_
  refine ax_istore_n dX3_recordsWithin_3 rfl (by decide) ?_
  exact lp_rw hw (κ.1 10 0) 0 0 _ (Nat.zero_add _) rfl
def cAc (κ : ax_R) (t r q : Nat) : Int32 := if κ.1 12 t ≠ 0 then -3 else match cPr κ r with
  | none => -5
  | some p => if κ.2.1 0 (κ.1 11 t) = false ∨ κ.2.1 0 (κ.1 6 (6 * r + p)) = false then -6 else if rIo κ t r q ≠ none then 0 else if κ.2.2 9 (8 * r + q) ≠ -9 then -6 else if 8 ≤ κ.1 14 t then -4 else 0
def cEn (κ : ax_R) (t : Nat) : Int32 := if κ.1 12 t ≠ 0 then -3 else if κ.2.1 0 (κ.1 11 t) = true then 0 else -6
theorem ok_acN (hw : kf κ) {t r q : Nat} (ht : t < κ.1 10 0) (hr : r < κ.1 4 0) (hq : q < 8) (hp : cPr κ r = none) : ax_Ok mX3_accessRefusal yX3_accessRefusal 5 0 0 [ax_r (1, 0), ax_r (8, t), ax_r (3, r), ax_i (nI q)] (fh (ch κ) ρ) (ax_D (ax_i (cAc κ t r q)) (fh (ch κ) ρ)) := by
  refine ax_Ok.of (by decide) rfl (fun q => by cases q) (Nat.le_of_ble_eq_true rfl) rfl ?_
  have h12 := hw.lt 12 t
  have h14 := hw.i8 t
  refine ax_aload_n dX3_accessRefusal_0 rfl ?_
  refine ax_get (ci := 3) (k := 3) (T := TX2) dX3_accessRefusal_1 (ch_T (by assumption)) rfl (by decide) fl_X3_83 rfl ?_
  refine ax_zeq 10 dX3_accessRefusal_4 (by decide) (by omega) (fun c4 => ?_) (fun c4 => ?_)
  · refine ax_aload_n dX3_accessRefusal_10 rfl ?_
    refine ax_aload_n dX3_accessRefusal_11 rfl ?_
    refine ax_V1 cv_X3_104 dX3_accessRefusal_12 ch_O rfl (ok_prN hw hr hp) (by decide) (Nat.le_refl _) (Nat.le_refl _) (Nat.le_of_ble_eq_true rfl) ?_
    refine ax_istore dX3_accessRefusal_15 rfl (by decide) ?_
    refine ax_iload dX3_accessRefusal_17 rfl ?_
    refine ax_bipush (-9) dX3_accessRefusal_19 (by decide) ?_
    refine ax_icmp_ne 27 dX3_accessRefusal_21 (by decide) (fun c21 => absurd c21 (fun z => z rfl)) (fun c21 => ?_)
    refine ax_bipush (-5) dX3_accessRefusal_24 (by decide) ?_
    refine ax_iretD dX3_accessRefusal_26 rfl ⟨(Nat.le_refl _), (Nat.le_refl _)⟩ ?_ ?_
    · simp [cAc, hp, c4, c21]
    · rfl
  · refine ax_bipush (-3) dX3_accessRefusal_7 (by decide) ?_
    refine ax_iretD dX3_accessRefusal_9 rfl ⟨(Nat.le_refl _), (Nat.le_refl _)⟩ ?_ ?_
    · simp [cAc, hp, c4]
    · rfl
theorem ok_acSN (hw : kf κ) {t r q : Nat} (ht : t < κ.1 10 0) (hr : r < κ.1 4 0) (hq : q < 8) {p : Nat} (hp : cPr κ r = some p) (hio : rIo κ t r q = none) : ax_Ok mX3_accessRefusal yX3_accessRefusal 5 0 0 [ax_r (1, 0), ax_r (8, t), ax_r (3, r), ax_i (nI q)] (fh (ch κ) ρ) (ax_D (ax_i (cAc κ t r q)) (fh (ch κ) ρ)) := by
  refine ax_Ok.of (by decide) rfl (fun q => by cases q) (Nat.le_of_ble_eq_true rfl) rfl ?_
  have h12 := hw.lt 12 t
  have h14 := hw.i8 t
  refine ax_aload_n dX3_accessRefusal_0 rfl ?_
  refine ax_get (ci := 3) (k := 3) (T := TX2) dX3_accessRefusal_1 (ch_T (by assumption)) rfl (by decide) fl_X3_83 rfl ?_
  refine ax_zeq 10 dX3_accessRefusal_4 (by decide) (by omega) (fun c4 => ?_) (fun c4 => ?_)
  · refine ax_aload_n dX3_accessRefusal_10 rfl ?_
    refine ax_aload_n dX3_accessRefusal_11 rfl ?_
    refine ax_V1 cv_X3_104 dX3_accessRefusal_12 ch_O rfl (ok_prS hw hr hp) (by decide) (Nat.le_refl _) (Nat.le_refl _) (Nat.le_of_ble_eq_true rfl) ?_
    refine ax_istore dX3_accessRefusal_15 rfl (by decide) ?_
    refine ax_iload dX3_accessRefusal_17 rfl ?_
    refine ax_bipush (-9) dX3_accessRefusal_19 (by decide) ?_
    refine ax_icmp_ne 27 dX3_accessRefusal_21 (by decide) (fun c21 => ?_) (fun c21 => absurd c21 (nI_ne9 (by have := hw.m6 (6 * r + p); omega)))
    refine ax_aload_n dX3_accessRefusal_27 rfl ?_
    refine ax_aload_n dX3_accessRefusal_28 rfl ?_
    refine ax_get (ci := 3) (k := 1) (T := TX2) dX3_accessRefusal_29 (ch_T (by assumption)) rfl (by decide) fl_X3_86 rfl ?_
    refine ax_V1 cv_X3_65 dX3_accessRefusal_32 ch_O rfl (ok_isUp (by first | omega | exact hw.m6 _ | exact hw.co6 _)) (by decide) (Nat.le_refl _) (Nat.le_refl _) (Nat.le_of_ble_eq_true rfl) ?_
    refine ax_beq 47 dX3_accessRefusal_35 (by decide) (fun c35 => ?_) (fun c35 => ?_)
    · refine ax_bipush (-6) dX3_accessRefusal_47 (by decide) ?_
      refine ax_iretD dX3_accessRefusal_49 rfl ⟨(Nat.le_refl _), (Nat.le_refl _)⟩ ?_ ?_
      · simp [cAc, hp, hio, c4, c21, c35]
      · rfl
    · refine ax_aload_n dX3_accessRefusal_38 rfl ?_
      refine ax_iload dX3_accessRefusal_39 rfl ?_
      refine ax_V1 cv_X3_65 dX3_accessRefusal_41 ch_O rfl (ok_isUp (by first | omega | exact hw.m6 _ | exact hw.co6 _)) (by decide) (Nat.le_refl _) (Nat.le_refl _) (Nat.le_of_ble_eq_true rfl) ?_
      refine ax_bne 50 dX3_accessRefusal_44 (by decide) (fun c44 => ?_) (fun c44 => ?_)
      · refine ax_aload_n dX3_accessRefusal_50 rfl ?_
        refine ax_aload_n dX3_accessRefusal_51 rfl ?_
        refine ax_iload_n dX3_accessRefusal_52 rfl ?_
        refine ax_V2 cv_X3_263 dX3_accessRefusal_53 (ch_T (by assumption)) rfl (ok_itN hw ht hq hio) (by decide) (Nat.le_refl _) (Nat.le_refl _) (Nat.le_of_ble_eq_true rfl) ?_
        refine ax_ifnull 61 dX3_accessRefusal_56 (by decide) (fun c56 => ?_) (fun c56 => absurd c56 (fun z => z rfl))
        refine ax_aload_n dX3_accessRefusal_61 rfl ?_
        refine ax_get (ci := 2) (k := 6) (T := TX1) dX3_accessRefusal_62 (ch_R (by first | assumption | exact ik.r hw (by assumption))) rfl (by decide) fl_X3_149 rfl ?_
        refine ax_iload_n dX3_accessRefusal_65 rfl ?_
        refine cl_lk dX3_accessRefusal_66 (by first | assumption | exact ik.r hw (by assumption)) (by first | omega | exact hw.o8 _) ?_
        refine ax_bipush (-9) dX3_accessRefusal_67 (by decide) ?_
        refine ax_icmp_eq 75 dX3_accessRefusal_69 (by decide) (fun c69 => ?_) (fun c69 => ?_)
        · refine ax_aload_n dX3_accessRefusal_75 rfl ?_
          refine ax_get (ci := 3) (k := 2) (T := TX2) dX3_accessRefusal_76 (ch_T (by assumption)) rfl (by decide) fl_X3_205 rfl ?_
          refine ax_V0 cv_X3_46 dX3_accessRefusal_79 (ch_lI (by assumption)) rfl (ok_szI (by assumption)) (by decide) (Nat.le_refl _) (Nat.le_refl _) (Nat.le_of_ble_eq_true rfl) ?_
          refine ax_bipush (nI 8) dX3_accessRefusal_82 (by decide) ?_
          refine ax_nlt 92 dX3_accessRefusal_84 (by decide) (by omega) (by omega) (fun c84 => ?_) (fun c84 => ?_)
          · refine ax_iconst (0) dX3_accessRefusal_92 (by decide) ?_
            refine ax_iretD dX3_accessRefusal_93 rfl ⟨(Nat.le_refl _), (Nat.le_refl _)⟩ ?_ ?_
            · simp [cAc, hp, hio, c4, c21, c35, c44, c56, c69, c84, Nat.not_le.mpr c84]
            · rfl
          · refine ax_bipush (-4) dX3_accessRefusal_87 (by decide) ?_
            refine ax_goto 93 dX3_accessRefusal_89 (by decide) ?_
            refine ax_iretD dX3_accessRefusal_93 rfl ⟨(Nat.le_refl _), (Nat.le_refl _)⟩ ?_ ?_
            · simp [cAc, hp, hio, c4, c21, c35, c44, c56, c69, c84, Nat.not_lt.mpr c84]
            · rfl
        · refine ax_bipush (-6) dX3_accessRefusal_72 (by decide) ?_
          refine ax_iretD dX3_accessRefusal_74 rfl ⟨(Nat.le_refl _), (Nat.le_refl _)⟩ ?_ ?_
          · simp [cAc, hp, hio, c4, c21, c35, c44, c56, c69]
          · rfl
      · refine ax_bipush (-6) dX3_accessRefusal_47 (by decide) ?_
        refine ax_iretD dX3_accessRefusal_49 rfl ⟨(Nat.le_refl _), (Nat.le_refl _)⟩ ?_ ?_
        · simp [cAc, hp, hio, c4, c21, c35, c44]
        · rfl
  · refine ax_bipush (-3) dX3_accessRefusal_7 (by decide) ?_
    refine ax_iretD dX3_accessRefusal_9 rfl ⟨(Nat.le_refl _), (Nat.le_refl _)⟩ ?_ ?_
    · simp [cAc, hp, hio, c4]
    · rfl
theorem ok_acSS (hw : kf κ) {t r q : Nat} (ht : t < κ.1 10 0) (hr : r < κ.1 4 0) (hq : q < 8) {p k : Nat} (hp : cPr κ r = some p) (hio : rIo κ t r q = some k) : ax_Ok mX3_accessRefusal yX3_accessRefusal 5 0 0 [ax_r (1, 0), ax_r (8, t), ax_r (3, r), ax_i (nI q)] (fh (ch κ) ρ) (ax_D (ax_i (cAc κ t r q)) (fh (ch κ) ρ)) := by
  refine ax_Ok.of (by decide) rfl (fun q => by cases q) (Nat.le_of_ble_eq_true rfl) rfl ?_
  have h12 := hw.lt 12 t
  have h14 := hw.i8 t
  refine ax_aload_n dX3_accessRefusal_0 rfl ?_
  refine ax_get (ci := 3) (k := 3) (T := TX2) dX3_accessRefusal_1 (ch_T (by assumption)) rfl (by decide) fl_X3_83 rfl ?_
  refine ax_zeq 10 dX3_accessRefusal_4 (by decide) (by omega) (fun c4 => ?_) (fun c4 => ?_)
  · refine ax_aload_n dX3_accessRefusal_10 rfl ?_
    refine ax_aload_n dX3_accessRefusal_11 rfl ?_
    refine ax_V1 cv_X3_104 dX3_accessRefusal_12 ch_O rfl (ok_prS hw hr hp) (by decide) (Nat.le_refl _) (Nat.le_refl _) (Nat.le_of_ble_eq_true rfl) ?_
    refine ax_istore dX3_accessRefusal_15 rfl (by decide) ?_
    refine ax_iload dX3_accessRefusal_17 rfl ?_
    refine ax_bipush (-9) dX3_accessRefusal_19 (by decide) ?_
    refine ax_icmp_ne 27 dX3_accessRefusal_21 (by decide) (fun c21 => ?_) (fun c21 => absurd c21 (nI_ne9 (by have := hw.m6 (6 * r + p); omega)))
    refine ax_aload_n dX3_accessRefusal_27 rfl ?_
    refine ax_aload_n dX3_accessRefusal_28 rfl ?_
    refine ax_get (ci := 3) (k := 1) (T := TX2) dX3_accessRefusal_29 (ch_T (by assumption)) rfl (by decide) fl_X3_86 rfl ?_
    refine ax_V1 cv_X3_65 dX3_accessRefusal_32 ch_O rfl (ok_isUp (by first | omega | exact hw.m6 _ | exact hw.co6 _)) (by decide) (Nat.le_refl _) (Nat.le_refl _) (Nat.le_of_ble_eq_true rfl) ?_
    refine ax_beq 47 dX3_accessRefusal_35 (by decide) (fun c35 => ?_) (fun c35 => ?_)
    · refine ax_bipush (-6) dX3_accessRefusal_47 (by decide) ?_
      refine ax_iretD dX3_accessRefusal_49 rfl ⟨(Nat.le_refl _), (Nat.le_refl _)⟩ ?_ ?_
      · simp [cAc, hp, hio, c4, c21, c35]
      · rfl
    · refine ax_aload_n dX3_accessRefusal_38 rfl ?_
      refine ax_iload dX3_accessRefusal_39 rfl ?_
      refine ax_V1 cv_X3_65 dX3_accessRefusal_41 ch_O rfl (ok_isUp (by first | omega | exact hw.m6 _ | exact hw.co6 _)) (by decide) (Nat.le_refl _) (Nat.le_refl _) (Nat.le_of_ble_eq_true rfl) ?_
      refine ax_bne 50 dX3_accessRefusal_44 (by decide) (fun c44 => ?_) (fun c44 => ?_)
      · refine ax_aload_n dX3_accessRefusal_50 rfl ?_
        refine ax_aload_n dX3_accessRefusal_51 rfl ?_
        refine ax_iload_n dX3_accessRefusal_52 rfl ?_
        refine ax_V2 cv_X3_263 dX3_accessRefusal_53 (ch_T (by assumption)) rfl (ok_itS hw ht hq hio) (by decide) (Nat.le_refl _) (Nat.le_refl _) (Nat.le_of_ble_eq_true rfl) ?_
        refine ax_ifnull 61 dX3_accessRefusal_56 (by decide) (fun c56 => absurd c56 (by intro z; cases z)) (fun c56 => ?_)
        refine ax_iconst (0) dX3_accessRefusal_59 (by decide) ?_
        refine ax_iretD dX3_accessRefusal_60 rfl ⟨(Nat.le_refl _), (Nat.le_refl _)⟩ ?_ ?_
        · simp [cAc, hp, hio, c4, c21, c35, c44, c56]
        · rfl
      · refine ax_bipush (-6) dX3_accessRefusal_47 (by decide) ?_
        refine ax_iretD dX3_accessRefusal_49 rfl ⟨(Nat.le_refl _), (Nat.le_refl _)⟩ ?_ ?_
        · simp [cAc, hp, hio, c4, c21, c35, c44]
        · rfl
  · refine ax_bipush (-3) dX3_accessRefusal_7 (by decide) ?_
    refine ax_iretD dX3_accessRefusal_9 rfl ⟨(Nat.le_refl _), (Nat.le_refl _)⟩ ?_ ?_
    · simp [cAc, hp, hio, c4]
    · rfl
theorem ok_accessRefusal (hw : kf κ) {t r q : Nat} (ht : t < κ.1 10 0) (hr : r < κ.1 4 0) (hq : q < 8) : ax_Ok mX3_accessRefusal yX3_accessRefusal 5 0 0 [ax_r (1, 0), ax_r (8, t), ax_r (3, r), ax_i (nI q)] (fh (ch κ) ρ) (ax_D (ax_i (cAc κ t r q)) (fh (ch κ) ρ)) := by
  cases hp : cPr κ r with
  | none => exact ok_acN hw ht hr hq hp
  | some p =>
    cases hio : rIo κ t r q with
    | none => exact ok_acSN hw ht hr hq hp hio
    | some k => exact ok_acSS hw ht hr hq hp hio
theorem ok_endingRefusal (hw : kf κ) {t : Nat} (ht : t < κ.1 10 0) : ax_Ok mX3_endingRefusal yX3_endingRefusal 3 0 0 [ax_r (1, 0), ax_r (8, t)] (fh (ch κ) ρ) (ax_D (ax_i (cEn κ t)) (fh (ch κ) ρ)) := by
  refine ax_Ok.of (by decide) rfl (fun q => by cases q) (Nat.le_of_ble_eq_true rfl) rfl ?_
  have h12 := hw.lt 12 t
  refine ax_aload_n dX3_endingRefusal_0 rfl ?_
  refine ax_get (ci := 3) (k := 3) (T := TX2) dX3_endingRefusal_1 (ch_T (by assumption)) rfl (by decide) fl_X3_83 rfl ?_
  refine ax_zeq 10 dX3_endingRefusal_4 (by decide) (by omega) (fun c4 => ?_) (fun c4 => ?_)
  · refine ax_aload_n dX3_endingRefusal_10 rfl ?_
    refine ax_aload_n dX3_endingRefusal_11 rfl ?_
    refine ax_get (ci := 3) (k := 1) (T := TX2) dX3_endingRefusal_12 (ch_T (by assumption)) rfl (by decide) fl_X3_86 rfl ?_
    refine ax_V1 cv_X3_65 dX3_endingRefusal_15 ch_O rfl (ok_isUp (by first | omega | exact hw.m6 _ | exact hw.co6 _)) (by decide) (Nat.le_refl _) (Nat.le_refl _) (Nat.le_of_ble_eq_true rfl) ?_
    refine ax_beq 25 dX3_endingRefusal_18 (by decide) (fun c18 => ?_) (fun c18 => ?_)
    · refine ax_bipush (-6) dX3_endingRefusal_25 (by decide) ?_
      refine ax_iretD dX3_endingRefusal_27 rfl ⟨(Nat.le_refl _), (Nat.le_refl _)⟩ ?_ ?_
      · simp [cEn, c4, c18]
      · rfl
    · refine ax_iconst (0) dX3_endingRefusal_21 (by decide) ?_
      refine ax_goto 27 dX3_endingRefusal_22 (by decide) ?_
      refine ax_iretD dX3_endingRefusal_27 rfl ⟨(Nat.le_refl _), (Nat.le_refl _)⟩ ?_ ?_
      · simp [cEn, c4, c18]
      · rfl
  · refine ax_bipush (-3) dX3_endingRefusal_7 (by decide) ?_
    refine ax_iretD dX3_endingRefusal_9 rfl ⟨(Nat.le_refl _), (Nat.le_refl _)⟩ ?_ ?_
    · simp [cEn, c4]
    · rfl
def cMa (κ : ax_R) (t k : Nat) : Int32 := if rM κ (κ.1 18 k) = 0 then -9 else if κ.1 12 t = 3 ∨ κ.1 12 t = 5 then nI (κ.1 6 (6 * κ.1 18 k + κ.1 44 t % 6)) else oM κ (κ.1 18 k) (cPr κ (κ.1 18 k))
theorem ok_machineOfAct (hw : kf κ) {t k : Nat} (ht : t < κ.1 10 0) (hik : ik κ k) : ax_Ok mX3_machineOfAct yX3_machineOfAct 3 0 0 [ax_r (1, 0), ax_r (8, t), ax_r (9, k)] (fh (ch κ) ρ) (ax_D (ax_i (cMa κ t k)) (fh (ch κ) ρ)) := by
  refine ax_Ok.of (by decide) rfl (fun q => by cases q) (Nat.le_of_ble_eq_true rfl) rfl ?_
  have h12 := hw.lt 12 t
  refine ax_aload_n dX3_machineOfAct_0 rfl ?_
  refine ax_aload_n dX3_machineOfAct_1 rfl ?_
  refine ax_get (ci := 1) (k := 0) (T := TX0) dX3_machineOfAct_2 (ch_I (by assumption)) rfl (by decide) fl_X3_218 rfl ?_
  refine ax_V1 cv_X3_284 dX3_machineOfAct_5 ch_O rfl (ok_cIsLost hw (by first | assumption | exact ik.r hw (by assumption))) (by decide) (Nat.le_refl _) (Nat.le_refl _) (Nat.le_of_ble_eq_true rfl) ?_
  refine ax_beq 14 dX3_machineOfAct_8 (by decide) (fun c8 => ?_) (fun c8 => ?_)
  · have c8 := of_decide_eq_false c8
    refine ax_aload_n dX3_machineOfAct_14 rfl ?_
    refine ax_get (ci := 3) (k := 3) (T := TX2) dX3_machineOfAct_15 (ch_T (by assumption)) rfl (by decide) fl_X3_83 rfl ?_
    refine ax_iconst (nI 3) dX3_machineOfAct_18 (by decide) ?_
    refine ax_neq 30 dX3_machineOfAct_19 (by decide) (by omega) (by omega) (fun c19 => ?_) (fun c19 => ?_)
    · refine ax_iconst (ax_b true) dX3_machineOfAct_30 (by decide) ?_
      refine ax_goto 35 dX3_machineOfAct_31 (by decide) ?_
      refine ax_istore_n dX3_machineOfAct_35 rfl (by decide) ?_
      refine ax_iload_n dX3_machineOfAct_36 rfl ?_
      refine ax_beq 55 dX3_machineOfAct_37 (by decide) (fun c37 => absurd c37 (by decide)) (fun c37 => ?_)
      refine ax_aload_n dX3_machineOfAct_40 rfl ?_
      refine ax_get (ci := 1) (k := 0) (T := TX0) dX3_machineOfAct_41 (ch_I (by assumption)) rfl (by decide) fl_X3_218 rfl ?_
      refine ax_get (ci := 2) (k := 1) (T := TX1) dX3_machineOfAct_44 (ch_R (by first | assumption | exact ik.r hw (by assumption))) rfl (by decide) fl_X3_253 rfl ?_
      refine ax_aload_n dX3_machineOfAct_47 rfl ?_
      refine ax_V0 cv_X3_287 dX3_machineOfAct_48 (ch_T (by assumption)) rfl (ok_slot hw (by assumption)) (by decide) (Nat.le_refl _) (Nat.le_refl _) (Nat.le_of_ble_eq_true rfl) ?_
      refine cl_od dX3_machineOfAct_51 (by first | assumption | exact ik.r hw (by assumption)) (by omega) ?_
      refine ax_goto 63 dX3_machineOfAct_52 (by decide) ?_
      refine ax_iretD dX3_machineOfAct_63 rfl ⟨(Nat.le_refl _), (Nat.le_refl _)⟩ ?_ ?_
      · simp [cMa, c8, c19, c37]
      · rfl
    · refine ax_aload_n dX3_machineOfAct_22 rfl ?_
      refine ax_get (ci := 3) (k := 3) (T := TX2) dX3_machineOfAct_23 (ch_T (by assumption)) rfl (by decide) fl_X3_83 rfl ?_
      refine ax_iconst (nI 5) dX3_machineOfAct_26 (by decide) ?_
      refine ax_nne 34 dX3_machineOfAct_27 (by decide) (by omega) (by omega) (fun c27 => ?_) (fun c27 => ?_)
      · refine ax_iconst (ax_b false) dX3_machineOfAct_34 (by decide) ?_
        refine ax_istore_n dX3_machineOfAct_35 rfl (by decide) ?_
        refine ax_iload_n dX3_machineOfAct_36 rfl ?_
        refine ax_beq 55 dX3_machineOfAct_37 (by decide) (fun c37 => ?_) (fun c37 => absurd c37 (by decide))
        refine ax_aload_n dX3_machineOfAct_55 rfl ?_
        refine ax_aload_n dX3_machineOfAct_56 rfl ?_
        refine ax_get (ci := 1) (k := 0) (T := TX0) dX3_machineOfAct_57 (ch_I (by assumption)) rfl (by decide) fl_X3_218 rfl ?_
        refine ax_V1 cv_X3_104 dX3_machineOfAct_60 ch_O rfl (ok_primaryOf hw (by first | assumption | exact ik.r hw (by assumption))) (by decide) (Nat.le_refl _) (Nat.le_refl _) (Nat.le_of_ble_eq_true rfl) ?_
        refine ax_iretD dX3_machineOfAct_63 rfl ⟨(Nat.le_refl _), (Nat.le_refl _)⟩ ?_ ?_
        · simp [cMa, c8, c19, c27, c37]
        · rfl
      · refine ax_iconst (ax_b true) dX3_machineOfAct_30 (by decide) ?_
        refine ax_goto 35 dX3_machineOfAct_31 (by decide) ?_
        refine ax_istore_n dX3_machineOfAct_35 rfl (by decide) ?_
        refine ax_iload_n dX3_machineOfAct_36 rfl ?_
        refine ax_beq 55 dX3_machineOfAct_37 (by decide) (fun c37 => absurd c37 (by decide)) (fun c37 => ?_)
        refine ax_aload_n dX3_machineOfAct_40 rfl ?_
        refine ax_get (ci := 1) (k := 0) (T := TX0) dX3_machineOfAct_41 (ch_I (by assumption)) rfl (by decide) fl_X3_218 rfl ?_
        refine ax_get (ci := 2) (k := 1) (T := TX1) dX3_machineOfAct_44 (ch_R (by first | assumption | exact ik.r hw (by assumption))) rfl (by decide) fl_X3_253 rfl ?_
        refine ax_aload_n dX3_machineOfAct_47 rfl ?_
        refine ax_V0 cv_X3_287 dX3_machineOfAct_48 (ch_T (by assumption)) rfl (ok_slot hw (by assumption)) (by decide) (Nat.le_refl _) (Nat.le_refl _) (Nat.le_of_ble_eq_true rfl) ?_
        refine cl_od dX3_machineOfAct_51 (by first | assumption | exact ik.r hw (by assumption)) (by omega) ?_
        refine ax_goto 63 dX3_machineOfAct_52 (by decide) ?_
        refine ax_iretD dX3_machineOfAct_63 rfl ⟨(Nat.le_refl _), (Nat.le_refl _)⟩ ?_ ?_
        · simp [cMa, c8, c19, c27, c37]
        · rfl
  · have c8 := of_decide_eq_true c8
    refine ax_bipush (-9) dX3_machineOfAct_11 (by decide) ?_
    refine ax_iretD dX3_machineOfAct_13 rfl ⟨(Nat.le_refl _), (Nat.le_refl _)⟩ ?_ ?_
    · simp [cMa, c8]
    · rfl
def cTk (κ : ax_R) (k s : Nat) : Bool := !decide (κ.2.2 9 (8 * κ.1 18 k + κ.1 19 k) = -9) || !decide (κ.1 8 (8 * (6 * κ.1 18 k + s) + κ.1 19 k) = κ.1 21 k)
theorem ok_isTaken (hw : kf κ) {k s : Nat} (hik : ik κ k) (hs : s < κ.1 5 (κ.1 18 k)) : ax_Ok mX3_isTakenOrChanged yX3_isTakenOrChanged 1 0 0 [ax_r (9, k), ax_i (nI (κ.1 6 (6 * κ.1 18 k + s) * 8 + κ.1 19 k))] (fh (ch κ) ρ) (ax_D (ax_i (ax_b (cTk κ k s))) (fh (ch κ) ρ)) := by
  refine ax_Ok.of (by decide) rfl (fun q => by cases q) (Nat.le_of_ble_eq_true rfl) rfl ?_
  refine ax_aload_n dX3_isTakenOrChanged_0 rfl ?_
  refine ax_get (ci := 1) (k := 0) (T := TX0) dX3_isTakenOrChanged_1 (ch_I (by assumption)) rfl (by decide) fl_X3_218 rfl ?_
  refine ax_get (ci := 2) (k := 6) (T := TX1) dX3_isTakenOrChanged_4 (ch_R (by first | assumption | exact ik.r hw (by assumption))) rfl (by decide) fl_X3_149 rfl ?_
  refine ax_aload_n dX3_isTakenOrChanged_7 rfl ?_
  refine ax_get (ci := 1) (k := 1) (T := TX0) dX3_isTakenOrChanged_8 (ch_I (by assumption)) rfl (by decide) fl_X3_222 rfl ?_
  refine cl_lk dX3_isTakenOrChanged_11 (by first | assumption | exact ik.r hw (by assumption)) (by first | omega | exact hw.o8 _) ?_
  refine ax_bipush (-9) dX3_isTakenOrChanged_12 (by decide) ?_
  refine ax_icmp_ne 33 dX3_isTakenOrChanged_14 (by decide) (fun c14 => ?_) (fun c14 => ?_)
  · refine ax_iconst (ax_b true) dX3_isTakenOrChanged_33 (by decide) ?_
    refine ax_goto 38 dX3_isTakenOrChanged_34 (by decide) ?_
    refine ax_bret dX3_isTakenOrChanged_38 rfl ⟨(Nat.le_refl _), (Nat.le_refl _)⟩ ?_ ?_
    · simp [cTk, c14]
    · rfl
  · refine ax_aload_n dX3_isTakenOrChanged_17 rfl ?_
    refine ax_get (ci := 1) (k := 0) (T := TX0) dX3_isTakenOrChanged_18 (ch_I (by assumption)) rfl (by decide) fl_X3_218 rfl ?_
    refine ax_get (ci := 2) (k := 5) (T := TX1) dX3_isTakenOrChanged_21 (ch_R (by first | assumption | exact ik.r hw (by assumption))) rfl (by decide) fl_X3_129 rfl ?_
    refine ax_iload_n dX3_isTakenOrChanged_24 rfl ?_
    refine cl_vn hw dX3_isTakenOrChanged_25 (by first | assumption | exact ik.r hw (by assumption)) ⟨hs, hw.o8 _⟩ ?_
    refine ax_aload_n dX3_isTakenOrChanged_26 rfl ?_
    refine ax_get (ci := 1) (k := 3) (T := TX0) dX3_isTakenOrChanged_27 (ch_I (by assumption)) rfl (by decide) fl_X3_223 rfl ?_
    refine ax_neq 37 dX3_isTakenOrChanged_30 (by decide) (n31 (hw.lt 8 _)) (n31 (hw.lt 21 _)) (fun c30 => ?_) (fun c30 => ?_)
    · refine ax_iconst (ax_b false) dX3_isTakenOrChanged_37 (by decide) ?_
      refine ax_bret dX3_isTakenOrChanged_38 rfl ⟨(Nat.le_refl _), (Nat.le_refl _)⟩ ?_ ?_
      · simp [cTk, c14, c30]
      · rfl
    · refine ax_iconst (ax_b true) dX3_isTakenOrChanged_33 (by decide) ?_
      refine ax_goto 38 dX3_isTakenOrChanged_34 (by decide) ?_
      refine ax_bret dX3_isTakenOrChanged_38 rfl ⟨(Nat.le_refl _), (Nat.le_refl _)⟩ ?_ ?_
      · simp [cTk, c14, c30]
      · rfl
theorem cW_le (hw : kf κ) (t : Nat) : rW κ t ≤ 8 := Nat.le_trans List.countP_le_length (by rw [rI, List.length_range']; exact hw.i8 t)
theorem ok_phaseBehind (hw : kf κ) {t : Nat} (ht : t < κ.1 10 0) (h16 : 1 ≤ κ.1 12 t ∧ κ.1 12 t ≤ 6) : ax_Ok mX3_phaseBehind yX3_phaseBehind 5 0 0 [ax_r (8, t)] (fh (ch κ) ρ) (ax_D (ax_i (nI (rPh (κ.1 12 t) (decide (rW κ t = 0))))) (fh (ch κ) ρ)) := by
  refine ax_Ok.of (by decide) rfl (fun q => by cases q) (Nat.le_of_ble_eq_true rfl) rfl ?_
  have hc : κ.1 12 t = 1 ∨ κ.1 12 t = 2 ∨ κ.1 12 t = 3 ∨ κ.1 12 t = 4 ∨ κ.1 12 t = 5 ∨ κ.1 12 t = 6 := by omega
  rcases hc with hph | hph | hph | hph | hph | hph
  · skip
    refine ax_aload_n dX3_phaseBehind_0 rfl ?_
    refine ax_get (ci := 3) (k := 3) (T := TX2) dX3_phaseBehind_1 (ch_T (by assumption)) rfl (by decide) fl_X3_83 rfl ?_
    · refine ax_tin 40 dX3_phaseBehind_4 (by rw [hph]; decide) (by rw [hph]; decide) (by rw [hph]; rfl) (by decide) ?_
      refine ax_iconst (nI 2) dX3_phaseBehind_40 (by decide) ?_
      refine ax_iretD dX3_phaseBehind_41 rfl ⟨(Nat.le_refl _), (Nat.le_refl _)⟩ ?_ ?_
      · first | (simp [rPh, hph]; done) | (simp [rPh, hph, ]; done)
      · rfl
  · skip
    refine ax_aload_n dX3_phaseBehind_0 rfl ?_
    refine ax_get (ci := 3) (k := 3) (T := TX2) dX3_phaseBehind_1 (ch_T (by assumption)) rfl (by decide) fl_X3_83 rfl ?_
    · refine ax_tin 42 dX3_phaseBehind_4 (by rw [hph]; decide) (by rw [hph]; decide) (by rw [hph]; rfl) (by decide) ?_
      refine ax_aload_n dX3_phaseBehind_42 rfl ?_
      refine ax_V0 cv_X3_187 dX3_phaseBehind_43 (ch_T (by assumption)) rfl (ok_writeCount hw (by assumption)) (by decide) (Nat.le_refl _) (Nat.le_refl _) (Nat.le_of_ble_eq_true rfl) ?_
      refine ax_zne 54 dX3_phaseBehind_46 (by decide) (by have := cW_le hw t; omega) (fun c46 => ?_) (fun c46 => ?_)
      · refine ax_iconst (nI 3) dX3_phaseBehind_54 (by decide) ?_
        refine ax_iretD dX3_phaseBehind_55 rfl ⟨(Nat.le_refl _), (Nat.le_refl _)⟩ ?_ ?_
        · first | (simp [rPh, hph]; done) | (simp [rPh, hph, c46]; done)
        · rfl
      · refine ax_bipush (nI 7) dX3_phaseBehind_49 (by decide) ?_
        refine ax_goto 55 dX3_phaseBehind_51 (by decide) ?_
        refine ax_iretD dX3_phaseBehind_55 rfl ⟨(Nat.le_refl _), (Nat.le_refl _)⟩ ?_ ?_
        · first | (simp [rPh, hph]; done) | (simp [rPh, hph, c46]; done)
        · rfl
  · skip
    refine ax_aload_n dX3_phaseBehind_0 rfl ?_
    refine ax_get (ci := 3) (k := 3) (T := TX2) dX3_phaseBehind_1 (ch_T (by assumption)) rfl (by decide) fl_X3_83 rfl ?_
    · refine ax_tin 56 dX3_phaseBehind_4 (by rw [hph]; decide) (by rw [hph]; decide) (by rw [hph]; rfl) (by decide) ?_
      refine ax_iconst (nI 4) dX3_phaseBehind_56 (by decide) ?_
      refine ax_iretD dX3_phaseBehind_57 rfl ⟨(Nat.le_refl _), (Nat.le_refl _)⟩ ?_ ?_
      · first | (simp [rPh, hph]; done) | (simp [rPh, hph, ]; done)
      · rfl
  · skip
    refine ax_aload_n dX3_phaseBehind_0 rfl ?_
    refine ax_get (ci := 3) (k := 3) (T := TX2) dX3_phaseBehind_1 (ch_T (by assumption)) rfl (by decide) fl_X3_83 rfl ?_
    · refine ax_tin 58 dX3_phaseBehind_4 (by rw [hph]; decide) (by rw [hph]; decide) (by rw [hph]; rfl) (by decide) ?_
      refine ax_iconst (nI 5) dX3_phaseBehind_58 (by decide) ?_
      refine ax_iretD dX3_phaseBehind_59 rfl ⟨(Nat.le_refl _), (Nat.le_refl _)⟩ ?_ ?_
      · first | (simp [rPh, hph]; done) | (simp [rPh, hph, ]; done)
      · rfl
  · skip
    refine ax_aload_n dX3_phaseBehind_0 rfl ?_
    refine ax_get (ci := 3) (k := 3) (T := TX2) dX3_phaseBehind_1 (ch_T (by assumption)) rfl (by decide) fl_X3_83 rfl ?_
    · refine ax_tin 60 dX3_phaseBehind_4 (by rw [hph]; decide) (by rw [hph]; decide) (by rw [hph]; rfl) (by decide) ?_
      refine ax_bipush (nI 7) dX3_phaseBehind_60 (by decide) ?_
      refine ax_iretD dX3_phaseBehind_62 rfl ⟨(Nat.le_refl _), (Nat.le_refl _)⟩ ?_ ?_
      · first | (simp [rPh, hph]; done) | (simp [rPh, hph, ]; done)
      · rfl
  · skip
    refine ax_aload_n dX3_phaseBehind_0 rfl ?_
    refine ax_get (ci := 3) (k := 3) (T := TX2) dX3_phaseBehind_1 (ch_T (by assumption)) rfl (by decide) fl_X3_83 rfl ?_
    · refine ax_tout 63 dX3_phaseBehind_4 (by rw [hph]; decide) (by decide) ?_
      refine ax_bipush (nI 8) dX3_phaseBehind_63 (by decide) ?_
      refine ax_iretD dX3_phaseBehind_65 rfl ⟨(Nat.le_refl _), (Nat.le_refl _)⟩ ?_ ?_
      · first | (simp [rPh, hph]; done) | (simp [rPh, hph, ]; done)
      · rfl
def cHa (κ : ax_R) (t k s : Nat) : Bool := match κ.1 12 t with
  | 1 => decide (s = 0) && κ.2.1 22 k
  | 2 => decide (s = 0) && !κ.2.1 22 k
  | 3 => κ.2.1 22 k && bk κ (κ.1 18 k) s
  | 4 => decide (s = 0) && κ.2.1 22 k
  | 5 => decide (s < κ.1 5 (κ.1 18 k)) && κ.2.1 41 (6 * k + s)
  | 6 => decide (s = 0) && decide (κ.2.2 9 (8 * κ.1 18 k + κ.1 19 k) = nI t)
  | _ => false
theorem ok_hasAct (hw : kf κ) {t k s : Nat} (ht : t < κ.1 10 0) (hik : ik κ k) (hs : s < 6) (h16 : 1 ≤ κ.1 12 t ∧ κ.1 12 t ≤ 6) : ax_Ok mX3_hasAct yX3_hasAct 3 0 0 [ax_r (1, 0), ax_r (8, t), ax_r (9, k), ax_i (nI s)] (fh (ch κ) ρ) (ax_D (ax_i (ax_b (cHa κ t k s))) (fh (ch κ) ρ)) := by
  refine ax_Ok.of (by decide) rfl (fun q => by cases q) (Nat.le_of_ble_eq_true rfl) rfl ?_
  have h5 := hw.c6 (κ.1 18 k)
  have hc : κ.1 12 t = 1 ∨ κ.1 12 t = 2 ∨ κ.1 12 t = 3 ∨ κ.1 12 t = 4 ∨ κ.1 12 t = 5 ∨ κ.1 12 t = 6 := by omega
  rcases hc with hph | hph | hph | hph | hph | hph
  · skip
    refine ax_aload_n dX3_hasAct_0 rfl ?_
    refine ax_get (ci := 3) (k := 3) (T := TX2) dX3_hasAct_1 (ch_T (by assumption)) rfl (by decide) fl_X3_83 rfl ?_
    · refine ax_tin 44 dX3_hasAct_4 (by rw [hph]; decide) (by rw [hph]; decide) (by rw [hph]; rfl) (by decide) ?_
      refine ax_iload_n dX3_hasAct_44 rfl ?_
      refine ax_zne 59 dX3_hasAct_45 (by decide) (by omega) (fun c45 => ?_) (fun c45 => ?_)
      · refine ax_iconst (ax_b false) dX3_hasAct_59 (by decide) ?_
        refine ax_bret dX3_hasAct_60 rfl ⟨(Nat.le_refl _), (Nat.le_refl _)⟩ ?_ ?_
        · simp [cHa, hph, c45]
        · rfl
      · refine ax_aload_n dX3_hasAct_48 rfl ?_
        refine ax_get (ci := 1) (k := 4) (T := TX0) dX3_hasAct_49 (ch_I (by assumption)) rfl (by decide) fl_X3_172 rfl ?_
        refine ax_beq 59 dX3_hasAct_52 (by decide) (fun c52 => ?_) (fun c52 => ?_)
        · refine ax_iconst (ax_b false) dX3_hasAct_59 (by decide) ?_
          refine ax_bret dX3_hasAct_60 rfl ⟨(Nat.le_refl _), (Nat.le_refl _)⟩ ?_ ?_
          · simp [cHa, hph, c45, c52]
          · rfl
        · refine ax_iconst (ax_b true) dX3_hasAct_55 (by decide) ?_
          refine ax_goto 60 dX3_hasAct_56 (by decide) ?_
          refine ax_bret dX3_hasAct_60 rfl ⟨(Nat.le_refl _), (Nat.le_refl _)⟩ ?_ ?_
          · simp [cHa, hph, c45, c52]
          · rfl
  · skip
    refine ax_aload_n dX3_hasAct_0 rfl ?_
    refine ax_get (ci := 3) (k := 3) (T := TX2) dX3_hasAct_1 (ch_T (by assumption)) rfl (by decide) fl_X3_83 rfl ?_
    · refine ax_tin 61 dX3_hasAct_4 (by rw [hph]; decide) (by rw [hph]; decide) (by rw [hph]; rfl) (by decide) ?_
      refine ax_iload_n dX3_hasAct_61 rfl ?_
      refine ax_zne 76 dX3_hasAct_62 (by decide) (by omega) (fun c62 => ?_) (fun c62 => ?_)
      · refine ax_iconst (ax_b false) dX3_hasAct_76 (by decide) ?_
        refine ax_bret dX3_hasAct_77 rfl ⟨(Nat.le_refl _), (Nat.le_refl _)⟩ ?_ ?_
        · simp [cHa, hph, c62]
        · rfl
      · refine ax_aload_n dX3_hasAct_65 rfl ?_
        refine ax_get (ci := 1) (k := 4) (T := TX0) dX3_hasAct_66 (ch_I (by assumption)) rfl (by decide) fl_X3_172 rfl ?_
        refine ax_bne 76 dX3_hasAct_69 (by decide) (fun c69 => ?_) (fun c69 => ?_)
        · refine ax_iconst (ax_b false) dX3_hasAct_76 (by decide) ?_
          refine ax_bret dX3_hasAct_77 rfl ⟨(Nat.le_refl _), (Nat.le_refl _)⟩ ?_ ?_
          · simp [cHa, hph, c62, c69]
          · rfl
        · refine ax_iconst (ax_b true) dX3_hasAct_72 (by decide) ?_
          refine ax_goto 77 dX3_hasAct_73 (by decide) ?_
          refine ax_bret dX3_hasAct_77 rfl ⟨(Nat.le_refl _), (Nat.le_refl _)⟩ ?_ ?_
          · simp [cHa, hph, c62, c69]
          · rfl
  · skip
    refine ax_aload_n dX3_hasAct_0 rfl ?_
    refine ax_get (ci := 3) (k := 3) (T := TX2) dX3_hasAct_1 (ch_T (by assumption)) rfl (by decide) fl_X3_83 rfl ?_
    · refine ax_tin 99 dX3_hasAct_4 (by rw [hph]; decide) (by rw [hph]; decide) (by rw [hph]; rfl) (by decide) ?_
      refine ax_aload_n dX3_hasAct_99 rfl ?_
      refine ax_get (ci := 1) (k := 4) (T := TX0) dX3_hasAct_100 (ch_I (by assumption)) rfl (by decide) fl_X3_172 rfl ?_
      refine ax_beq 122 dX3_hasAct_103 (by decide) (fun c103 => ?_) (fun c103 => ?_)
      · refine ax_iconst (ax_b false) dX3_hasAct_122 (by decide) ?_
        refine ax_bret dX3_hasAct_123 rfl ⟨(Nat.le_refl _), (Nat.le_refl _)⟩ ?_ ?_
        · simp [cHa, hph, c103]
        · rfl
      · refine ax_aload_n dX3_hasAct_106 rfl ?_
        refine ax_aload_n dX3_hasAct_107 rfl ?_
        refine ax_get (ci := 1) (k := 0) (T := TX0) dX3_hasAct_108 (ch_I (by assumption)) rfl (by decide) fl_X3_218 rfl ?_
        refine ax_iload_n dX3_hasAct_111 rfl ?_
        refine ax_V2 cv_X3_322 dX3_hasAct_112 ch_O rfl (ok_isBackup hw (by first | assumption | exact ik.r hw (by assumption)) (by omega)) (by decide) (Nat.le_refl _) (Nat.le_refl _) (Nat.le_of_ble_eq_true rfl) ?_
        refine ax_beq 122 dX3_hasAct_115 (by decide) (fun c115 => ?_) (fun c115 => ?_)
        · refine ax_iconst (ax_b false) dX3_hasAct_122 (by decide) ?_
          refine ax_bret dX3_hasAct_123 rfl ⟨(Nat.le_refl _), (Nat.le_refl _)⟩ ?_ ?_
          · simp [cHa, hph, c103, c115]
          · rfl
        · refine ax_iconst (ax_b true) dX3_hasAct_118 (by decide) ?_
          refine ax_goto 123 dX3_hasAct_119 (by decide) ?_
          refine ax_bret dX3_hasAct_123 rfl ⟨(Nat.le_refl _), (Nat.le_refl _)⟩ ?_ ?_
          · simp [cHa, hph, c103, c115]
          · rfl
  · skip
    refine ax_aload_n dX3_hasAct_0 rfl ?_
    refine ax_get (ci := 3) (k := 3) (T := TX2) dX3_hasAct_1 (ch_T (by assumption)) rfl (by decide) fl_X3_83 rfl ?_
    · refine ax_tin 44 dX3_hasAct_4 (by rw [hph]; decide) (by rw [hph]; decide) (by rw [hph]; rfl) (by decide) ?_
      refine ax_iload_n dX3_hasAct_44 rfl ?_
      refine ax_zne 59 dX3_hasAct_45 (by decide) (by omega) (fun c45 => ?_) (fun c45 => ?_)
      · refine ax_iconst (ax_b false) dX3_hasAct_59 (by decide) ?_
        refine ax_bret dX3_hasAct_60 rfl ⟨(Nat.le_refl _), (Nat.le_refl _)⟩ ?_ ?_
        · simp [cHa, hph, c45]
        · rfl
      · refine ax_aload_n dX3_hasAct_48 rfl ?_
        refine ax_get (ci := 1) (k := 4) (T := TX0) dX3_hasAct_49 (ch_I (by assumption)) rfl (by decide) fl_X3_172 rfl ?_
        refine ax_beq 59 dX3_hasAct_52 (by decide) (fun c52 => ?_) (fun c52 => ?_)
        · refine ax_iconst (ax_b false) dX3_hasAct_59 (by decide) ?_
          refine ax_bret dX3_hasAct_60 rfl ⟨(Nat.le_refl _), (Nat.le_refl _)⟩ ?_ ?_
          · simp [cHa, hph, c45, c52]
          · rfl
        · refine ax_iconst (ax_b true) dX3_hasAct_55 (by decide) ?_
          refine ax_goto 60 dX3_hasAct_56 (by decide) ?_
          refine ax_bret dX3_hasAct_60 rfl ⟨(Nat.le_refl _), (Nat.le_refl _)⟩ ?_ ?_
          · simp [cHa, hph, c45, c52]
          · rfl
  · skip
    refine ax_aload_n dX3_hasAct_0 rfl ?_
    refine ax_get (ci := 3) (k := 3) (T := TX2) dX3_hasAct_1 (ch_T (by assumption)) rfl (by decide) fl_X3_83 rfl ?_
    · refine ax_tin 124 dX3_hasAct_4 (by rw [hph]; decide) (by rw [hph]; decide) (by rw [hph]; rfl) (by decide) ?_
      refine ax_iload_n dX3_hasAct_124 rfl ?_
      refine ax_aload_n dX3_hasAct_125 rfl ?_
      refine ax_get (ci := 1) (k := 0) (T := TX0) dX3_hasAct_126 (ch_I (by assumption)) rfl (by decide) fl_X3_218 rfl ?_
      refine ax_get (ci := 2) (k := 2) (T := TX1) dX3_hasAct_129 (ch_R (by first | assumption | exact ik.r hw (by assumption))) rfl (by decide) fl_X3_250 rfl ?_
      refine ax_nge 158 dX3_hasAct_132 (by decide) (by omega) (by omega) (fun c132 => ?_) (fun c132 => ?_)
      · refine ax_iconst (ax_b false) dX3_hasAct_158 (by decide) ?_
        refine ax_bret dX3_hasAct_159 rfl ⟨(Nat.le_refl _), (Nat.le_refl _)⟩ ?_ ?_
        · simp [cHa, hph, c132, Nat.not_lt.mpr c132]
        · rfl
      · refine ax_aload_n dX3_hasAct_135 rfl ?_
        refine ax_get (ci := 1) (k := 6) (T := TX0) dX3_hasAct_136 (ch_I (by assumption)) rfl (by decide) fl_X3_267 rfl ?_
        refine ax_aload_n dX3_hasAct_139 rfl ?_
        refine ax_get (ci := 1) (k := 0) (T := TX0) dX3_hasAct_140 (ch_I (by assumption)) rfl (by decide) fl_X3_218 rfl ?_
        refine ax_get (ci := 2) (k := 1) (T := TX1) dX3_hasAct_143 (ch_R (by first | assumption | exact ik.r hw (by assumption))) rfl (by decide) fl_X3_253 rfl ?_
        refine ax_iload_n dX3_hasAct_146 rfl ?_
        refine cl_od dX3_hasAct_147 (by first | assumption | exact ik.r hw (by assumption)) (by omega) ?_
        refine ax_S2 cs_X3_111 dX3_hasAct_148 (ok_holds (by first | omega | exact hw.m6 _ | exact hw.co6 _)) (by decide) (Nat.le_refl _) (Nat.le_refl _) (Nat.le_of_ble_eq_true rfl) ?_
        refine ax_beq 158 dX3_hasAct_151 (by decide) (fun c151 => ?_) (fun c151 => ?_)
        · rw [pm_at hw c132] at c151
          refine ax_iconst (ax_b false) dX3_hasAct_158 (by decide) ?_
          refine ax_bret dX3_hasAct_159 rfl ⟨(Nat.le_refl _), (Nat.le_refl _)⟩ ?_ ?_
          · simp [cHa, hph, c132, Nat.not_le.mpr c132, c151]
          · rfl
        · rw [pm_at hw c132] at c151
          refine ax_iconst (ax_b true) dX3_hasAct_154 (by decide) ?_
          refine ax_goto 159 dX3_hasAct_155 (by decide) ?_
          refine ax_bret dX3_hasAct_159 rfl ⟨(Nat.le_refl _), (Nat.le_refl _)⟩ ?_ ?_
          · simp [cHa, hph, c132, Nat.not_le.mpr c132, c151]
          · rfl
  · skip
    refine ax_aload_n dX3_hasAct_0 rfl ?_
    refine ax_get (ci := 3) (k := 3) (T := TX2) dX3_hasAct_1 (ch_T (by assumption)) rfl (by decide) fl_X3_83 rfl ?_
    · refine ax_tin 78 dX3_hasAct_4 (by rw [hph]; decide) (by rw [hph]; decide) (by rw [hph]; rfl) (by decide) ?_
      refine ax_iload_n dX3_hasAct_78 rfl ?_
      refine ax_zne 97 dX3_hasAct_79 (by decide) (by omega) (fun c79 => ?_) (fun c79 => ?_)
      · refine ax_iconst (ax_b false) dX3_hasAct_97 (by decide) ?_
        refine ax_bret dX3_hasAct_98 rfl ⟨(Nat.le_refl _), (Nat.le_refl _)⟩ ?_ ?_
        · simp [cHa, hph, c79]
        · rfl
      · refine ax_aload_n dX3_hasAct_82 rfl ?_
        refine ax_aload_n dX3_hasAct_83 rfl ?_
        refine ax_get (ci := 3) (k := 0) (T := TX2) dX3_hasAct_84 (ch_T (by assumption)) rfl (by decide) fl_X3_159 rfl ?_
        refine ax_V1 cv_X3_319 dX3_hasAct_87 (ch_I (by assumption)) rfl (ok_isLockedBy hw (by assumption)) (by decide) (Nat.le_refl _) (Nat.le_refl _) (Nat.le_of_ble_eq_true rfl) ?_
        refine ax_beq 97 dX3_hasAct_90 (by decide) (fun c90 => ?_) (fun c90 => ?_)
        · refine ax_iconst (ax_b false) dX3_hasAct_97 (by decide) ?_
          refine ax_bret dX3_hasAct_98 rfl ⟨(Nat.le_refl _), (Nat.le_refl _)⟩ ?_ ?_
          · simp [cHa, hph, c79, c90]
          · rfl
        · refine ax_iconst (ax_b true) dX3_hasAct_93 (by decide) ?_
          refine ax_goto 98 dX3_hasAct_94 (by decide) ?_
          refine ax_bret dX3_hasAct_98 rfl ⟨(Nat.le_refl _), (Nat.le_refl _)⟩ ?_ ?_
          · simp [cHa, hph, c79, c90]
          · rfl
end CLS3
