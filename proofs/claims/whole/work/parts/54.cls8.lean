section CLS8
variable {κ ρ : ax_R}
theorem pl_add (hw : kf κ) {t : Nat} (ht : t < κ.1 10 0) (hP : κ.1 17 0 < 60) : ax_Ok mJx4a65c_add_9ea2d yJx4a65c_add_9ea2d 7 1 73 [ax_r (12, 0), ax_r (8, t)] (fh (ch κ) ρ) (ax_D (ax_i (ax_b true)) (fh (ch (cPl κ t)) ρ)) := by
  have := ok_addL (h := fh (ch κ) ρ) (U := (12, 0)) (w := (8, t)) (A := 17) (n := κ.1 17 0) (g := fun j => (8, κ.1 47 j)) rfl (fun v hv => by
      show (if v < 6 ∧ lov v < κ.1 17 0 then _ else _) = _
      by_cases q : lov v < κ.1 17 0
      · rw [if_pos ⟨hv, q⟩, if_pos q]
      · rw [if_neg (fun z => q z.2), if_neg q]) hP (fun j hj => ⟨3, fT κ (κ.1 47 j), RX2, TX2, 7, ch_T (hw.bp j hj), rfl, ca_T⟩) (ch_T ht) rfl ca_T (by decide) (by show 17 ≠ 12; decide) (by show 8 ≠ 17; decide) (by simp)
  have lv := lv_ok (n := κ.1 17 0 + 1) (by omega) (by omega)
  refine cast (congrArg (fun h2 => ax_Ok mJx4a65c_add_9ea2d yJx4a65c_add_9ea2d 7 1 73 [ax_r (12, 0), ax_r (8, t)] (fh (ch κ) ρ) (ax_D (ax_i (ax_b true)) h2)) (eqx_e (eqx_s ?_ (eqx_s ?_ (fun u hu => fh_eq (ch_pl hP u (fun z => hu ?_))))))) this
  · rw [ch_lP, pl_17, if_neg (by omega)]
  · rw [ch_eP lv.1 (by rw [pl_17]; exact lv.2.1), pl_17]
    refine congrArg (fun f => some (ax_aq _ f)) ?_
    funext j
    split
    · rw [pl_47]
      by_cases q : j = κ.1 17 0
      · rw [if_pos q, if_pos q]
      · rw [if_neg q, if_neg q]
    · rfl
  · simp only [List.mem_cons, List.not_mem_nil, or_false] at z ⊢
    rcases z with z | z <;> simp [z]
/-- a transaction's place is told -/
def cTp (κ : ax_R) (t : Nat) : ax_R := nu (cPl κ t) 16 t (κ.1 17 0 + 1)
theorem kf_tp (hw : kf κ) {t : Nat} (ht : t < κ.1 10 0) (hP : κ.1 17 0 < 60) : kf (cTp κ t) := kf_pl (kf_pla hw ht hP) (by rw [pl_n (by decide)]; exact ht) (by omega)
theorem ok_tellPlace (hw : kf κ) {t : Nat} (ht : t < κ.1 10 0) (hP : κ.1 17 0 < 60) : ax_Ok mX3_tellPlace yX3_tellPlace 8 1 73 [ax_r (1, 0), ax_r (8, t)] (fh (ch κ) ρ) (ax_DV (fh (ch (cTp κ t)) ρ)) := by
  refine ax_Ok.of (by decide) rfl (fun q => by cases q) (Nat.le_of_ble_eq_true rfl) rfl ?_
  refine ax_aload_n dX3_tellPlace_0 rfl ?_
  refine ax_get (ci := 4) (k := 2) (T := TX3) dX3_tellPlace_1 ch_O rfl (by decide) fl_X3_19 rfl ?_
  refine ax_aload_n dX3_tellPlace_4 rfl ?_
  refine ax_V1 cv_X3_58 dX3_tellPlace_5 ch_lP rfl (pl_add hw ht hP) (by decide) (Nat.le_refl _) (Nat.le_refl _) (Nat.le_of_ble_eq_true rfl) ?_
  have ht2 : t < (cPl κ t).1 10 0 := by rw [pl_n (by decide)]; exact ht
  refine ax_pop dX3_tellPlace_8 rfl ?_
  refine ax_aload_n dX3_tellPlace_9 rfl ?_
  refine ax_aload_n dX3_tellPlace_10 rfl ?_
  refine ax_get (ci := 4) (k := 2) (T := TX3) dX3_tellPlace_11 ch_O rfl (by decide) fl_X3_19 rfl ?_
  refine ax_V0 cv_X3_46 dX3_tellPlace_14 ch_lP rfl (ok_szP) (by decide) (Nat.le_refl _) (Nat.le_refl _) (Nat.le_of_ble_eq_true rfl) ?_
  rw [pl_17]
  refine ax_put (ci := 3) (k := 5) (T := TX2) (ty := .int) dX3_tellPlace_17 (ch_T ht2) rfl (by decide) (Nat.le_of_ble_eq_true rfl) fl_X3_211 rfl (by decide +kernel) (fun _ => rfl) (fun _ => rfl) (cu_pl ht2) ?_
  refine ax_vretD dX3_tellPlace_20 rfl ⟨(Nat.le_refl _), (Nat.le_refl _)⟩ ?_
  rfl
def cSt2 (κ : ax_R) (t : Nat) : ax_R := if κ.1 12 t = 1 then cTp (nu κ 44 t (κ.1 14 t * 6)) t else nu κ 44 t (κ.1 14 t * 6)
def cSt1 (κ : ax_R) (t : Nat) : ax_R := nu (nu (cSt2 κ t) 12 t (rPh ((cSt2 κ t).1 12 t) (decide (rW (cSt2 κ t) t = 0)))) 44 t 0
theorem e12s {S : ax_R} {t q : Nat} : (nu (nu S 12 t q) 44 t 0).1 12 t = q := by simp [nu]
def cPo : Nat → ax_R → Nat → ax_R
  | 0, κ, _ => κ
  | n + 1, κ, t => if rAc κ t = false then κ else match cNx κ t with
    | some j => nu κ 44 t j
    | none => cPo n (cSt1 κ t) t
theorem cNx_lt {t j : Nat} (h : cNx κ t = some j) : κ.1 44 t ≤ j ∧ j < κ.1 14 t * 6 ∧ cNp κ t j = true := by
  have h1 := List.mem_range'_1.mp (List.mem_of_find?_eq_some h)
  exact ⟨h1.1, by omega, List.find?_some h⟩
theorem rPh_le {p : Nat} {w : Bool} (h : 1 ≤ p ∧ p ≤ 6) : 2 ≤ rPh p w ∧ rPh p w ≤ 8 := by
  unfold rPh
  split
  · omega
  · split
    · omega
    · omega
theorem ok_fnS (hw : kf κ) {t j : Nat} (ht : t < κ.1 10 0) (h16 : 1 ≤ κ.1 12 t ∧ κ.1 12 t ≤ 6) (hc : κ.1 44 t ≤ κ.1 14 t * 6) (hj : cNx κ t = some j) : ax_Ok mX3_findNextAct yX3_findNextAct 5 0 0 [ax_r (1, 0), ax_r (8, t)] (fh (ch κ) ρ) (ax_D (ax_i (ax_b true)) (fh (ch (nu κ 44 t j)) ρ)) := by
  have := ok_findNextAct (ρ := ρ) hw ht h16 hc
  rw [hj] at this
  exact this
theorem ok_fnN (hw : kf κ) {t : Nat} (ht : t < κ.1 10 0) (h16 : 1 ≤ κ.1 12 t ∧ κ.1 12 t ≤ 6) (hc : κ.1 44 t ≤ κ.1 14 t * 6) (hj : cNx κ t = none) : ax_Ok mX3_findNextAct yX3_findNextAct 5 0 0 [ax_r (1, 0), ax_r (8, t)] (fh (ch κ) ρ) (ax_D (ax_i (ax_b false)) (fh (ch (nu κ 44 t (κ.1 14 t * 6))) ρ)) := by
  have := ok_findNextAct (ρ := ρ) hw ht h16 hc
  rw [hj] at this
  exact this
theorem rAc_16 {t : Nat} (h : rAc κ t = true) : 1 ≤ κ.1 12 t ∧ κ.1 12 t ≤ 6 := by
  simpa only [rAc, Bool.and_eq_true, decide_eq_true_eq] using h
theorem lp_po {t : Nat} : ∀ (m : Nat) (κ : ax_R) (n uc us : Nat) (V : ax_R), kf κ → t < κ.1 10 0 → κ.1 44 t ≤ κ.1 14 t * 6 → (κ.1 12 t = 1 → κ.1 17 0 < 60 ∧ uc = 0 ∧ us = 0) → uc ≤ 1 → us ≤ 73 → n + m = 9 → cPo m κ t = V → ax_Z mX3_passOver 9 1 73 (ax_DV (fh (ch V) ρ)) 2 [some (ax_r (1, 0)), some (ax_r (8, t)), some (ax_i (nI n))] [] (fh (ch κ) ρ) uc us := by
  intro m
  induction m with
  | zero =>
    intro κ n uc us V hw ht hc h1 hu hs hk hV
    refine ax_iload_n dX3_passOver_2 rfl ?_
    refine ax_bipush (nI 9) dX3_passOver_3 (by decide) ?_
    refine ax_nge 50 dX3_passOver_5 (by decide) (by omega) (by omega) (fun c5 => ?_) (fun c5 => absurd c5 (by omega))
    refine ax_vretD dX3_passOver_50 rfl ⟨(by omega), (by omega)⟩ ?_
    rw [← hV]; rfl
  | succ m ih =>
    intro κ n uc us V hw ht hc h1 hu hs hk hV
    have h8 := hw.i8 t
    cases hac : rAc κ t with
    | false =>
      have hV : κ = V := by rw [← hV, cPo, if_pos hac]
      refine ax_iload_n dX3_passOver_2 rfl ?_
      refine ax_bipush (nI 9) dX3_passOver_3 (by decide) ?_
      refine ax_nge 50 dX3_passOver_5 (by decide) (by omega) (by omega) (fun c5 => absurd c5 (by omega)) (fun c5 => ?_)
      refine ax_aload_n dX3_passOver_8 rfl ?_
      refine ax_V0 cv_X3_201 dX3_passOver_9 (ch_T (by assumption)) rfl (ok_isUnderWay hw (by assumption)) (by decide) (by omega) (by omega) (Nat.le_of_ble_eq_true rfl) ?_
      refine ax_beq 50 dX3_passOver_12 (by decide) (fun c12 => ?_) (fun c12 => absurd c12 (by rw [hac]; simp))
      refine ax_vretD dX3_passOver_50 rfl ⟨(by omega), (by omega)⟩ ?_
      rw [hV]
    | true =>
      have h16 := rAc_16 hac
      cases hj : cNx κ t with
      | some j =>
        have hV : nu κ 44 t j = V := by rw [← hV, cPo, if_neg (by simp [hac]), hj]
        refine ax_iload_n dX3_passOver_2 rfl ?_
        refine ax_bipush (nI 9) dX3_passOver_3 (by decide) ?_
        refine ax_nge 50 dX3_passOver_5 (by decide) (by omega) (by omega) (fun c5 => absurd c5 (by omega)) (fun c5 => ?_)
        refine ax_aload_n dX3_passOver_8 rfl ?_
        refine ax_V0 cv_X3_201 dX3_passOver_9 (ch_T (by assumption)) rfl (ok_isUnderWay hw (by assumption)) (by decide) (by omega) (by omega) (Nat.le_of_ble_eq_true rfl) ?_
        refine ax_beq 50 dX3_passOver_12 (by decide) (fun c12 => absurd c12 (by rw [hac]; simp)) (fun c12 => ?_)
        refine ax_aload_n dX3_passOver_15 rfl ?_
        refine ax_aload_n dX3_passOver_16 rfl ?_
        refine ax_V1 cv_X3_303 dX3_passOver_17 ch_O rfl (ok_fnS hw ht h16 hc hj) (by decide) (by omega) (by omega) (Nat.le_of_ble_eq_true rfl) ?_
        refine ax_bne 50 dX3_passOver_20 (by decide) (fun c20 => ?_) (fun c20 => absurd c20 (by simp))
        refine ax_vretD dX3_passOver_50 rfl ⟨(by omega), (by omega)⟩ ?_
        rw [hV]
      | none =>
        have hV : cPo m (cSt1 κ t) t = V := by rw [← hV, cPo, if_neg (by simp [hac]), hj]
        have hwj := kf_cu (p := κ.1 14 t * 6) hw ht (by omega)
        by_cases hp1 : κ.1 12 t = 1
        · obtain ⟨hP, rfl, rfl⟩ := h1 hp1
          have hw2 : kf (cTp (nu κ 44 t (κ.1 14 t * 6)) t) := kf_tp hwj ht hP
          have ht2 : t < (cTp (nu κ 44 t (κ.1 14 t * 6)) t).1 10 0 := by show t < (nu (cPl _ t) 16 t _).1 10 0; simp [nu, cPl]; exact ht
          have e12 : (cTp (nu κ 44 t (κ.1 14 t * 6)) t).1 12 t = 1 := by simp [cTp, cPl, nu, hp1]
          have e14 : (cTp (nu κ 44 t (κ.1 14 t * 6)) t).1 14 t = κ.1 14 t := by simp [cTp, cPl, nu]
          have hq := rPh_le (p := (cTp (nu κ 44 t (κ.1 14 t * 6)) t).1 12 t) (w := decide (rW (cTp (nu κ 44 t (κ.1 14 t * 6)) t) t = 0)) (by omega)
          refine ax_iload_n dX3_passOver_2 rfl ?_
          refine ax_bipush (nI 9) dX3_passOver_3 (by decide) ?_
          refine ax_nge 50 dX3_passOver_5 (by decide) (by omega) (by omega) (fun c5 => absurd c5 (by omega)) (fun c5 => ?_)
          refine ax_aload_n dX3_passOver_8 rfl ?_
          refine ax_V0 cv_X3_201 dX3_passOver_9 (ch_T (by assumption)) rfl (ok_isUnderWay hw (by assumption)) (by decide) (by omega) (by omega) (Nat.le_of_ble_eq_true rfl) ?_
          refine ax_beq 50 dX3_passOver_12 (by decide) (fun c12 => absurd c12 (by rw [hac]; simp)) (fun c12 => ?_)
          refine ax_aload_n dX3_passOver_15 rfl ?_
          refine ax_aload_n dX3_passOver_16 rfl ?_
          refine ax_V1 cv_X3_303 dX3_passOver_17 ch_O rfl (ok_fnN hw ht h16 hc hj) (by decide) (by omega) (by omega) (Nat.le_of_ble_eq_true rfl) ?_
          refine ax_bne 50 dX3_passOver_20 (by decide) (fun c20 => absurd c20 (by simp)) (fun c20 => ?_)
          refine ax_aload_n dX3_passOver_23 rfl ?_
          refine ax_get (ci := 3) (k := 3) (T := TX2) dX3_passOver_24 (ch_T (κ := nu κ 44 t (κ.1 14 t * 6)) ht) rfl (by decide) fl_X3_83 rfl ?_
          refine ax_iconst (nI 1) dX3_passOver_27 (by decide) ?_
          refine ax_nne 36 dX3_passOver_28 (by decide) (by show κ.1 12 t < _; omega) (by omega) (fun c28 => absurd c28 (fun z => z hp1)) (fun c28 => ?_)
          refine ax_aload_n dX3_passOver_31 rfl ?_
          refine ax_aload_n dX3_passOver_32 rfl ?_
          refine ax_V1v cv_X3_306 dX3_passOver_33 ch_O rfl (ok_tellPlace hwj ht hP) (by decide) (by omega) (by omega) (Nat.le_of_ble_eq_true rfl) ?_
          refine ax_aload_n dX3_passOver_36 rfl ?_
          refine ax_aload_n dX3_passOver_37 rfl ?_
          refine ax_S1 cs_X3_309 dX3_passOver_38 (ok_phaseBehind hw2 ht2 (by omega)) (by decide) (by omega) (by omega) (Nat.le_of_ble_eq_true rfl) ?_
          refine ax_V1v cv_X3_89 dX3_passOver_41 (ch_T ht2) rfl (ok_enter ht2) (by decide) (by omega) (by omega) (Nat.le_of_ble_eq_true rfl) ?_
          refine ax_iincn (n := 1) dX3_passOver_44 rfl (by decide) rfl ?_
          refine ax_goto 2 dX3_passOver_47 (by decide) ?_
          refine ih (nu (nu (cTp (nu κ 44 t (κ.1 14 t * 6)) t) 12 t (rPh ((cTp (nu κ 44 t (κ.1 14 t * 6)) t).1 12 t) (decide (rW (cTp (nu κ 44 t (κ.1 14 t * 6)) t) t = 0)))) 44 t 0) (n + 1) _ _ V (kf_cu (kf_ph hw2 ht2 hq.2) ht2 (by omega)) ht2 ?_ ?_ (by omega) (by omega) (by omega) ?_
          · simp [nu]
          · intro z; rw [e12s] at z; omega
          · rw [← hV, cSt1, cSt2, if_pos hp1]
        · have hw2 := hwj
          have ht2 : t < (nu κ 44 t (κ.1 14 t * 6)).1 10 0 := ht
          have hq := rPh_le (p := (nu κ 44 t (κ.1 14 t * 6)).1 12 t) (w := decide (rW (nu κ 44 t (κ.1 14 t * 6)) t = 0)) h16
          refine ax_iload_n dX3_passOver_2 rfl ?_
          refine ax_bipush (nI 9) dX3_passOver_3 (by decide) ?_
          refine ax_nge 50 dX3_passOver_5 (by decide) (by omega) (by omega) (fun c5 => absurd c5 (by omega)) (fun c5 => ?_)
          refine ax_aload_n dX3_passOver_8 rfl ?_
          refine ax_V0 cv_X3_201 dX3_passOver_9 (ch_T (by assumption)) rfl (ok_isUnderWay hw (by assumption)) (by decide) (by omega) (by omega) (Nat.le_of_ble_eq_true rfl) ?_
          refine ax_beq 50 dX3_passOver_12 (by decide) (fun c12 => absurd c12 (by rw [hac]; simp)) (fun c12 => ?_)
          refine ax_aload_n dX3_passOver_15 rfl ?_
          refine ax_aload_n dX3_passOver_16 rfl ?_
          refine ax_V1 cv_X3_303 dX3_passOver_17 ch_O rfl (ok_fnN hw ht h16 hc hj) (by decide) (by omega) (by omega) (Nat.le_of_ble_eq_true rfl) ?_
          refine ax_bne 50 dX3_passOver_20 (by decide) (fun c20 => absurd c20 (by simp)) (fun c20 => ?_)
          refine ax_aload_n dX3_passOver_23 rfl ?_
          refine ax_get (ci := 3) (k := 3) (T := TX2) dX3_passOver_24 (ch_T (κ := nu κ 44 t (κ.1 14 t * 6)) ht) rfl (by decide) fl_X3_83 rfl ?_
          refine ax_iconst (nI 1) dX3_passOver_27 (by decide) ?_
          refine ax_nne 36 dX3_passOver_28 (by decide) (by show κ.1 12 t < _; omega) (by omega) (fun c28 => ?_) (fun c28 => absurd c28 (fun z => hp1 z))
          refine ax_aload_n dX3_passOver_36 rfl ?_
          refine ax_aload_n dX3_passOver_37 rfl ?_
          refine ax_S1 cs_X3_309 dX3_passOver_38 (ok_phaseBehind hw2 ht2 h16) (by decide) (by omega) (by omega) (Nat.le_of_ble_eq_true rfl) ?_
          refine ax_V1v cv_X3_89 dX3_passOver_41 (ch_T ht2) rfl (ok_enter ht2) (by decide) (by omega) (by omega) (Nat.le_of_ble_eq_true rfl) ?_
          refine ax_iincn (n := 1) dX3_passOver_44 rfl (by decide) rfl ?_
          refine ax_goto 2 dX3_passOver_47 (by decide) ?_
          refine ih (nu (nu (nu κ 44 t (κ.1 14 t * 6)) 12 t (rPh ((nu κ 44 t (κ.1 14 t * 6)).1 12 t) (decide (rW (nu κ 44 t (κ.1 14 t * 6)) t = 0)))) 44 t 0) (n + 1) _ _ V (kf_cu (kf_ph hw2 ht2 hq.2) ht2 (by omega)) ht2 ?_ ?_ (by omega) (by omega) (by omega) ?_
          · simp [nu]
          · intro z; rw [e12s] at z; omega
          · rw [← hV, cSt1, cSt2, if_neg hp1]
theorem ok_passOver (hw : kf κ) {t : Nat} (ht : t < κ.1 10 0) (hc : κ.1 44 t ≤ κ.1 14 t * 6) (h1 : κ.1 12 t = 1 → κ.1 17 0 < 60) : ax_Ok mX3_passOver yX3_passOver 9 1 73 [ax_r (1, 0), ax_r (8, t)] (fh (ch κ) ρ) (ax_DV (fh (ch (cPo 9 κ t)) ρ)) := by
  refine ax_Ok.of (by decide) rfl (fun q => by cases q) (Nat.le_of_ble_eq_true rfl) rfl ?_
  refine ax_iconst (nI 0) dX3_passOver_0 (by decide) ?_
  refine ax_istore_n dX3_passOver_1 rfl (by decide) ?_
  exact lp_po 9 κ 0 0 0 _ hw ht hc (fun z => ⟨h1 z, rfl, rfl⟩) (by decide) (by decide) rfl rfl
def cCm0 (κ : ax_R) (t : Nat) : ax_R := cPo 9 (nu (nu κ 12 t 1) 44 t 0) t
def cCm (κ : ax_R) (t : Nat) : Int32 × ax_R := if cEn κ t = 0 then (nI ((cCm0 κ t).1 12 t), cCm0 κ t) else (cEn κ t, κ)
theorem po_inv {t : Nat} : ∀ (n : Nat) (κ : ax_R), (cPo n κ t).1 10 0 = κ.1 10 0
  | 0, _ => rfl
  | n + 1, κ => by
    unfold cPo
    split
    · rfl
    · split
      · rfl
      · rw [po_inv n]
        unfold cSt1 cSt2
        split <;> simp [nu, cTp, cPl]
theorem ok_ccommit0 {x : Int32} (hx : ¬ (0 ≤ x ∧ x < nI (κ.1 10 0))) : ax_Ok mX3_commit yX3_commit 10 1 73 [ax_r (1, 0), ax_i x] (fh (ch κ) ρ) (ax_D (ax_i (-1)) (fh (ch κ) ρ)) := by
  refine ax_Ok.of (by decide) rfl (fun q => by cases q) (Nat.le_of_ble_eq_true rfl) rfl ?_
  refine ax_aload_n dX3_commit_0 rfl ?_
  refine ax_iload_n dX3_commit_1 rfl ?_
  refine ax_V1 cv_X3_160 dX3_commit_2 ch_O rfl (ok_transactionAtN hx) (by decide) (by omega) (by omega) (Nat.le_of_ble_eq_true rfl) ?_
  refine ax_astore_n dX3_commit_5 rfl (by decide) ?_
  refine ax_aload_n dX3_commit_6 rfl ?_
  refine ax_ifnonnull 12 dX3_commit_7 (by decide) (fun c7 => absurd c7 (fun z => z rfl)) (fun c7 => ?_)
  refine ax_iconst (-1) dX3_commit_10 (by decide) ?_
  refine ax_iretD dX3_commit_11 rfl ⟨(by omega), (by omega)⟩ ?_ ?_
  · rfl
  · rfl
theorem ok_ccommit (hw : kf κ) {t : Nat} (ht : t < κ.1 10 0) (hP : cEn κ t = 0 → κ.1 17 0 < 60) : ax_Ok mX3_commit yX3_commit 10 1 73 [ax_r (1, 0), ax_i (nI t)] (fh (ch κ) ρ) (ax_D (ax_i (cCm κ t).1) (fh (ch (cCm κ t).2) ρ)) := by
  refine ax_Ok.of (by decide) rfl (fun q => by cases q) (Nat.le_of_ble_eq_true rfl) rfl ?_
  refine ax_aload_n dX3_commit_0 rfl ?_
  refine ax_iload_n dX3_commit_1 rfl ?_
  refine ax_V1 cv_X3_160 dX3_commit_2 ch_O rfl (ok_transactionAt hw ht) (by decide) (by omega) (by omega) (Nat.le_of_ble_eq_true rfl) ?_
  refine ax_astore_n dX3_commit_5 rfl (by decide) ?_
  refine ax_aload_n dX3_commit_6 rfl ?_
  refine ax_ifnonnull 12 dX3_commit_7 (by decide) (fun c7 => ?_) (fun c7 => absurd c7 (by intro z; cases z))
  refine ax_aload_n dX3_commit_12 rfl ?_
  refine ax_aload_n dX3_commit_13 rfl ?_
  refine ax_V1 cv_X3_190 dX3_commit_14 ch_O rfl (ok_endingRefusal hw ht) (by decide) (by omega) (by omega) (Nat.le_of_ble_eq_true rfl) ?_
  refine ax_istore_n dX3_commit_17 rfl (by decide) ?_
  refine ax_iload_n dX3_commit_18 rfl ?_
  refine ax_if_eq 24 dX3_commit_19 (by decide) (fun c19 => ?_) (fun c19 => ?_)
  · refine ax_aload_n dX3_commit_24 rfl ?_
    refine ax_iconst (nI 1) dX3_commit_25 (by decide) ?_
    refine ax_V1v cv_X3_89 dX3_commit_26 (ch_T (by assumption)) rfl (ok_enter ht) (by decide) (by omega) (by omega) (Nat.le_of_ble_eq_true rfl) ?_
    have hw2 : kf (nu (nu κ 12 t 1) 44 t 0) := kf_cu (kf_ph hw ht (by omega)) ht (by omega)
    have ht2 : t < (nu (nu κ 12 t 1) 44 t 0).1 10 0 := ht
    refine ax_aload_n dX3_commit_29 rfl ?_
    refine ax_aload_n dX3_commit_30 rfl ?_
    refine ax_V1v cv_X3_194 dX3_commit_31 ch_O rfl (ok_passOver hw2 ht2 (by simp [nu]) (fun _ => hP c19)) (by decide) (by omega) (by omega) (Nat.le_of_ble_eq_true rfl) ?_
    have ht3 : t < (cCm0 κ t).1 10 0 := by unfold cCm0; rw [po_inv]; exact ht
    refine ax_hq (h2 := fh (ch (cCm0 κ t)) ρ) rfl ?_
    refine ax_aload_n dX3_commit_34 rfl ?_
    refine ax_get (ci := 3) (k := 3) (T := TX2) dX3_commit_35 (ch_T ht3) rfl (by decide) fl_X3_83 rfl ?_
    refine ax_iretD dX3_commit_38 rfl ⟨(by omega), (by omega)⟩ ?_ ?_
    · simp [cCm, c7, c19]
    · simp [cCm, c7, c19]
  · refine ax_iload_n dX3_commit_22 rfl ?_
    refine ax_iretD dX3_commit_23 rfl ⟨(by omega), (by omega)⟩ ?_ ?_
    · simp [cCm, c7, c19]
    · simp [cCm, c7, c19]
end CLS8
