section CLS11
variable {κ ρ : ax_R}
def cTr (κ : ax_R) (t : Nat) (Q : Nat → Bool) : Bool := rAc κ t && (!κ.2.1 1 (κ.1 11 t) || (rI κ t).any (fun k => κ.2.1 22 k && cHt κ (κ.1 18 k) (fun m => Q m && !κ.2.1 1 m)))
theorem ok_itbr (hw : kf κ) {t : Nat} {Q : Nat → Bool} (ht : t < κ.1 10 0) : ax_Ok mX3_isToBeRecovered yX3_isToBeRecovered 5 0 0 [ax_r (1, 0), ax_r (8, t), ax_i (nI (mk Q))] (fh (ch κ) ρ) (ax_D (ax_i (ax_b (cTr κ t Q))) (fh (ch κ) ρ)) := by
  refine ax_Ok.of (by decide) rfl (fun q => by cases q) (Nat.le_of_ble_eq_true rfl) rfl ?_
  refine ax_iload_n dX3_isToBeRecovered_0 rfl ?_
  refine ax_aload_n dX3_isToBeRecovered_1 rfl ?_
  refine ax_get (ci := 4) (k := 5) (T := TX3) dX3_isToBeRecovered_2 ch_O rfl (by decide) fl_X3_30 rfl ?_
  refine ax_iconst (-1) dX3_isToBeRecovered_5 (by decide) ?_
  refine ax_ixor (nI (mk (κ.2.1 1)) ^^^ -1) dX3_isToBeRecovered_6 (rfl) ?_
  refine ax_iand (nI (mk (fun m => Q m && !κ.2.1 1 m))) dX3_isToBeRecovered_7 (k_nt _ _) ?_
  refine ax_istore_n dX3_isToBeRecovered_8 rfl (by decide) ?_
  refine ax_aload_n dX3_isToBeRecovered_9 rfl ?_
  refine ax_V0 cv_X3_201 dX3_isToBeRecovered_10 (ch_T (by assumption)) rfl (ok_isUnderWay hw (by assumption)) (by decide) (Nat.le_refl _) (Nat.le_refl _) (Nat.le_of_ble_eq_true rfl) ?_
  refine ax_beq 39 dX3_isToBeRecovered_13 (by decide) (fun c13 => ?_) (fun c13 => ?_)
  · refine ax_iconst (ax_b false) dX3_isToBeRecovered_39 (by decide) ?_
    refine ax_bret dX3_isToBeRecovered_40 rfl ⟨(Nat.le_refl _), (Nat.le_refl _)⟩ ?_ ?_
    · first | (simp only [cTr, c13]; simp; done) | (simp [cTr, c13]; done)
    · rfl
  · refine ax_aload_n dX3_isToBeRecovered_16 rfl ?_
    refine ax_aload_n dX3_isToBeRecovered_17 rfl ?_
    refine ax_get (ci := 3) (k := 1) (T := TX2) dX3_isToBeRecovered_18 (ch_T (by assumption)) rfl (by decide) fl_X3_86 rfl ?_
    refine ax_V1 cv_X3_43 dX3_isToBeRecovered_21 ch_O rfl (ok_isMember (by first | omega | exact hw.m6 _ | exact hw.co6 _)) (by decide) (Nat.le_refl _) (Nat.le_refl _) (Nat.le_of_ble_eq_true rfl) ?_
    refine ax_beq 35 dX3_isToBeRecovered_24 (by decide) (fun c24 => ?_) (fun c24 => ?_)
    · refine ax_iconst (ax_b true) dX3_isToBeRecovered_35 (by decide) ?_
      refine ax_goto 40 dX3_isToBeRecovered_36 (by decide) ?_
      refine ax_bret dX3_isToBeRecovered_40 rfl ⟨(Nat.le_refl _), (Nat.le_refl _)⟩ ?_ ?_
      · first | (simp only [cTr, c13, c24]; simp; done) | (simp [cTr, c13, c24]; done)
      · rfl
    · refine ax_aload_n dX3_isToBeRecovered_27 rfl ?_
      refine ax_iload_n dX3_isToBeRecovered_28 rfl ?_
      refine ax_V1 cv_X3_326 dX3_isToBeRecovered_29 (ch_T (by assumption)) rfl (ok_writesOn hw ht) (by decide) (Nat.le_refl _) (Nat.le_refl _) (Nat.le_of_ble_eq_true rfl) ?_
      refine ax_beq 39 dX3_isToBeRecovered_32 (by decide) (fun c32 => ?_) (fun c32 => ?_)
      · refine ax_iconst (ax_b false) dX3_isToBeRecovered_39 (by decide) ?_
        refine ax_bret dX3_isToBeRecovered_40 rfl ⟨(Nat.le_refl _), (Nat.le_refl _)⟩ ?_ ?_
        · first | (simp only [cTr, c13, c24, c32]; simp; done) | (simp [cTr, c13, c24, c32]; done)
        · rfl
      · refine ax_iconst (ax_b true) dX3_isToBeRecovered_35 (by decide) ?_
        refine ax_goto 40 dX3_isToBeRecovered_36 (by decide) ?_
        refine ax_bret dX3_isToBeRecovered_40 rfl ⟨(Nat.le_refl _), (Nat.le_refl _)⟩ ?_ ?_
        · first | (simp only [cTr, c13, c24, c32]; simp; done) | (simp [cTr, c13, c24, c32]; done)
        · rfl
def cDk (κ : ax_R) (k : Nat) : Bool := (List.range' 0 (κ.1 5 (κ.1 18 k))).any (fun s => dn κ k s && κ.2.1 1 (κ.1 6 (6 * κ.1 18 k + s)))
def cRc (κ : ax_R) (k : Nat) : Bool := (List.range' 0 (κ.1 5 (κ.1 18 k))).any (fun s => κ.2.1 41 (6 * k + s) && κ.2.1 1 (κ.1 6 (6 * κ.1 18 k + s)))
def cVs (κ : ax_R) (t r : Nat) : List Nat → Bool → Bool → Nat
  | [], hb, lb => if hb = true then 2 else if lb = true then 1 else 0
  | k :: l, hb, lb => if κ.1 18 k = r ∧ κ.2.1 22 k = true then (if cDk κ k = true then 3 else cVs κ t r l (hb || cRc κ k) (lb && decide (κ.2.2 9 (8 * κ.1 18 k + κ.1 19 k) = nI t))) else cVs κ t r l hb lb
theorem vs_hit {t r k m V : Nat} {hb lb b1 b2 : Bool} (h1 : κ.1 18 k = r) (h2 : κ.2.1 22 k = true) (h3 : cDk κ k = false) (e1 : (hb || cRc κ k) = b1) (e2 : (lb && decide (κ.2.2 9 (8 * κ.1 18 k + κ.1 19 k) = nI t)) = b2) (hV : cVs κ t r (List.range' k (m + 1)) hb lb = V) : cVs κ t r (List.range' (k + 1) m) b1 b2 = V := by
  rw [← hV, List.range'_succ, cVs, if_pos ⟨h1, h2⟩, if_neg (by simp [h3]), e1, e2]
theorem vs_le {t r : Nat} : ∀ (l : List Nat) (hb lb : Bool), cVs κ t r l hb lb ≤ 3
  | [], hb, lb => by
    unfold cVs
    split
    · omega
    · split <;> omega
  | k :: l, hb, lb => by
    unfold cVs
    split
    · split
      · omega
      · exact vs_le l _ _
    · exact vs_le l _ _
def cV0 (κ : ax_R) (r : Nat) (Q : Nat → Bool) : Bool := decide (oM κ r ((List.range' 0 (κ.1 5 r)).find? (fun s => Q (κ.1 6 (6 * r + s)))) = oM κ r (cPr κ r))
def cVo (κ : ax_R) (t r : Nat) (Q : Nat → Bool) : Nat := cVs κ t r (rI κ t) false (cV0 κ r Q)
theorem lp_cvote (hw : kf κ) {t r : Nat} {Q : Nat → Bool} (ht : t < κ.1 10 0) : ∀ (m : Nat) (i : Nat) (hb lb : Bool) (V : Nat), i + m = κ.1 14 t → cVs κ t r (List.range' (8 * t + i) m) hb lb = V → ax_Z mX3_voteOf 5 0 0 (ax_D (ax_i (nI V)) (fh (ch κ) ρ)) 26 [some (ax_r (1, 0)), some (ax_r (3, r)), some (ax_r (8, t)), some (ax_i (nI (mk Q))), some (ax_i (ax_b hb)), some (ax_i (ax_b lb)), some (ax_i (nI i)), none] [] (fh (ch κ) ρ) 0 0 := by
  intro m
  induction m with
  | zero =>
    intro i hb lb V hk hV
    have h8 := hw.i8 t
    refine ax_iload dX3_voteOf_26 rfl ?_
    refine ax_aload_n dX3_voteOf_28 rfl ?_
    refine ax_get (ci := 3) (k := 2) (T := TX2) dX3_voteOf_29 (ch_T (by assumption)) rfl (by decide) fl_X3_205 rfl ?_
    refine ax_V0 cv_X3_46 dX3_voteOf_32 (ch_lI (by assumption)) rfl (ok_szI (by assumption)) (by decide) (Nat.le_refl _) (Nat.le_refl _) (Nat.le_of_ble_eq_true rfl) ?_
    refine ax_nge 139 dX3_voteOf_35 (by decide) (by omega) (by omega) (fun c35 => ?_) (fun c35 => absurd c35 (by omega))
    refine ax_iload dX3_voteOf_139 rfl ?_
    refine ax_beq 146 dX3_voteOf_141 (by decide) (fun c141 => ?_) (fun c141 => ?_)
    · refine ax_iload dX3_voteOf_146 rfl ?_
      refine ax_beq 155 dX3_voteOf_148 (by decide) (fun c148 => ?_) (fun c148 => ?_)
      · refine ax_iconst (nI 0) dX3_voteOf_155 (by decide) ?_
        refine ax_iretD dX3_voteOf_156 rfl ⟨(Nat.le_refl _), (Nat.le_refl _)⟩ ?_ ?_
        · rw [← hV]; simp [cVs, c35, c141, c148]
        · rfl
      · refine ax_iconst (nI 1) dX3_voteOf_151 (by decide) ?_
        refine ax_goto 156 dX3_voteOf_152 (by decide) ?_
        refine ax_iretD dX3_voteOf_156 rfl ⟨(Nat.le_refl _), (Nat.le_refl _)⟩ ?_ ?_
        · rw [← hV]; simp [cVs, c35, c141, c148]
        · rfl
    · refine ax_iconst (nI 2) dX3_voteOf_144 (by decide) ?_
      refine ax_iretD dX3_voteOf_145 rfl ⟨(Nat.le_refl _), (Nat.le_refl _)⟩ ?_ ?_
      · rw [← hV]; simp [cVs, c35, c141]
      · rfl
  | succ m ih =>
    intro i hb lb V hk hV
    have h8 := hw.i8 t
    have hik : ik κ (8 * t + i) := ik.of hw ht (by omega)
    have hir := ik.r hw hik
    refine ax_iload dX3_voteOf_26 rfl ?_
    refine ax_aload_n dX3_voteOf_28 rfl ?_
    refine ax_get (ci := 3) (k := 2) (T := TX2) dX3_voteOf_29 (ch_T (by assumption)) rfl (by decide) fl_X3_205 rfl ?_
    refine ax_V0 cv_X3_46 dX3_voteOf_32 (ch_lI (by assumption)) rfl (ok_szI (by assumption)) (by decide) (Nat.le_refl _) (Nat.le_refl _) (Nat.le_of_ble_eq_true rfl) ?_
    refine ax_nge 139 dX3_voteOf_35 (by decide) (by omega) (by omega) (fun c35 => absurd c35 (by omega)) (fun c35 => ?_)
    refine ax_aload_n dX3_voteOf_38 rfl ?_
    refine ax_get (ci := 3) (k := 2) (T := TX2) dX3_voteOf_39 (ch_T (by assumption)) rfl (by decide) fl_X3_205 rfl ?_
    refine ax_iload dX3_voteOf_42 rfl ?_
    refine ax_V1 cv_X3_77 dX3_voteOf_44 (ch_lI (by assumption)) rfl (ok_geI hw (by assumption) (by first | assumption | omega)) (by decide) (Nat.le_refl _) (Nat.le_refl _) (Nat.le_of_ble_eq_true rfl) ?_
    refine ax_cast (ci := 1) dX3_voteOf_47 cl_X3_173 (ch_I (by assumption)) rfl ?_
    refine ax_astore dX3_voteOf_50 rfl (by decide) ?_
    refine ax_aload dX3_voteOf_52 rfl ?_
    refine ax_get (ci := 1) (k := 0) (T := TX0) dX3_voteOf_54 (ch_I (by assumption)) rfl (by decide) fl_X3_218 rfl ?_
    refine ax_aload_n dX3_voteOf_57 rfl ?_
    refine ax_acmp_ne 133 dX3_voteOf_58 (by decide) (fun c58 => ?_) (fun c58 => ?_)
    · rw [nm3] at c58
      refine ax_iincn (n := 1) dX3_voteOf_133 rfl (by decide) rfl ?_
      refine ax_goto 26 dX3_voteOf_136 (by decide) ?_
      refine ax_fg [true, true, true, true, true, true, true, false] rfl ?_
      exact ih (i + 1) hb lb V (by omega) (by rw [← hV, List.range'_succ, cVs, if_neg (by simp [c58])]; rfl)
    · rw [nm3] at c58
      refine ax_aload dX3_voteOf_61 rfl ?_
      refine ax_get (ci := 1) (k := 4) (T := TX0) dX3_voteOf_63 (ch_I (by assumption)) rfl (by decide) fl_X3_172 rfl ?_
      refine ax_beq 133 dX3_voteOf_66 (by decide) (fun c66 => ?_) (fun c66 => ?_)
      · refine ax_iincn (n := 1) dX3_voteOf_133 rfl (by decide) rfl ?_
        refine ax_goto 26 dX3_voteOf_136 (by decide) ?_
        refine ax_fg [true, true, true, true, true, true, true, false] rfl ?_
        exact ih (i + 1) hb lb V (by omega) (by rw [← hV, List.range'_succ, cVs, if_neg (by simp [c58, c66])]; rfl)
      · refine ax_aload dX3_voteOf_69 rfl ?_
        refine ax_get (ci := 1) (k := 7) (T := TX0) dX3_voteOf_71 (ch_I (by assumption)) rfl (by decide) fl_X3_297 rfl ?_
        refine ax_aload_n dX3_voteOf_74 rfl ?_
        refine ax_get (ci := 4) (k := 5) (T := TX3) dX3_voteOf_75 ch_O rfl (by decide) fl_X3_30 rfl ?_
        refine ax_iand (nI (mk (fun m => pm κ (κ.1 18 (8 * t + i)) (dn κ (8 * t + i)) m && κ.2.1 1 m))) dX3_voteOf_78 (k_and _ _) ?_
        refine ax_if_eq 84 dX3_voteOf_79 (by decide) (fun c79 => ?_) (fun c79 => ?_)
        · rw [k_z, pm_any hw] at c79
          have c79 : cDk κ (8 * t + i) = false := c79
          refine ax_iload dX3_voteOf_84 rfl ?_
          refine ax_bne 102 dX3_voteOf_86 (by decide) (fun c86 => ?_) (fun c86 => ?_)
          · refine ax_iconst (ax_b true) dX3_voteOf_102 (by decide) ?_
            refine ax_goto 107 dX3_voteOf_103 (by decide) ?_
            refine ax_istore dX3_voteOf_107 rfl (by decide) ?_
            refine ax_iload dX3_voteOf_109 rfl ?_
            refine ax_beq 130 dX3_voteOf_111 (by decide) (fun c111 => ?_) (fun c111 => ?_)
            · refine ax_iconst (ax_b false) dX3_voteOf_130 (by decide) ?_
              refine ax_istore dX3_voteOf_131 rfl (by decide) ?_
              refine ax_iincn (n := 1) dX3_voteOf_133 rfl (by decide) rfl ?_
              refine ax_goto 26 dX3_voteOf_136 (by decide) ?_
              refine ax_fg [true, true, true, true, true, true, true, false] rfl ?_
              exact ih (i + 1) _ _ V (by omega) (vs_hit c58 c66 c79 (by simp [c86, c111]) (by simp [c86, c111]) hV)
            · refine ax_aload dX3_voteOf_114 rfl ?_
              refine ax_aload_n dX3_voteOf_116 rfl ?_
              refine ax_get (ci := 3) (k := 0) (T := TX2) dX3_voteOf_117 (ch_T (by assumption)) rfl (by decide) fl_X3_159 rfl ?_
              refine ax_V1 cv_X3_319 dX3_voteOf_120 (ch_I (by assumption)) rfl (ok_isLockedBy hw (by assumption)) (by decide) (Nat.le_refl _) (Nat.le_refl _) (Nat.le_of_ble_eq_true rfl) ?_
              refine ax_beq 130 dX3_voteOf_123 (by decide) (fun c123 => ?_) (fun c123 => ?_)
              · refine ax_iconst (ax_b false) dX3_voteOf_130 (by decide) ?_
                refine ax_istore dX3_voteOf_131 rfl (by decide) ?_
                refine ax_iincn (n := 1) dX3_voteOf_133 rfl (by decide) rfl ?_
                refine ax_goto 26 dX3_voteOf_136 (by decide) ?_
                refine ax_fg [true, true, true, true, true, true, true, false] rfl ?_
                exact ih (i + 1) _ _ V (by omega) (vs_hit c58 c66 c79 (by simp [c86, c111, c123]) (by simp [c86, c111, c123]) hV)
              · refine ax_iconst (ax_b true) dX3_voteOf_126 (by decide) ?_
                refine ax_goto 131 dX3_voteOf_127 (by decide) ?_
                refine ax_istore dX3_voteOf_131 rfl (by decide) ?_
                refine ax_iincn (n := 1) dX3_voteOf_133 rfl (by decide) rfl ?_
                refine ax_goto 26 dX3_voteOf_136 (by decide) ?_
                refine ax_fg [true, true, true, true, true, true, true, false] rfl ?_
                exact ih (i + 1) _ _ V (by omega) (vs_hit c58 c66 c79 (by simp [c86, c111, c123]) (by simp [c86, c111, c123]) hV)
          · refine ax_aload dX3_voteOf_89 rfl ?_
            refine ax_get (ci := 1) (k := 6) (T := TX0) dX3_voteOf_91 (ch_I (by assumption)) rfl (by decide) fl_X3_267 rfl ?_
            refine ax_aload_n dX3_voteOf_94 rfl ?_
            refine ax_get (ci := 4) (k := 5) (T := TX3) dX3_voteOf_95 ch_O rfl (by decide) fl_X3_30 rfl ?_
            refine ax_iand (nI (mk (fun m => pm κ (κ.1 18 (8 * t + i)) (fun s => κ.2.1 41 (6 * (8 * t + i) + s)) m && κ.2.1 1 m))) dX3_voteOf_98 (k_and _ _) ?_
            refine ax_if_eq 106 dX3_voteOf_99 (by decide) (fun c99 => ?_) (fun c99 => ?_)
            · rw [k_z, pm_any hw] at c99
              have c99 : cRc κ (8 * t + i) = false := c99
              refine ax_iconst (ax_b false) dX3_voteOf_106 (by decide) ?_
              refine ax_istore dX3_voteOf_107 rfl (by decide) ?_
              refine ax_iload dX3_voteOf_109 rfl ?_
              refine ax_beq 130 dX3_voteOf_111 (by decide) (fun c111 => ?_) (fun c111 => ?_)
              · refine ax_iconst (ax_b false) dX3_voteOf_130 (by decide) ?_
                refine ax_istore dX3_voteOf_131 rfl (by decide) ?_
                refine ax_iincn (n := 1) dX3_voteOf_133 rfl (by decide) rfl ?_
                refine ax_goto 26 dX3_voteOf_136 (by decide) ?_
                refine ax_fg [true, true, true, true, true, true, true, false] rfl ?_
                exact ih (i + 1) _ _ V (by omega) (vs_hit c58 c66 c79 (by simp [c86, c99, c111]) (by simp [c86, c99, c111]) hV)
              · refine ax_aload dX3_voteOf_114 rfl ?_
                refine ax_aload_n dX3_voteOf_116 rfl ?_
                refine ax_get (ci := 3) (k := 0) (T := TX2) dX3_voteOf_117 (ch_T (by assumption)) rfl (by decide) fl_X3_159 rfl ?_
                refine ax_V1 cv_X3_319 dX3_voteOf_120 (ch_I (by assumption)) rfl (ok_isLockedBy hw (by assumption)) (by decide) (Nat.le_refl _) (Nat.le_refl _) (Nat.le_of_ble_eq_true rfl) ?_
                refine ax_beq 130 dX3_voteOf_123 (by decide) (fun c123 => ?_) (fun c123 => ?_)
                · refine ax_iconst (ax_b false) dX3_voteOf_130 (by decide) ?_
                  refine ax_istore dX3_voteOf_131 rfl (by decide) ?_
                  refine ax_iincn (n := 1) dX3_voteOf_133 rfl (by decide) rfl ?_
                  refine ax_goto 26 dX3_voteOf_136 (by decide) ?_
                  refine ax_fg [true, true, true, true, true, true, true, false] rfl ?_
                  exact ih (i + 1) _ _ V (by omega) (vs_hit c58 c66 c79 (by simp [c86, c99, c111, c123]) (by simp [c86, c99, c111, c123]) hV)
                · refine ax_iconst (ax_b true) dX3_voteOf_126 (by decide) ?_
                  refine ax_goto 131 dX3_voteOf_127 (by decide) ?_
                  refine ax_istore dX3_voteOf_131 rfl (by decide) ?_
                  refine ax_iincn (n := 1) dX3_voteOf_133 rfl (by decide) rfl ?_
                  refine ax_goto 26 dX3_voteOf_136 (by decide) ?_
                  refine ax_fg [true, true, true, true, true, true, true, false] rfl ?_
                  exact ih (i + 1) _ _ V (by omega) (vs_hit c58 c66 c79 (by simp [c86, c99, c111, c123]) (by simp [c86, c99, c111, c123]) hV)
            · rw [k_z, pm_any hw, Bool.not_eq_false] at c99
              have c99 : cRc κ (8 * t + i) = true := c99
              refine ax_iconst (ax_b true) dX3_voteOf_102 (by decide) ?_
              refine ax_goto 107 dX3_voteOf_103 (by decide) ?_
              refine ax_istore dX3_voteOf_107 rfl (by decide) ?_
              refine ax_iload dX3_voteOf_109 rfl ?_
              refine ax_beq 130 dX3_voteOf_111 (by decide) (fun c111 => ?_) (fun c111 => ?_)
              · refine ax_iconst (ax_b false) dX3_voteOf_130 (by decide) ?_
                refine ax_istore dX3_voteOf_131 rfl (by decide) ?_
                refine ax_iincn (n := 1) dX3_voteOf_133 rfl (by decide) rfl ?_
                refine ax_goto 26 dX3_voteOf_136 (by decide) ?_
                refine ax_fg [true, true, true, true, true, true, true, false] rfl ?_
                exact ih (i + 1) _ _ V (by omega) (vs_hit c58 c66 c79 (by simp [c86, c99, c111]) (by simp [c86, c99, c111]) hV)
              · refine ax_aload dX3_voteOf_114 rfl ?_
                refine ax_aload_n dX3_voteOf_116 rfl ?_
                refine ax_get (ci := 3) (k := 0) (T := TX2) dX3_voteOf_117 (ch_T (by assumption)) rfl (by decide) fl_X3_159 rfl ?_
                refine ax_V1 cv_X3_319 dX3_voteOf_120 (ch_I (by assumption)) rfl (ok_isLockedBy hw (by assumption)) (by decide) (Nat.le_refl _) (Nat.le_refl _) (Nat.le_of_ble_eq_true rfl) ?_
                refine ax_beq 130 dX3_voteOf_123 (by decide) (fun c123 => ?_) (fun c123 => ?_)
                · refine ax_iconst (ax_b false) dX3_voteOf_130 (by decide) ?_
                  refine ax_istore dX3_voteOf_131 rfl (by decide) ?_
                  refine ax_iincn (n := 1) dX3_voteOf_133 rfl (by decide) rfl ?_
                  refine ax_goto 26 dX3_voteOf_136 (by decide) ?_
                  refine ax_fg [true, true, true, true, true, true, true, false] rfl ?_
                  exact ih (i + 1) _ _ V (by omega) (vs_hit c58 c66 c79 (by simp [c86, c99, c111, c123]) (by simp [c86, c99, c111, c123]) hV)
                · refine ax_iconst (ax_b true) dX3_voteOf_126 (by decide) ?_
                  refine ax_goto 131 dX3_voteOf_127 (by decide) ?_
                  refine ax_istore dX3_voteOf_131 rfl (by decide) ?_
                  refine ax_iincn (n := 1) dX3_voteOf_133 rfl (by decide) rfl ?_
                  refine ax_goto 26 dX3_voteOf_136 (by decide) ?_
                  refine ax_fg [true, true, true, true, true, true, true, false] rfl ?_
                  exact ih (i + 1) _ _ V (by omega) (vs_hit c58 c66 c79 (by simp [c86, c99, c111, c123]) (by simp [c86, c99, c111, c123]) hV)
        · rw [k_z, pm_any hw, Bool.not_eq_false] at c79
          have c79 : cDk κ (8 * t + i) = true := c79
          refine ax_iconst (nI 3) dX3_voteOf_82 (by decide) ?_
          refine ax_iretD dX3_voteOf_83 rfl ⟨(Nat.le_refl _), (Nat.le_refl _)⟩ ?_ ?_
          · rw [← hV, List.range'_succ, cVs, if_pos ⟨c58, c66⟩, if_pos c79]
          · rfl
theorem ok_voteOf (hw : kf κ) {t r : Nat} {Q : Nat → Bool} (hr : r < κ.1 4 0) (ht : t < κ.1 10 0) : ax_Ok mX3_voteOf yX3_voteOf 5 0 0 [ax_r (1, 0), ax_r (3, r), ax_r (8, t), ax_i (nI (mk Q))] (fh (ch κ) ρ) (ax_D (ax_i (nI (cVo κ t r Q))) (fh (ch κ) ρ)) := by
  refine ax_Ok.of (by decide) rfl (fun q => by cases q) (Nat.le_of_ble_eq_true rfl) rfl ?_
  refine ax_iconst (ax_b false) dX3_voteOf_0 (by decide) ?_
  refine ax_istore dX3_voteOf_1 rfl (by decide) ?_
  refine ax_aload_n dX3_voteOf_3 rfl ?_
  refine ax_iload_n dX3_voteOf_4 rfl ?_
  refine ax_V1 cv_X3_247 dX3_voteOf_5 (ch_R (by first | assumption | exact ik.r hw (by assumption))) rfl (ok_firstWithin hw (by first | assumption | exact ik.r hw (by assumption))) (by decide) (Nat.le_refl _) (Nat.le_refl _) (Nat.le_of_ble_eq_true rfl) ?_
  refine ax_aload_n dX3_voteOf_8 rfl ?_
  refine ax_aload_n dX3_voteOf_9 rfl ?_
  refine ax_V1 cv_X3_104 dX3_voteOf_10 ch_O rfl (ok_primaryOf hw (by first | assumption | exact ik.r hw (by assumption))) (by decide) (Nat.le_refl _) (Nat.le_refl _) (Nat.le_of_ble_eq_true rfl) ?_
  refine ax_icmp_ne 20 dX3_voteOf_13 (by decide) (fun c13 => ?_) (fun c13 => ?_)
  · refine ax_iconst (ax_b false) dX3_voteOf_20 (by decide) ?_
    refine ax_istore dX3_voteOf_21 rfl (by decide) ?_
    refine ax_iconst (nI 0) dX3_voteOf_23 (by decide) ?_
    refine ax_istore dX3_voteOf_24 rfl (by decide) ?_
    exact lp_cvote hw ht (κ.1 14 t) 0 _ _ _ (Nat.zero_add _) (by unfold cVo rI; congr 1; simp [cV0, c13])
  · refine ax_iconst (ax_b true) dX3_voteOf_16 (by decide) ?_
    refine ax_goto 21 dX3_voteOf_17 (by decide) ?_
    refine ax_istore dX3_voteOf_21 rfl (by decide) ?_
    refine ax_iconst (nI 0) dX3_voteOf_23 (by decide) ?_
    refine ax_istore dX3_voteOf_24 rfl (by decide) ?_
    exact lp_cvote hw ht (κ.1 14 t) 0 _ _ _ (Nat.zero_add _) (by unfold cVo rI; congr 1; simp [cV0, c13])
def cIv (κ : ax_R) (t : Nat) (Q : Nat → Bool) (s : Nat × Nat) (r : Nat) : Nat × Nat := if rM κ r = 0 ∨ rWr κ t r = false then s else (max s.1 (cVo κ t r Q), min s.2 (cVo κ t r Q))
def cIw (s : Nat × Nat) : Bool := decide (s.1 = 3) || (decide (s.1 = 2) && !decide (s.2 = 0))
def cIf (κ : ax_R) (t : Nat) (Q : Nat → Bool) : Bool := cIw ((List.range' 0 (κ.1 4 0)).foldl (cIv κ t Q) (0, 3))
theorem mx_n {a b : Nat} (ha : a < 2 ^ 31) (hb : b < 2 ^ 31) : (if nI a < nI b then nI b else nI a) = nI (max a b) := by
  by_cases h : a < b
  · rw [if_pos ((nI_ltI ha hb).mpr h), Nat.max_eq_right (by omega)]
  · rw [if_neg (fun z => h ((nI_ltI ha hb).mp z)), Nat.max_eq_left (by omega)]
theorem mn_n {a b : Nat} (ha : a < 2 ^ 31) (hb : b < 2 ^ 31) : (if nI b < nI a then nI b else nI a) = nI (min a b) := by
  by_cases h : b < a
  · rw [if_pos ((nI_ltI hb ha).mpr h), Nat.min_eq_right (by omega)]
  · rw [if_neg (fun z => h ((nI_ltI hb ha).mp z)), Nat.min_eq_left (by omega)]
theorem lp_ivf (hw : kf κ) {t : Nat} {Q : Nat → Bool} (ht : t < κ.1 10 0) : ∀ (m : Nat) (r a b : Nat) (V : Nat × Nat), r + m = κ.1 4 0 → a ≤ 3 → b ≤ 3 → (List.range' r m).foldl (cIv κ t Q) (a, b) = V → ax_Z mX3_isVotedFor 6 0 0 (ax_D (ax_i (ax_b (cIw V))) (fh (ch κ) ρ)) 8 [some (ax_r (1, 0)), some (ax_r (8, t)), some (ax_i (nI (mk Q))), some (ax_i (nI a)), some (ax_i (nI b)), some (ax_i (nI r)), none, none] [] (fh (ch κ) ρ) 0 0 := by
  intro m
  induction m with
  | zero =>
    intro r a b V hk ha hb hV
    have h6 := hw.nR
    refine ax_iload dX3_isVotedFor_8 rfl ?_
    refine ax_aload_n dX3_isVotedFor_10 rfl ?_
    refine ax_get (ci := 4) (k := 0) (T := TX3) dX3_isVotedFor_11 ch_O rfl (by decide) fl_X3_10 rfl ?_
    refine ax_V0 cv_X3_46 dX3_isVotedFor_14 ch_lR rfl (ok_szR) (by decide) (Nat.le_refl _) (Nat.le_refl _) (Nat.le_of_ble_eq_true rfl) ?_
    refine ax_nge 84 dX3_isVotedFor_17 (by decide) (by omega) (by omega) (fun c17 => ?_) (fun c17 => absurd c17 (by omega))
    refine ax_iload_n dX3_isVotedFor_84 rfl ?_
    refine ax_iconst (nI 3) dX3_isVotedFor_85 (by decide) ?_
    refine ax_neq 99 dX3_isVotedFor_86 (by decide) (by omega) (by omega) (fun c86 => ?_) (fun c86 => ?_)
    · refine ax_iconst (ax_b true) dX3_isVotedFor_99 (by decide) ?_
      refine ax_goto 104 dX3_isVotedFor_100 (by decide) ?_
      refine ax_bret dX3_isVotedFor_104 rfl ⟨(Nat.le_refl _), (Nat.le_refl _)⟩ ?_ ?_
      · rw [← hV]; simp [cIw, c17, c86]
      · rfl
    · refine ax_iload_n dX3_isVotedFor_89 rfl ?_
      refine ax_iconst (nI 2) dX3_isVotedFor_90 (by decide) ?_
      refine ax_nne 103 dX3_isVotedFor_91 (by decide) (by omega) (by omega) (fun c91 => ?_) (fun c91 => ?_)
      · refine ax_iconst (ax_b false) dX3_isVotedFor_103 (by decide) ?_
        refine ax_bret dX3_isVotedFor_104 rfl ⟨(Nat.le_refl _), (Nat.le_refl _)⟩ ?_ ?_
        · rw [← hV]; simp [cIw, c17, c86, c91]
        · rfl
      · refine ax_iload dX3_isVotedFor_94 rfl ?_
        refine ax_zeq 103 dX3_isVotedFor_96 (by decide) (by omega) (fun c96 => ?_) (fun c96 => ?_)
        · refine ax_iconst (ax_b false) dX3_isVotedFor_103 (by decide) ?_
          refine ax_bret dX3_isVotedFor_104 rfl ⟨(Nat.le_refl _), (Nat.le_refl _)⟩ ?_ ?_
          · rw [← hV]; simp [cIw, c17, c86, c91, c96]
          · rfl
        · refine ax_iconst (ax_b true) dX3_isVotedFor_99 (by decide) ?_
          refine ax_goto 104 dX3_isVotedFor_100 (by decide) ?_
          refine ax_bret dX3_isVotedFor_104 rfl ⟨(Nat.le_refl _), (Nat.le_refl _)⟩ ?_ ?_
          · rw [← hV]; simp [cIw, c17, c86, c91, c96]
          · rfl
  | succ m ih =>
    intro r a b V hk ha hb hV
    have h6 := hw.nR
    have hr : r < κ.1 4 0 := by omega
    refine ax_iload dX3_isVotedFor_8 rfl ?_
    refine ax_aload_n dX3_isVotedFor_10 rfl ?_
    refine ax_get (ci := 4) (k := 0) (T := TX3) dX3_isVotedFor_11 ch_O rfl (by decide) fl_X3_10 rfl ?_
    refine ax_V0 cv_X3_46 dX3_isVotedFor_14 ch_lR rfl (ok_szR) (by decide) (Nat.le_refl _) (Nat.le_refl _) (Nat.le_of_ble_eq_true rfl) ?_
    refine ax_nge 84 dX3_isVotedFor_17 (by decide) (by omega) (by omega) (fun c17 => absurd c17 (by omega)) (fun c17 => ?_)
    refine ax_aload_n dX3_isVotedFor_20 rfl ?_
    refine ax_get (ci := 4) (k := 0) (T := TX3) dX3_isVotedFor_21 ch_O rfl (by decide) fl_X3_10 rfl ?_
    refine ax_iload dX3_isVotedFor_24 rfl ?_
    refine ax_V1 cv_X3_77 dX3_isVotedFor_26 ch_lR rfl (ok_geR hw (by first | assumption | omega)) (by decide) (Nat.le_refl _) (Nat.le_refl _) (Nat.le_of_ble_eq_true rfl) ?_
    refine ax_cast (ci := 2) dX3_isVotedFor_29 cl_X3_50 (ch_R (by first | assumption | exact ik.r hw (by assumption))) rfl ?_
    refine ax_astore dX3_isVotedFor_32 rfl (by decide) ?_
    refine ax_aload_n dX3_isVotedFor_34 rfl ?_
    refine ax_aload dX3_isVotedFor_35 rfl ?_
    refine ax_V1 cv_X3_284 dX3_isVotedFor_37 ch_O rfl (ok_cIsLost hw (by first | assumption | exact ik.r hw (by assumption))) (by decide) (Nat.le_refl _) (Nat.le_refl _) (Nat.le_of_ble_eq_true rfl) ?_
    refine ax_bne 78 dX3_isVotedFor_40 (by decide) (fun c40 => ?_) (fun c40 => ?_)
    · refine ax_iincn (n := 1) dX3_isVotedFor_78 rfl (by decide) rfl ?_
      refine ax_goto 8 dX3_isVotedFor_81 (by decide) ?_
      refine ax_fg [true, true, true, true, true, true, false, false] rfl ?_
      exact ih (r + 1) a b V (by omega) ha hb (by rw [← hV, List.range'_succ, List.foldl_cons, cIv, if_pos (Or.inl (by simpa using c40))])
    · refine ax_aload_n dX3_isVotedFor_43 rfl ?_
      refine ax_aload dX3_isVotedFor_44 rfl ?_
      refine ax_V1 cv_X3_260 dX3_isVotedFor_46 (ch_T (by assumption)) rfl (ok_writesIn hw (by assumption)) (by decide) (Nat.le_refl _) (Nat.le_refl _) (Nat.le_of_ble_eq_true rfl) ?_
      refine ax_beq 78 dX3_isVotedFor_49 (by decide) (fun c49 => ?_) (fun c49 => ?_)
      · refine ax_iincn (n := 1) dX3_isVotedFor_78 rfl (by decide) rfl ?_
        refine ax_goto 8 dX3_isVotedFor_81 (by decide) ?_
        refine ax_fg [true, true, true, true, true, true, false, false] rfl ?_
        first | (refine ih (r + 1) a b V (by omega) ha hb (by rw [← hV, List.range'_succ, List.foldl_cons, cIv, if_pos (by simp [c49])]); done) | exact ih (r + 1) _ _ V (by omega) (by omega) (by omega) (by rw [← hV, List.range'_succ, List.foldl_cons, cIv, if_neg (by simp [c49]; simpa using c40)])
      · refine ax_aload_n dX3_isVotedFor_52 rfl ?_
        refine ax_aload dX3_isVotedFor_53 rfl ?_
        refine ax_aload_n dX3_isVotedFor_55 rfl ?_
        refine ax_iload_n dX3_isVotedFor_56 rfl ?_
        refine ax_V3 cv_X3_338 dX3_isVotedFor_57 ch_O rfl (ok_voteOf hw hr ht) (by decide) (Nat.le_refl _) (Nat.le_refl _) (Nat.le_of_ble_eq_true rfl) ?_
        have hvo : cVo κ t r Q ≤ 3 := vs_le _ _ _
        refine ax_istore dX3_isVotedFor_60 rfl (by decide) ?_
        refine ax_iload_n dX3_isVotedFor_62 rfl ?_
        refine ax_iload dX3_isVotedFor_63 rfl ?_
        refine ax_mmax cs_X3_342 dX3_isVotedFor_65 (by decide) (Nat.le_refl _) (Nat.le_refl _) (Nat.le_of_ble_eq_true rfl) ?_
        rw [mx_n (by omega) (by omega)]
        refine ax_istore_n dX3_isVotedFor_68 rfl (by decide) ?_
        refine ax_iload dX3_isVotedFor_69 rfl ?_
        refine ax_iload dX3_isVotedFor_71 rfl ?_
        refine ax_mmin cs_X3_347 dX3_isVotedFor_73 (by decide) (Nat.le_refl _) (Nat.le_refl _) (Nat.le_of_ble_eq_true rfl) ?_
        rw [mn_n (by omega) (by omega)]
        refine ax_istore dX3_isVotedFor_76 rfl (by decide) ?_
        refine ax_iincn (n := 1) dX3_isVotedFor_78 rfl (by decide) rfl ?_
        refine ax_goto 8 dX3_isVotedFor_81 (by decide) ?_
        refine ax_fg [true, true, true, true, true, true, false, false] rfl ?_
        first | (refine ih (r + 1) a b V (by omega) ha hb (by rw [← hV, List.range'_succ, List.foldl_cons, cIv, if_pos (by simp [c49])]); done) | exact ih (r + 1) _ _ V (by omega) (by omega) (by omega) (by rw [← hV, List.range'_succ, List.foldl_cons, cIv, if_neg (by simp [c49]; simpa using c40)])
theorem ok_isVotedFor (hw : kf κ) {t : Nat} {Q : Nat → Bool} (ht : t < κ.1 10 0) : ax_Ok mX3_isVotedFor yX3_isVotedFor 6 0 0 [ax_r (1, 0), ax_r (8, t), ax_i (nI (mk Q))] (fh (ch κ) ρ) (ax_D (ax_i (ax_b (cIf κ t Q))) (fh (ch κ) ρ)) := by
  refine ax_Ok.of (by decide) rfl (fun q => by cases q) (Nat.le_of_ble_eq_true rfl) rfl ?_
  refine ax_iconst (nI 0) dX3_isVotedFor_0 (by decide) ?_
  refine ax_istore_n dX3_isVotedFor_1 rfl (by decide) ?_
  refine ax_iconst (nI 3) dX3_isVotedFor_2 (by decide) ?_
  refine ax_istore dX3_isVotedFor_3 rfl (by decide) ?_
  refine ax_iconst (nI 0) dX3_isVotedFor_5 (by decide) ?_
  refine ax_istore dX3_isVotedFor_6 rfl (by decide) ?_
  exact lp_ivf hw ht (κ.1 4 0) 0 0 3 _ (Nat.zero_add _) (by decide) (by decide) rfl
def cSj (k : Nat) (κ : ax_R) (s : Nat) : ax_R := if κ.2.1 1 (κ.1 6 (6 * κ.1 18 k + s)) = true then cRz κ (κ.1 18 k) s (κ.1 19 k) (κ.2.2 23 k) (κ.1 21 k + 1) else κ
def cSk (κ : ax_R) (k : Nat) : ax_R := if κ.2.1 22 k = true then (List.range' 0 (κ.1 5 (κ.1 18 k))).foldl (cSj k) κ else κ
theorem sj_1 {k s a j : Nat} (h : a ≠ 8) : (cSj k κ s).1 a j = κ.1 a j := by
  unfold cSj
  split
  · exact rz_1 h
  · rfl
theorem sj_b {k s : Nat} : (cSj k κ s).2.1 = κ.2.1 := by
  unfold cSj
  split
  · exact rz_b
  · rfl
theorem sjs_1 {k a j : Nat} (h : a ≠ 8) : ∀ (l : List Nat) (κ : ax_R), (l.foldl (cSj k) κ).1 a j = κ.1 a j ∧ (l.foldl (cSj k) κ).2.1 = κ.2.1
  | [], _ => ⟨rfl, rfl⟩
  | s :: l, κ => by
    rw [List.foldl_cons]
    exact ⟨(sjs_1 h l _).1.trans (sj_1 h), (sjs_1 (j := j) h l _).2.trans sj_b⟩
theorem sk_1 {k a j : Nat} (h : a ≠ 8) : (cSk κ k).1 a j = κ.1 a j := by
  unfold cSk
  split
  · exact (sjs_1 h _ _).1
  · rfl
theorem sk_b {k : Nat} : (cSk κ k).2.1 = κ.2.1 := by
  unfold cSk
  split
  · exact (sjs_1 (a := 0) (j := 0) (by decide) _ _).2
  · rfl
theorem kf_sj (hw : kf κ) {k s : Nat} (hs : s < κ.1 5 (κ.1 18 k)) (hv : κ.1 21 k + 1 < 1000000) : kf (cSj k κ s) := by
  unfold cSj
  split
  · exact kf_rz hw hs (hw.o8 k) hv
  · exact hw
theorem kf_sjs {k : Nat} : ∀ (m s : Nat) (κ : ax_R), kf κ → s + m ≤ κ.1 5 (κ.1 18 k) → κ.1 21 k + 1 < 1000000 → kf ((List.range' s m).foldl (cSj k) κ)
  | 0, _, _, hw, _, _ => hw
  | m + 1, s, κ, hw, hs, hv => by
    rw [List.range'_succ, List.foldl_cons]
    exact kf_sjs m (s + 1) _ (kf_sj hw (by omega) hv) (by rw [sj_1 (by decide), sj_1 (by decide)]; omega) (by rw [sj_1 (by decide)]; exact hv)
theorem kf_sk (hw : kf κ) {k : Nat} (hv : κ.1 21 k + 1 < 1000000) : kf (cSk κ k) := by
  unfold cSk
  split
  · exact kf_sjs _ 0 κ hw (by omega) hv
  · exact hw
theorem sks_1 {a j : Nat} (h : a ≠ 8) : ∀ (l : List Nat) (κ : ax_R), (l.foldl cSk κ).1 a j = κ.1 a j ∧ (l.foldl cSk κ).2.1 = κ.2.1
  | [], _ => ⟨rfl, rfl⟩
  | s :: l, κ => by
    rw [List.foldl_cons]
    exact ⟨(sks_1 h l _).1.trans (sk_1 h), (sks_1 (j := j) h l _).2.trans sk_b⟩
theorem kf_sks : ∀ (l : List Nat) (κ : ax_R), kf κ → (∀ j, κ.1 21 j + 1 < 1000000) → kf (l.foldl cSk κ)
  | [], _, hw, _ => hw
  | k :: l, κ, hw, hv => by
    rw [List.foldl_cons]
    exact kf_sks l _ (kf_sk hw (hv k)) (fun j => by rw [sk_1 (by decide)]; exact hv j)
theorem lp_sp1 {Fi : Option ax_V → ax_H → Prop} {t i k : Nat} : ∀ (m : Nat) (κ : ax_R) (s : Nat) (V : ax_R), kf κ → ik κ k → κ.2.1 22 k = true → κ.1 21 k + 1 < 1000000 → s + m = κ.1 5 (κ.1 18 k) → (List.range' s m).foldl (cSj k) κ = V → ax_Z mX3_spread 4 0 0 Fi 98 [some (ax_r (1, 0)), some (ax_r (8, t)), some (ax_i (nI i)), some (ax_r (9, k)), none, none] [] (fh (ch V) ρ) 0 0 → ax_Z mX3_spread 4 0 0 (Fi) 28 [some (ax_r (1, 0)), some (ax_r (8, t)), some (ax_i (nI i)), some (ax_r (9, k)), some (ax_i (nI s)), none] [] (fh (ch κ) ρ) 0 0 := by
  intro m
  induction m with
  | zero =>
    intro κ s V hw hik hwr hv hk hV hK
    have hir := ik.r hw hik
    have h5 := hw.c6 (κ.1 18 k)
    refine ax_aload_n dX3_spread_28 rfl ?_
    refine ax_get (ci := 1) (k := 4) (T := TX0) dX3_spread_29 (ch_I (by assumption)) rfl (by decide) fl_X3_172 rfl ?_
    refine ax_beq 98 dX3_spread_32 (by decide) (fun c32 => absurd c32 (by rw [hwr]; simp)) (fun c32 => ?_)
    refine ax_iload dX3_spread_35 rfl ?_
    refine ax_aload_n dX3_spread_37 rfl ?_
    refine ax_get (ci := 1) (k := 0) (T := TX0) dX3_spread_38 (ch_I (by assumption)) rfl (by decide) fl_X3_218 rfl ?_
    refine ax_get (ci := 2) (k := 2) (T := TX1) dX3_spread_41 (ch_R (by first | assumption | exact ik.r hw (by assumption))) rfl (by decide) fl_X3_250 rfl ?_
    refine ax_nge 98 dX3_spread_44 (by decide) (by omega) (by omega) (fun c44 => ?_) (fun c44 => absurd c44 (by omega))
    refine ax_fg [true, true, true, true, false, false] rfl ?_
    subst hV
    exact hK
  | succ m ih =>
    intro κ s V hw hik hwr hv hk hV hK
    have hir := ik.r hw hik
    have h5 := hw.c6 (κ.1 18 k)
    have hs : s < κ.1 5 (κ.1 18 k) := by omega
    refine ax_aload_n dX3_spread_28 rfl ?_
    refine ax_get (ci := 1) (k := 4) (T := TX0) dX3_spread_29 (ch_I (by assumption)) rfl (by decide) fl_X3_172 rfl ?_
    refine ax_beq 98 dX3_spread_32 (by decide) (fun c32 => absurd c32 (by rw [hwr]; simp)) (fun c32 => ?_)
    refine ax_iload dX3_spread_35 rfl ?_
    refine ax_aload_n dX3_spread_37 rfl ?_
    refine ax_get (ci := 1) (k := 0) (T := TX0) dX3_spread_38 (ch_I (by assumption)) rfl (by decide) fl_X3_218 rfl ?_
    refine ax_get (ci := 2) (k := 2) (T := TX1) dX3_spread_41 (ch_R (by first | assumption | exact ik.r hw (by assumption))) rfl (by decide) fl_X3_250 rfl ?_
    refine ax_nge 98 dX3_spread_44 (by decide) (by omega) (by omega) (fun c44 => absurd c44 (by omega)) (fun c44 => ?_)
    refine ax_aload_n dX3_spread_47 rfl ?_
    refine ax_get (ci := 1) (k := 0) (T := TX0) dX3_spread_48 (ch_I (by assumption)) rfl (by decide) fl_X3_218 rfl ?_
    refine ax_get (ci := 2) (k := 1) (T := TX1) dX3_spread_51 (ch_R (by first | assumption | exact ik.r hw (by assumption))) rfl (by decide) fl_X3_253 rfl ?_
    refine ax_iload dX3_spread_54 rfl ?_
    refine cl_od dX3_spread_56 (by first | assumption | exact ik.r hw (by assumption)) (by omega) ?_
    refine ax_istore dX3_spread_57 rfl (by decide) ?_
    refine ax_aload_n dX3_spread_59 rfl ?_
    refine ax_iload dX3_spread_60 rfl ?_
    refine ax_V1 cv_X3_43 dX3_spread_62 ch_O rfl (ok_isMember (hw.m6 _)) (by decide) (Nat.le_refl _) (Nat.le_refl _) (Nat.le_of_ble_eq_true rfl) ?_
    refine ax_beq 92 dX3_spread_65 (by decide) (fun c65 => ?_) (fun c65 => ?_)
    · refine ax_iincn (n := 1) dX3_spread_92 rfl (by decide) rfl ?_
      refine ax_goto 28 dX3_spread_95 (by decide) ?_
      refine ax_fg [true, true, true, true, true, false] rfl ?_
      first | (refine ax_hq (h2 := fh (ch (cSj k κ s)) ρ) (by rw [cSj, if_pos c65]) ?_; exact ih (cSj k κ s) (s + 1) V (kf_sj hw hs hv) (by unfold ik; rw [sj_1 (by decide), sj_1 (by decide)]; exact hik) (by rw [sj_b]; exact hwr) (by rw [sj_1 (by decide)]; exact hv) (by rw [sj_1 (by decide), sj_1 (by decide)]; omega) (by rw [← hV, List.range'_succ, List.foldl_cons]) hK) | (refine ax_hq (h2 := fh (ch (cSj k κ s)) ρ) (by rw [cSj, if_neg (by simp [c65])]) ?_; exact ih (cSj k κ s) (s + 1) V (kf_sj hw hs hv) (by unfold ik; rw [sj_1 (by decide), sj_1 (by decide)]; exact hik) (by rw [sj_b]; exact hwr) (by rw [sj_1 (by decide)]; exact hv) (by rw [sj_1 (by decide), sj_1 (by decide)]; omega) (by rw [← hV, List.range'_succ, List.foldl_cons]) hK)
    · refine ax_aload_n dX3_spread_68 rfl ?_
      refine ax_get (ci := 1) (k := 0) (T := TX0) dX3_spread_69 (ch_I (by assumption)) rfl (by decide) fl_X3_218 rfl ?_
      refine ax_iload dX3_spread_72 rfl ?_
      refine ax_aload_n dX3_spread_74 rfl ?_
      refine ax_get (ci := 1) (k := 1) (T := TX0) dX3_spread_75 (ch_I (by assumption)) rfl (by decide) fl_X3_222 rfl ?_
      refine ax_S2 cs_X3_122 dX3_spread_78 (ok_ccell) (by decide) (Nat.le_refl _) (Nat.le_refl _) (Nat.le_of_ble_eq_true rfl) ?_
      refine ax_aload_n dX3_spread_81 rfl ?_
      refine ax_get (ci := 1) (k := 5) (T := TX0) dX3_spread_82 (ch_I (by assumption)) rfl (by decide) fl_X3_178 rfl ?_
      rw [if_pos hwr]
      refine ax_aload_n dX3_spread_85 rfl ?_
      refine ax_V0 cv_X3_294 dX3_spread_86 (ch_I (by assumption)) rfl (ok_newVersion (by assumption)) (by decide) (Nat.le_refl _) (Nat.le_refl _) (Nat.le_of_ble_eq_true rfl) ?_
      refine ax_V3v cv_X3_300 dX3_spread_89 (ch_R (by first | assumption | exact ik.r hw (by assumption))) rfl (ok_raise hw hir hs (hw.o8 _) hv) (by decide) (Nat.le_refl _) (Nat.le_refl _) (Nat.le_of_ble_eq_true rfl) ?_
      refine ax_iincn (n := 1) dX3_spread_92 rfl (by decide) rfl ?_
      refine ax_goto 28 dX3_spread_95 (by decide) ?_
      refine ax_fg [true, true, true, true, true, false] rfl ?_
      first | (refine ax_hq (h2 := fh (ch (cSj k κ s)) ρ) (by rw [cSj, if_pos c65]) ?_; exact ih (cSj k κ s) (s + 1) V (kf_sj hw hs hv) (by unfold ik; rw [sj_1 (by decide), sj_1 (by decide)]; exact hik) (by rw [sj_b]; exact hwr) (by rw [sj_1 (by decide)]; exact hv) (by rw [sj_1 (by decide), sj_1 (by decide)]; omega) (by rw [← hV, List.range'_succ, List.foldl_cons]) hK) | (refine ax_hq (h2 := fh (ch (cSj k κ s)) ρ) (by rw [cSj, if_neg (by simp [c65])]) ?_; exact ih (cSj k κ s) (s + 1) V (kf_sj hw hs hv) (by unfold ik; rw [sj_1 (by decide), sj_1 (by decide)]; exact hik) (by rw [sj_b]; exact hwr) (by rw [sj_1 (by decide)]; exact hv) (by rw [sj_1 (by decide), sj_1 (by decide)]; omega) (by rw [← hV, List.range'_succ, List.foldl_cons]) hK)
theorem lp_spr {t : Nat} : ∀ (m : Nat) (κ : ax_R) (i : Nat) (V : ax_R), kf κ → t < κ.1 10 0 → (∀ j, κ.1 21 j + 1 < 1000000) → i + m = κ.1 14 t → (List.range' (8 * t + i) m).foldl cSk κ = V → ax_Z mX3_spread 4 0 0 (ax_DV (fh (ch V) ρ)) 2 [some (ax_r (1, 0)), some (ax_r (8, t)), some (ax_i (nI i)), none, none, none] [] (fh (ch κ) ρ) 0 0 := by
  intro m
  induction m with
  | zero =>
    intro κ i V hw ht hv hk hV
    have h8 := hw.i8 t
    refine ax_iload_n dX3_spread_2 rfl ?_
    refine ax_aload_n dX3_spread_3 rfl ?_
    refine ax_get (ci := 3) (k := 2) (T := TX2) dX3_spread_4 (ch_T (by assumption)) rfl (by decide) fl_X3_205 rfl ?_
    refine ax_V0 cv_X3_46 dX3_spread_7 (ch_lI (by assumption)) rfl (ok_szI (by assumption)) (by decide) (Nat.le_refl _) (Nat.le_refl _) (Nat.le_of_ble_eq_true rfl) ?_
    refine ax_nge 104 dX3_spread_10 (by decide) (by omega) (by omega) (fun c10 => ?_) (fun c10 => absurd c10 (by omega))
    refine ax_vretD dX3_spread_104 rfl ⟨(Nat.le_refl _), (Nat.le_refl _)⟩ ?_
    rw [← hV]; rfl
  | succ m ih =>
    intro κ i V hw ht hv hk hV
    have h8 := hw.i8 t
    have hik : ik κ (8 * t + i) := ik.of hw ht (by omega)
    have hir := ik.r hw hik
    have hwk := kf_sk (k := 8 * t + i) hw (hv _)
    cases hwr : κ.2.1 22 (8 * t + i) with
    | true =>
      refine ax_iload_n dX3_spread_2 rfl ?_
      refine ax_aload_n dX3_spread_3 rfl ?_
      refine ax_get (ci := 3) (k := 2) (T := TX2) dX3_spread_4 (ch_T (by assumption)) rfl (by decide) fl_X3_205 rfl ?_
      refine ax_V0 cv_X3_46 dX3_spread_7 (ch_lI (by assumption)) rfl (ok_szI (by assumption)) (by decide) (Nat.le_refl _) (Nat.le_refl _) (Nat.le_of_ble_eq_true rfl) ?_
      refine ax_nge 104 dX3_spread_10 (by decide) (by omega) (by omega) (fun c10 => absurd c10 (by omega)) (fun c10 => ?_)
      refine ax_aload_n dX3_spread_13 rfl ?_
      refine ax_get (ci := 3) (k := 2) (T := TX2) dX3_spread_14 (ch_T (by assumption)) rfl (by decide) fl_X3_205 rfl ?_
      refine ax_iload_n dX3_spread_17 rfl ?_
      refine ax_V1 cv_X3_77 dX3_spread_18 (ch_lI (by assumption)) rfl (ok_geI hw (by assumption) (by first | assumption | omega)) (by decide) (Nat.le_refl _) (Nat.le_refl _) (Nat.le_of_ble_eq_true rfl) ?_
      refine ax_cast (ci := 1) dX3_spread_21 cl_X3_173 (ch_I (by assumption)) rfl ?_
      refine ax_astore_n dX3_spread_24 rfl (by decide) ?_
      refine ax_iconst (nI 0) dX3_spread_25 (by decide) ?_
      refine ax_istore dX3_spread_26 rfl (by decide) ?_
      refine lp_sp1 (κ.1 5 (κ.1 18 (8 * t + i))) κ 0 _ hw hik hwr (hv _) (Nat.zero_add _) rfl ?_
      refine ax_iincn (n := 1) dX3_spread_98 rfl (by decide) rfl ?_
      refine ax_goto 2 dX3_spread_101 (by decide) ?_
      refine ax_fg [true, true, true, false, false, false] rfl ?_
      refine ax_hq (h2 := fh (ch (cSk κ (8 * t + i))) ρ) (by rw [cSk, if_pos hwr]) ?_
      exact ih (cSk κ (8 * t + i)) (i + 1) V (kf_sk hw (hv _)) (by rw [sk_1 (by decide)]; exact ht) (fun j => by rw [sk_1 (by decide)]; exact hv j) (by rw [sk_1 (by decide)]; omega) (by rw [← hV, List.range'_succ, List.foldl_cons]; rfl)
    | false =>
      refine ax_iload_n dX3_spread_2 rfl ?_
      refine ax_aload_n dX3_spread_3 rfl ?_
      refine ax_get (ci := 3) (k := 2) (T := TX2) dX3_spread_4 (ch_T (by assumption)) rfl (by decide) fl_X3_205 rfl ?_
      refine ax_V0 cv_X3_46 dX3_spread_7 (ch_lI (by assumption)) rfl (ok_szI (by assumption)) (by decide) (Nat.le_refl _) (Nat.le_refl _) (Nat.le_of_ble_eq_true rfl) ?_
      refine ax_nge 104 dX3_spread_10 (by decide) (by omega) (by omega) (fun c10 => absurd c10 (by omega)) (fun c10 => ?_)
      refine ax_aload_n dX3_spread_13 rfl ?_
      refine ax_get (ci := 3) (k := 2) (T := TX2) dX3_spread_14 (ch_T (by assumption)) rfl (by decide) fl_X3_205 rfl ?_
      refine ax_iload_n dX3_spread_17 rfl ?_
      refine ax_V1 cv_X3_77 dX3_spread_18 (ch_lI (by assumption)) rfl (ok_geI hw (by assumption) (by first | assumption | omega)) (by decide) (Nat.le_refl _) (Nat.le_refl _) (Nat.le_of_ble_eq_true rfl) ?_
      refine ax_cast (ci := 1) dX3_spread_21 cl_X3_173 (ch_I (by assumption)) rfl ?_
      refine ax_astore_n dX3_spread_24 rfl (by decide) ?_
      refine ax_iconst (nI 0) dX3_spread_25 (by decide) ?_
      refine ax_istore dX3_spread_26 rfl (by decide) ?_
      refine ax_aload_n dX3_spread_28 rfl ?_
      refine ax_get (ci := 1) (k := 4) (T := TX0) dX3_spread_29 (ch_I (by assumption)) rfl (by decide) fl_X3_172 rfl ?_
      refine ax_beq 98 dX3_spread_32 (by decide) (fun c32 => ?_) (fun c32 => absurd c32 (by rw [hwr]; simp))
      refine ax_iincn (n := 1) dX3_spread_98 rfl (by decide) rfl ?_
      refine ax_goto 2 dX3_spread_101 (by decide) ?_
      refine ax_fg [true, true, true, false, false, false] rfl ?_
      refine ax_hq (h2 := fh (ch (cSk κ (8 * t + i))) ρ) (by rw [cSk, if_neg (by simp [hwr])]) ?_
      exact ih (cSk κ (8 * t + i)) (i + 1) V (kf_sk hw (hv _)) (by rw [sk_1 (by decide)]; exact ht) (fun j => by rw [sk_1 (by decide)]; exact hv j) (by rw [sk_1 (by decide)]; omega) (by rw [← hV, List.range'_succ, List.foldl_cons]; rfl)
theorem ok_spread (hw : kf κ) {t : Nat} (ht : t < κ.1 10 0) (hv : ∀ j, κ.1 21 j + 1 < 1000000) : ax_Ok mX3_spread yX3_spread 4 0 0 [ax_r (1, 0), ax_r (8, t)] (fh (ch κ) ρ) (ax_DV (fh (ch ((rI κ t).foldl cSk κ)) ρ)) := by
  refine ax_Ok.of (by decide) rfl (fun q => by cases q) (Nat.le_of_ble_eq_true rfl) rfl ?_
  refine ax_iconst (nI 0) dX3_spread_0 (by decide) ?_
  refine ax_istore_n dX3_spread_1 rfl (by decide) ?_
  exact lp_spr (κ.1 14 t) κ 0 _ hw ht hv (Nat.zero_add _) rfl
def cLg (t : Nat) (κ : ax_R) (k : Nat) : ax_R := if κ.2.2 9 (8 * κ.1 18 k + κ.1 19 k) = nI t then ru (bc κ k) 9 (8 * κ.1 18 k + κ.1 19 k) (-9) else bc κ k
theorem lg_1 {t k a j : Nat} : (cLg t κ k).1 a j = κ.1 a j := by unfold cLg; split <;> rfl
theorem kf_lg (hw : kf κ) {t k : Nat} (hik : ik κ k) : kf (cLg t κ k) := by
  unfold cLg
  split
  · exact kf_lk (κ := bc κ k) (kf_rc hw) (ik.r hw hik) (hw.o8 k)
  · exact kf_rc hw
theorem lgs_1 {t a j : Nat} : ∀ (l : List Nat) (κ : ax_R), (l.foldl (cLg t) κ).1 a j = κ.1 a j
  | [], _ => rfl
  | s :: l, κ => by rw [List.foldl_cons]; exact (lgs_1 l _).trans lg_1
theorem kf_lgs {t : Nat} : ∀ (m i : Nat) (κ : ax_R), kf κ → t < κ.1 10 0 → i + m ≤ κ.1 14 t → kf ((List.range' (8 * t + i) m).foldl (cLg t) κ)
  | 0, _, _, hw, _, _ => hw
  | m + 1, i, κ, hw, ht, hk => by
    rw [List.range'_succ, List.foldl_cons]
    exact kf_lgs m (i + 1) _ (kf_lg hw (ik.of hw ht (by omega))) (by rw [lg_1]; exact ht) (by rw [lg_1]; omega)
theorem lp_lg {t : Nat} : ∀ (m : Nat) (κ : ax_R) (i : Nat) (V : ax_R), kf κ → t < κ.1 10 0 → i + m = κ.1 14 t → (List.range' (8 * t + i) m).foldl (cLg t) κ = V → ax_Z mX3_letGo 4 0 0 (ax_DV (fh (ch V) ρ)) 2 [some (ax_r (8, t)), some (ax_i (nI i)), none] [] (fh (ch κ) ρ) 0 0 := by
  intro m
  induction m with
  | zero =>
    intro κ i V hw ht hk hV
    have h8 := hw.i8 t
    refine ax_iload_n dX3_letGo_2 rfl ?_
    refine ax_aload_n dX3_letGo_3 rfl ?_
    refine ax_get (ci := 3) (k := 2) (T := TX2) dX3_letGo_4 (ch_T (by assumption)) rfl (by decide) fl_X3_205 rfl ?_
    refine ax_V0 cv_X3_46 dX3_letGo_7 (ch_lI (by assumption)) rfl (ok_szI (by assumption)) (by decide) (Nat.le_refl _) (Nat.le_refl _) (Nat.le_of_ble_eq_true rfl) ?_
    refine ax_nge 61 dX3_letGo_10 (by decide) (by omega) (by omega) (fun c10 => ?_) (fun c10 => absurd c10 (by omega))
    refine ax_vretD dX3_letGo_61 rfl ⟨(Nat.le_refl _), (Nat.le_refl _)⟩ ?_
    rw [← hV]; rfl
  | succ m ih =>
    intro κ i V hw ht hk hV
    have h8 := hw.i8 t
    have hik : ik κ (8 * t + i) := ik.of hw ht (by omega)
    have hir := ik.r hw hik
    refine ax_iload_n dX3_letGo_2 rfl ?_
    refine ax_aload_n dX3_letGo_3 rfl ?_
    refine ax_get (ci := 3) (k := 2) (T := TX2) dX3_letGo_4 (ch_T (by assumption)) rfl (by decide) fl_X3_205 rfl ?_
    refine ax_V0 cv_X3_46 dX3_letGo_7 (ch_lI (by assumption)) rfl (ok_szI (by assumption)) (by decide) (Nat.le_refl _) (Nat.le_refl _) (Nat.le_of_ble_eq_true rfl) ?_
    refine ax_nge 61 dX3_letGo_10 (by decide) (by omega) (by omega) (fun c10 => absurd c10 (by omega)) (fun c10 => ?_)
    refine ax_aload_n dX3_letGo_13 rfl ?_
    refine ax_get (ci := 3) (k := 2) (T := TX2) dX3_letGo_14 (ch_T (by assumption)) rfl (by decide) fl_X3_205 rfl ?_
    refine ax_iload_n dX3_letGo_17 rfl ?_
    refine ax_V1 cv_X3_77 dX3_letGo_18 (ch_lI (by assumption)) rfl (ok_geI hw (by assumption) (by first | assumption | omega)) (by decide) (Nat.le_refl _) (Nat.le_refl _) (Nat.le_of_ble_eq_true rfl) ?_
    refine ax_cast (ci := 1) dX3_letGo_21 cl_X3_173 (ch_I (by assumption)) rfl ?_
    refine ax_astore_n dX3_letGo_24 rfl (by decide) ?_
    refine ax_aload_n dX3_letGo_25 rfl ?_
    refine ax_iconst (nI 0) dX3_letGo_26 (by decide) ?_
    refine ax_put (ci := 1) (k := 6) (T := TX0) (ty := .int) dX3_letGo_27 (ch_I (by assumption)) rfl (by decide) (Nat.le_of_ble_eq_true rfl) fl_X3_267 rfl (by decide +kernel) (fun _ => rfl) (fun _ => rfl) (cu_rc hw hik) ?_
    have hw1 : kf (bc κ (8 * t + i)) := kf_rc hw
    have hik1 : ik (bc κ (8 * t + i)) (8 * t + i) := hik
    have hir1 : (bc κ (8 * t + i)).1 18 (8 * t + i) < (bc κ (8 * t + i)).1 4 0 := hir
    have ht1 : t < (bc κ (8 * t + i)).1 10 0 := ht
    have h13 := hw.nT
    refine ax_aload_n dX3_letGo_30 rfl ?_
    refine ax_aload_n dX3_letGo_31 rfl ?_
    refine ax_get (ci := 3) (k := 0) (T := TX2) dX3_letGo_32 (ch_T (by assumption)) rfl (by decide) fl_X3_159 rfl ?_
    refine ax_V1 cv_X3_319 dX3_letGo_35 (ch_I (by assumption)) rfl (ok_isLockedBy hw1 hik1) (by decide) (Nat.le_refl _) (Nat.le_refl _) (Nat.le_of_ble_eq_true rfl) ?_
    refine ax_beq 55 dX3_letGo_38 (by decide) (fun c38 => ?_) (fun c38 => ?_)
    · have c38 : ¬ κ.2.2 9 (8 * κ.1 18 (8 * t + i) + κ.1 19 (8 * t + i)) = nI t := of_decide_eq_false c38
      refine ax_iincn (n := 1) dX3_letGo_55 rfl (by decide) rfl ?_
      refine ax_goto 2 dX3_letGo_58 (by decide) ?_
      refine ax_fg [true, true, false] rfl ?_
      first | (refine ax_hq (h2 := fh (ch (cLg t κ (8 * t + i))) ρ) (by rw [cLg, if_neg c38]) ?_; exact ih (cLg t κ (8 * t + i)) (i + 1) V (kf_lg hw hik) (by rw [lg_1]; exact ht) (by rw [lg_1]; omega) (by rw [← hV, List.range'_succ, List.foldl_cons]; rfl)) | (refine ax_hq (h2 := fh (ch (cLg t κ (8 * t + i))) ρ) (by rw [cLg, if_pos c38]; rfl) ?_; exact ih (cLg t κ (8 * t + i)) (i + 1) V (kf_lg hw hik) (by rw [lg_1]; exact ht) (by rw [lg_1]; omega) (by rw [← hV, List.range'_succ, List.foldl_cons]; rfl))
    · have c38 : κ.2.2 9 (8 * κ.1 18 (8 * t + i) + κ.1 19 (8 * t + i)) = nI t := of_decide_eq_true c38
      refine ax_aload_n dX3_letGo_41 rfl ?_
      refine ax_get (ci := 1) (k := 0) (T := TX0) dX3_letGo_42 (ch_I (by assumption)) rfl (by decide) fl_X3_218 rfl ?_
      refine ax_get (ci := 2) (k := 6) (T := TX1) dX3_letGo_45 (ch_R (by first | assumption | exact ik.r hw (by assumption))) rfl (by decide) fl_X3_149 rfl ?_
      refine ax_aload_n dX3_letGo_48 rfl ?_
      refine ax_get (ci := 1) (k := 1) (T := TX0) dX3_letGo_49 (ch_I (by assumption)) rfl (by decide) fl_X3_222 rfl ?_
      refine ax_bipush (-9) dX3_letGo_52 (by decide) ?_
      refine ct_lk dX3_letGo_54 (by first | assumption | exact ik.r hw (by assumption)) (by first | omega | exact hw.o8 _) ?_
      refine ax_iincn (n := 1) dX3_letGo_55 rfl (by decide) rfl ?_
      refine ax_goto 2 dX3_letGo_58 (by decide) ?_
      refine ax_fg [true, true, false] rfl ?_
      first | (refine ax_hq (h2 := fh (ch (cLg t κ (8 * t + i))) ρ) (by rw [cLg, if_neg c38]) ?_; exact ih (cLg t κ (8 * t + i)) (i + 1) V (kf_lg hw hik) (by rw [lg_1]; exact ht) (by rw [lg_1]; omega) (by rw [← hV, List.range'_succ, List.foldl_cons]; rfl)) | (refine ax_hq (h2 := fh (ch (cLg t κ (8 * t + i))) ρ) (by rw [cLg, if_pos c38]; rfl) ?_; exact ih (cLg t κ (8 * t + i)) (i + 1) V (kf_lg hw hik) (by rw [lg_1]; exact ht) (by rw [lg_1]; omega) (by rw [← hV, List.range'_succ, List.foldl_cons]; rfl))
theorem ok_letGo (hw : kf κ) {t : Nat} (ht : t < κ.1 10 0) : ax_Ok mX3_letGo yX3_letGo 4 0 0 [ax_r (8, t)] (fh (ch κ) ρ) (ax_DV (fh (ch ((rI κ t).foldl (cLg t) κ)) ρ)) := by
  refine ax_Ok.of (by decide) rfl (fun q => by cases q) (Nat.le_of_ble_eq_true rfl) rfl ?_
  refine ax_iconst (nI 0) dX3_letGo_0 (by decide) ?_
  refine ax_istore_n dX3_letGo_1 rfl (by decide) ?_
  exact lp_lg (κ.1 14 t) κ 0 _ hw ht (Nat.zero_add _) rfl
def cRvA (κ : ax_R) (t : Nat) (cm : Bool) : ax_R := if cm = true then nu (nu (bu ((rI κ t).foldl cSk κ) 15 t true) 12 t 7) 44 t 0 else nu (nu κ 12 t 8) 44 t 0
def cRv (κ : ax_R) (t : Nat) (Q : Nat → Bool) : ax_R := (rI κ t).foldl (cLg t) (cRvA κ t (cIf κ t Q))
theorem rvA_1 {t a j : Nat} {cm : Bool} (h : a ≠ 8 ∧ a ≠ 12 ∧ a ≠ 44) : (cRvA κ t cm).1 a j = κ.1 a j := by
  unfold cRvA
  split
  · simp only [nu, bu, h.2.1, h.2.2, false_and, if_false]
    exact (sks_1 h.1 _ _).1
  · simp [nu, h.2.1, h.2.2]
theorem kf_rvA (hw : kf κ) {t : Nat} {cm : Bool} (ht : t < κ.1 10 0) (hv : ∀ j, κ.1 21 j + 1 < 1000000) : kf (cRvA κ t cm) := by
  unfold cRvA
  split
  · have h1 := kf_sks (rI κ t) κ hw hv
    have h2 : t < ((rI κ t).foldl cSk κ).1 10 0 := by rw [(sks_1 (by decide) _ _).1]; exact ht
    exact kf_cu (kf_ph (kf_dc h1 h2) h2 (by omega)) h2 (by omega)
  · exact kf_cu (kf_ph hw ht (by omega)) ht (by omega)
theorem rv_1 {t a j : Nat} {Q : Nat → Bool} (h : a ≠ 8 ∧ a ≠ 12 ∧ a ≠ 44) : (cRv κ t Q).1 a j = κ.1 a j := (lgs_1 _ _).trans (rvA_1 h)
theorem kf_rv (hw : kf κ) {t : Nat} {Q : Nat → Bool} (ht : t < κ.1 10 0) (hv : ∀ j, κ.1 21 j + 1 < 1000000) : kf (cRv κ t Q) :=
  kf_lgs (κ.1 14 t) 0 _ (kf_rvA hw ht hv) (by rw [rvA_1 (by decide)]; exact ht) (by rw [rvA_1 (by decide)]; omega)
theorem ok_crecover (hw : kf κ) {t : Nat} {Q : Nat → Bool} (ht : t < κ.1 10 0) (hv : ∀ j, κ.1 21 j + 1 < 1000000) : ax_Ok mX3_recover yX3_recover 7 0 0 [ax_r (1, 0), ax_r (8, t), ax_i (nI (mk Q))] (fh (ch κ) ρ) (ax_DV (fh (ch (cRv κ t Q)) ρ)) := by
  refine ax_Ok.of (by decide) rfl (fun q => by cases q) (Nat.le_of_ble_eq_true rfl) rfl ?_
  cases hcm : cIf κ t Q with
  | true =>
    refine ax_aload_n dX3_recover_0 rfl ?_
    refine ax_aload_n dX3_recover_1 rfl ?_
    refine ax_iload_n dX3_recover_2 rfl ?_
    refine ax_V2 cv_X3_329 dX3_recover_3 ch_O rfl (ok_isVotedFor hw ht) (by decide) (Nat.le_refl _) (Nat.le_refl _) (Nat.le_of_ble_eq_true rfl) ?_
    refine ax_beq 28 dX3_recover_6 (by decide) (fun c6 => absurd c6 (by rw [hcm]; simp)) (fun c6 => ?_)
    refine ax_aload_n dX3_recover_9 rfl ?_
    refine ax_aload_n dX3_recover_10 rfl ?_
    refine ax_V1v cv_X3_332 dX3_recover_11 ch_O rfl (ok_spread hw ht hv) (by decide) (Nat.le_refl _) (Nat.le_refl _) (Nat.le_of_ble_eq_true rfl) ?_
    have ht1 : t < ((rI κ t).foldl cSk κ).1 10 0 := by rw [(sks_1 (by decide) _ _).1]; exact ht
    refine ax_aload_n dX3_recover_14 rfl ?_
    refine ax_iconst (ax_b true) dX3_recover_15 (by decide) ?_
    refine ax_put (ci := 3) (k := 6) (T := TX2) (ty := .boolean) dX3_recover_16 (ch_T ht1) rfl (by decide) (Nat.le_of_ble_eq_true rfl) fl_X3_208 rfl (by decide +kernel) (fun _ => rfl) (fun _ => rfl) (cu_dc ht1) ?_
    refine ax_aload_n dX3_recover_19 rfl ?_
    refine ax_bipush (nI 7) dX3_recover_20 (by decide) ?_
    refine ax_V1v cv_X3_89 dX3_recover_22 (ch_T ht1) rfl (ok_enter ht1) (by decide) (Nat.le_refl _) (Nat.le_refl _) (Nat.le_of_ble_eq_true rfl) ?_
    refine ax_goto 34 dX3_recover_25 (by decide) ?_
    refine ax_hq (h2 := fh (ch (cRvA κ t true)) ρ) (by rw [cRvA, if_pos rfl]) ?_
    have hw2 := kf_rvA (cm := true) hw ht hv
    have ht2 : t < (cRvA κ t true).1 10 0 := by rw [rvA_1 (by decide)]; exact ht
    refine ax_aload_n dX3_recover_34 rfl ?_
    refine ax_S1v cs_X3_335 dX3_recover_35 (ok_letGo hw2 ht2) (by decide) (Nat.le_refl _) (Nat.le_refl _) (Nat.le_of_ble_eq_true rfl) ?_
    refine ax_vretD dX3_recover_38 rfl ⟨(Nat.le_refl _), (Nat.le_refl _)⟩ ?_
    rw [cRv, hcm, show rI (cRvA κ t true) t = rI κ t by unfold rI; rw [rvA_1 (by decide)]]
  | false =>
    refine ax_aload_n dX3_recover_0 rfl ?_
    refine ax_aload_n dX3_recover_1 rfl ?_
    refine ax_iload_n dX3_recover_2 rfl ?_
    refine ax_V2 cv_X3_329 dX3_recover_3 ch_O rfl (ok_isVotedFor hw ht) (by decide) (Nat.le_refl _) (Nat.le_refl _) (Nat.le_of_ble_eq_true rfl) ?_
    refine ax_beq 28 dX3_recover_6 (by decide) (fun c6 => ?_) (fun c6 => absurd c6 (by rw [hcm]; simp))
    refine ax_aload_n dX3_recover_28 rfl ?_
    refine ax_bipush (nI 8) dX3_recover_29 (by decide) ?_
    refine ax_V1v cv_X3_89 dX3_recover_31 (ch_T (by assumption)) rfl (ok_enter ht) (by decide) (Nat.le_refl _) (Nat.le_refl _) (Nat.le_of_ble_eq_true rfl) ?_
    refine ax_hq (h2 := fh (ch (cRvA κ t false)) ρ) (by rw [cRvA, if_neg (by simp)]) ?_
    have hw2 := kf_rvA (cm := false) hw ht hv
    have ht2 : t < (cRvA κ t false).1 10 0 := by rw [rvA_1 (by decide)]; exact ht
    refine ax_aload_n dX3_recover_34 rfl ?_
    refine ax_S1v cs_X3_335 dX3_recover_35 (ok_letGo hw2 ht2) (by decide) (Nat.le_refl _) (Nat.le_refl _) (Nat.le_of_ble_eq_true rfl) ?_
    refine ax_vretD dX3_recover_38 rfl ⟨(Nat.le_refl _), (Nat.le_refl _)⟩ ?_
    rw [cRv, hcm, show rI (cRvA κ t false) t = rI κ t by unfold rI; rw [rvA_1 (by decide)]]
def cC4 (Q : Nat → Bool) (s : Nat × ax_R) (t : Nat) : Nat × ax_R := if s.2.1 12 t = 0 ∧ s.2.2.1 1 (s.2.1 11 t) = false then (s.1, nu (nu s.2 12 t 8) 44 t 0) else if cTr s.2 t Q = true then (s.1 + 1, cRv s.2 t Q) else s
def cCf1 (κ : ax_R) : ax_R := nu (bm κ) 3 0 (κ.1 3 0 + 1)
def cCf (κ : ax_R) : Int32 × ax_R := if (∀ m, m < 6 → κ.2.1 1 m = κ.2.1 0 m) ∨ (List.range' 0 6).any (κ.2.1 0) = false then (-3, κ) else (nI ((List.range' 0 (κ.1 10 0)).foldl (cC4 (κ.2.1 1)) (0, cCf1 κ)).1, ((List.range' 0 (κ.1 10 0)).foldl (cC4 (κ.2.1 1)) (0, cCf1 κ)).2)
theorem lp_cf {Q : Nat → Bool} : ∀ (m : Nat) (κ : ax_R) (n t : Nat) (V : Nat × ax_R), kf κ → (∀ j, κ.1 21 j + 1 < 1000000) → t + m = κ.1 10 0 → (List.range' t m).foldl (cC4 Q) (n, κ) = V → ax_Z mX3_configure 8 0 0 (ax_D (ax_i (nI V.1)) (fh (ch V.2) ρ)) 48 [some (ax_r (1, 0)), some (ax_i (nI (mk Q))), some (ax_i (nI n)), some (ax_i (nI t)), none] [] (fh (ch κ) ρ) 0 0 := by
  intro m
  induction m with
  | zero =>
    intro κ n t V hw hv hk hV
    have h6 := hw.nT
    refine ax_iload_n dX3_configure_48 rfl ?_
    refine ax_aload_n dX3_configure_49 rfl ?_
    refine ax_get (ci := 4) (k := 1) (T := TX3) dX3_configure_50 ch_O rfl (by decide) fl_X3_16 rfl ?_
    refine ax_V0 cv_X3_46 dX3_configure_53 ch_lT rfl (ok_szT) (by decide) (Nat.le_refl _) (Nat.le_refl _) (Nat.le_of_ble_eq_true rfl) ?_
    refine ax_nge 128 dX3_configure_56 (by decide) (by omega) (by omega) (fun c56 => ?_) (fun c56 => absurd c56 (by omega))
    refine ax_iload_n dX3_configure_128 rfl ?_
    refine ax_iretD dX3_configure_129 rfl ⟨(Nat.le_refl _), (Nat.le_refl _)⟩ ?_ ?_
    · rw [← hV]; rfl
    · rw [← hV]; rfl
  | succ m ih =>
    intro κ n t V hw hv hk hV
    have h6 := hw.nT
    have ht : t < κ.1 10 0 := by omega
    have h12 := hw.p8 t
    refine ax_iload_n dX3_configure_48 rfl ?_
    refine ax_aload_n dX3_configure_49 rfl ?_
    refine ax_get (ci := 4) (k := 1) (T := TX3) dX3_configure_50 ch_O rfl (by decide) fl_X3_16 rfl ?_
    refine ax_V0 cv_X3_46 dX3_configure_53 ch_lT rfl (ok_szT) (by decide) (Nat.le_refl _) (Nat.le_refl _) (Nat.le_of_ble_eq_true rfl) ?_
    refine ax_nge 128 dX3_configure_56 (by decide) (by omega) (by omega) (fun c56 => absurd c56 (by omega)) (fun c56 => ?_)
    refine ax_aload_n dX3_configure_59 rfl ?_
    refine ax_get (ci := 4) (k := 1) (T := TX3) dX3_configure_60 ch_O rfl (by decide) fl_X3_16 rfl ?_
    refine ax_iload_n dX3_configure_63 rfl ?_
    refine ax_V1 cv_X3_77 dX3_configure_64 ch_lT rfl (ok_geT hw (by first | assumption | omega)) (by decide) (Nat.le_refl _) (Nat.le_refl _) (Nat.le_of_ble_eq_true rfl) ?_
    refine ax_cast (ci := 3) dX3_configure_67 cl_X3_81 (ch_T (by assumption)) rfl ?_
    refine ax_astore dX3_configure_70 rfl (by decide) ?_
    refine ax_aload dX3_configure_72 rfl ?_
    refine ax_get (ci := 3) (k := 3) (T := TX2) dX3_configure_74 (ch_T (by assumption)) rfl (by decide) fl_X3_83 rfl ?_
    refine ax_zne 102 dX3_configure_77 (by decide) (by omega) (fun c77 => ?_) (fun c77 => ?_)
    · refine ax_aload_n dX3_configure_102 rfl ?_
      refine ax_aload dX3_configure_103 rfl ?_
      refine ax_iload_n dX3_configure_105 rfl ?_
      refine ax_V2 cv_X3_92 dX3_configure_106 ch_O rfl (ok_itbr hw ht) (by decide) (Nat.le_refl _) (Nat.le_refl _) (Nat.le_of_ble_eq_true rfl) ?_
      refine ax_beq 122 dX3_configure_109 (by decide) (fun c109 => ?_) (fun c109 => ?_)
      · refine ax_iincn (n := 1) dX3_configure_122 rfl (by decide) rfl ?_
        refine ax_goto 48 dX3_configure_125 (by decide) ?_
        refine ax_fg [true, true, true, true, false] rfl ?_
        have hne : ¬ (κ.1 12 t = 0 ∧ κ.2.1 1 (κ.1 11 t) = false) := by simp [c77]
        first | (exact ih κ n (t + 1) V hw hv (by omega) (by rw [← hV, List.range'_succ, List.foldl_cons, cC4, if_neg hne, if_neg (by simp [c109])])) | (exact ih (cRv κ t Q) (n + 1) (t + 1) V (kf_rv hw ht hv) (fun j => by rw [rv_1 (by decide)]; exact hv j) (by rw [rv_1 (by decide)]; omega) (by rw [← hV, List.range'_succ, List.foldl_cons, cC4, if_neg hne, if_pos c109]))
      · refine ax_aload_n dX3_configure_112 rfl ?_
        refine ax_aload dX3_configure_113 rfl ?_
        refine ax_iload_n dX3_configure_115 rfl ?_
        refine ax_V2v cv_X3_96 dX3_configure_116 ch_O rfl (ok_crecover hw ht hv) (by decide) (Nat.le_refl _) (Nat.le_refl _) (Nat.le_of_ble_eq_true rfl) ?_
        refine ax_iincn (n := 1) dX3_configure_119 rfl (by decide) rfl ?_
        refine ax_iincn (n := 1) dX3_configure_122 rfl (by decide) rfl ?_
        refine ax_goto 48 dX3_configure_125 (by decide) ?_
        refine ax_fg [true, true, true, true, false] rfl ?_
        have hne : ¬ (κ.1 12 t = 0 ∧ κ.2.1 1 (κ.1 11 t) = false) := by simp [c77]
        first | (exact ih κ n (t + 1) V hw hv (by omega) (by rw [← hV, List.range'_succ, List.foldl_cons, cC4, if_neg hne, if_neg (by simp [c109])])) | (exact ih (cRv κ t Q) (n + 1) (t + 1) V (kf_rv hw ht hv) (fun j => by rw [rv_1 (by decide)]; exact hv j) (by rw [rv_1 (by decide)]; omega) (by rw [← hV, List.range'_succ, List.foldl_cons, cC4, if_neg hne, if_pos c109]))
    · refine ax_aload_n dX3_configure_80 rfl ?_
      refine ax_aload dX3_configure_81 rfl ?_
      refine ax_get (ci := 3) (k := 1) (T := TX2) dX3_configure_83 (ch_T (by assumption)) rfl (by decide) fl_X3_86 rfl ?_
      refine ax_V1 cv_X3_43 dX3_configure_86 ch_O rfl (ok_isMember (by first | omega | exact hw.m6 _ | exact hw.co6 _)) (by decide) (Nat.le_refl _) (Nat.le_refl _) (Nat.le_of_ble_eq_true rfl) ?_
      refine ax_bne 102 dX3_configure_89 (by decide) (fun c89 => ?_) (fun c89 => ?_)
      · refine ax_aload_n dX3_configure_102 rfl ?_
        refine ax_aload dX3_configure_103 rfl ?_
        refine ax_iload_n dX3_configure_105 rfl ?_
        refine ax_V2 cv_X3_92 dX3_configure_106 ch_O rfl (ok_itbr hw ht) (by decide) (Nat.le_refl _) (Nat.le_refl _) (Nat.le_of_ble_eq_true rfl) ?_
        refine ax_beq 122 dX3_configure_109 (by decide) (fun c109 => ?_) (fun c109 => ?_)
        · refine ax_iincn (n := 1) dX3_configure_122 rfl (by decide) rfl ?_
          refine ax_goto 48 dX3_configure_125 (by decide) ?_
          refine ax_fg [true, true, true, true, false] rfl ?_
          have hne : ¬ (κ.1 12 t = 0 ∧ κ.2.1 1 (κ.1 11 t) = false) := by simp [c77, c89]
          first | (exact ih κ n (t + 1) V hw hv (by omega) (by rw [← hV, List.range'_succ, List.foldl_cons, cC4, if_neg hne, if_neg (by simp [c109])])) | (exact ih (cRv κ t Q) (n + 1) (t + 1) V (kf_rv hw ht hv) (fun j => by rw [rv_1 (by decide)]; exact hv j) (by rw [rv_1 (by decide)]; omega) (by rw [← hV, List.range'_succ, List.foldl_cons, cC4, if_neg hne, if_pos c109]))
        · refine ax_aload_n dX3_configure_112 rfl ?_
          refine ax_aload dX3_configure_113 rfl ?_
          refine ax_iload_n dX3_configure_115 rfl ?_
          refine ax_V2v cv_X3_96 dX3_configure_116 ch_O rfl (ok_crecover hw ht hv) (by decide) (Nat.le_refl _) (Nat.le_refl _) (Nat.le_of_ble_eq_true rfl) ?_
          refine ax_iincn (n := 1) dX3_configure_119 rfl (by decide) rfl ?_
          refine ax_iincn (n := 1) dX3_configure_122 rfl (by decide) rfl ?_
          refine ax_goto 48 dX3_configure_125 (by decide) ?_
          refine ax_fg [true, true, true, true, false] rfl ?_
          have hne : ¬ (κ.1 12 t = 0 ∧ κ.2.1 1 (κ.1 11 t) = false) := by simp [c77, c89]
          first | (exact ih κ n (t + 1) V hw hv (by omega) (by rw [← hV, List.range'_succ, List.foldl_cons, cC4, if_neg hne, if_neg (by simp [c109])])) | (exact ih (cRv κ t Q) (n + 1) (t + 1) V (kf_rv hw ht hv) (fun j => by rw [rv_1 (by decide)]; exact hv j) (by rw [rv_1 (by decide)]; omega) (by rw [← hV, List.range'_succ, List.foldl_cons, cC4, if_neg hne, if_pos c109]))
      · refine ax_aload dX3_configure_92 rfl ?_
        refine ax_bipush (nI 8) dX3_configure_94 (by decide) ?_
        refine ax_V1v cv_X3_89 dX3_configure_96 (ch_T (by assumption)) rfl (ok_enter ht) (by decide) (Nat.le_refl _) (Nat.le_refl _) (Nat.le_of_ble_eq_true rfl) ?_
        refine ax_goto 122 dX3_configure_99 (by decide) ?_
        refine ax_iincn (n := 1) dX3_configure_122 rfl (by decide) rfl ?_
        refine ax_goto 48 dX3_configure_125 (by decide) ?_
        refine ax_fg [true, true, true, true, false] rfl ?_
        exact ih _ n (t + 1) V (kf_cu (kf_ph hw ht (by omega)) ht (by omega)) hv (by show t + 1 + m = κ.1 10 0; omega) (by rw [← hV, List.range'_succ, List.foldl_cons, cC4, if_pos ⟨c77, c89⟩])
theorem ok_cconfigure (hw : kf κ) (hv : ∀ j, κ.1 21 j + 1 < 1000000) (h3 : κ.1 3 0 + 1 < 1000000) : ax_Ok mX3_configure yX3_configure 8 0 0 [ax_r (1, 0)] (fh (ch κ) ρ) (ax_D (ax_i (cCf κ).1) (fh (ch (cCf κ).2) ρ)) := by
  refine ax_Ok.of (by decide) rfl (fun q => by cases q) (Nat.le_of_ble_eq_true rfl) rfl ?_
  refine ax_aload_n dX3_configure_0 rfl ?_
  refine ax_get (ci := 4) (k := 5) (T := TX3) dX3_configure_1 ch_O rfl (by decide) fl_X3_30 rfl ?_
  refine ax_aload_n dX3_configure_4 rfl ?_
  refine ax_get (ci := 4) (k := 4) (T := TX3) dX3_configure_5 ch_O rfl (by decide) fl_X3_26 rfl ?_
  refine ax_icmp_eq 18 dX3_configure_8 (by decide) (fun c8 => ?_) (fun c8 => ?_)
  · rw [k_inj] at c8
    refine ax_bipush (-3) dX3_configure_18 (by decide) ?_
    refine ax_iretD dX3_configure_20 rfl ⟨(Nat.le_refl _), (Nat.le_refl _)⟩ ?_ ?_
    · first | (rw [show cCf κ = _ from if_pos (Or.inl c8)]; done) | (rw [show cCf κ = _ from if_pos (Or.inr c15)]; done)
    · first | (rw [show cCf κ = _ from if_pos (Or.inl c8)]; done) | (rw [show cCf κ = _ from if_pos (Or.inr c15)]; done)
  · rw [k_inj] at c8
    refine ax_aload_n dX3_configure_11 rfl ?_
    refine ax_get (ci := 4) (k := 4) (T := TX3) dX3_configure_12 ch_O rfl (by decide) fl_X3_26 rfl ?_
    refine ax_if_ne 21 dX3_configure_15 (by decide) (fun c15 => ?_) (fun c15 => ?_)
    · rw [k_z] at c15
      refine ax_aload_n dX3_configure_21 rfl ?_
      refine ax_get (ci := 4) (k := 5) (T := TX3) dX3_configure_22 ch_O rfl (by decide) fl_X3_30 rfl ?_
      refine ax_istore_n dX3_configure_25 rfl (by decide) ?_
      refine ax_aload_n dX3_configure_26 rfl ?_
      refine ax_aload_n dX3_configure_27 rfl ?_
      refine ax_get (ci := 4) (k := 4) (T := TX3) dX3_configure_28 ch_O rfl (by decide) fl_X3_26 rfl ?_
      refine ax_put (ci := 4) (k := 5) (T := TX3) (ty := .int) dX3_configure_31 ch_O rfl (by decide) (Nat.le_of_ble_eq_true rfl) fl_X3_30 rfl (by decide +kernel) (fun _ => rfl) (fun _ => rfl) cu_me ?_
      refine ax_aload_n dX3_configure_34 rfl ?_
      refine ax_dup dX3_configure_35 rfl ?_
      refine ax_get (ci := 4) (k := 6) (T := TX3) dX3_configure_36 ch_O rfl (by decide) fl_X3_33 rfl ?_
      refine ax_iconst (nI 1) dX3_configure_39 (by decide) ?_
      refine ax_iaddn dX3_configure_40 ?_
      refine ax_put (ci := 4) (k := 6) (T := TX3) (ty := .int) dX3_configure_41 ch_O rfl (by decide) (Nat.le_of_ble_eq_true rfl) fl_X3_33 rfl (by decide +kernel) (fun _ => rfl) (fun _ => rfl) (cu_cf (κ := bm κ)) ?_
      refine ax_iconst (nI 0) dX3_configure_44 (by decide) ?_
      refine ax_istore_n dX3_configure_45 rfl (by decide) ?_
      refine ax_iconst (nI 0) dX3_configure_46 (by decide) ?_
      refine ax_istore_n dX3_configure_47 rfl (by decide) ?_
      refine ax_fg [true, true, true, true, false] rfl ?_
      rw [show cCf κ = _ from if_neg (by rintro (z | z); exact c8 z; exact c15 z)]
      exact lp_cf (κ.1 10 0) (cCf1 κ) 0 0 _ (kf_cf (kf_me hw) h3) hv (Nat.zero_add _) rfl
    · rw [k_z] at c15
      refine ax_bipush (-3) dX3_configure_18 (by decide) ?_
      refine ax_iretD dX3_configure_20 rfl ⟨(Nat.le_refl _), (Nat.le_refl _)⟩ ?_ ?_
      · first | (rw [show cCf κ = _ from if_pos (Or.inl c8)]; done) | (rw [show cCf κ = _ from if_pos (Or.inr c15)]; done)
      · first | (rw [show cCf κ = _ from if_pos (Or.inl c8)]; done) | (rw [show cCf κ = _ from if_pos (Or.inr c15)]; done)
theorem i2_1 : ∀ (l : List Nat) (ρ : ax_R), (l.foldl rI2 ρ).1 = ρ.1 ∧ (l.foldl rI2 ρ).2.1 = ρ.2.1
  | [], _ => ⟨rfl, rfl⟩
  | _ :: l, ρ => ⟨(i2_1 l _).1, (i2_1 l _).2⟩
theorem i1_1 : ∀ (l : List Nat) (ρ : ax_R), (l.foldl rI1 ρ).1 = ρ.1 ∧ (l.foldl rI1 ρ).2.2 = ρ.2.2
  | [], _ => ⟨rfl, rfl⟩
  | _ :: l, ρ => ⟨(i1_1 l _).1, (i1_1 l _).2⟩
theorem i2_r : ∀ (l : List Nat) (ρ : ax_R) (k j : Nat), (l.foldl rI2 ρ).2.2 k j = if k = 9 ∧ j ∈ l then -9 else ρ.2.2 k j
  | [], _, _, _ => by simp
  | x :: l, ρ, k, j => by
    rw [List.foldl_cons, i2_r l]
    by_cases h9 : k = 9
    · by_cases hj : j = x
      · simp [h9, hj, rI2, ru]
      · simp [h9, hj, rI2, ru]
    · simp [h9, rI2, ru]
theorem i1_b : ∀ (l : List Nat) (ρ : ax_R) (k j : Nat), (l.foldl rI1 ρ).2.1 k j = if (k = 0 ∨ k = 1) ∧ j ∈ l then true else ρ.2.1 k j
  | [], _, _, _ => by simp
  | x :: l, ρ, k, j => by
    rw [List.foldl_cons, i1_b l]
    by_cases h0 : k = 0
    · by_cases hj : j = x <;> simp [h0, hj, rI1, bu]
    · by_cases h1 : k = 1
      · by_cases hj : j = x <;> simp [h1, hj, rI1, bu]
      · simp [h0, h1, rI1, bu]
theorem new_1 : rNew.1 = fun _ _ => 0 := (i2_1 _ _).1.trans (i1_1 _ _).1
theorem new_b {k j : Nat} : rNew.2.1 k j = decide ((k = 0 ∨ k = 1) ∧ j < 6) := by
  unfold rNew
  rw [(i2_1 _ _).2, i1_b]
  have : (j ∈ List.range' 0 6) = (j < 6) := by rw [List.mem_range'_1]; simp
  simp only [this]
  by_cases h : (k = 0 ∨ k = 1) ∧ j < 6
  · rw [if_pos h, decide_eq_true h]
  · rw [if_neg h, decide_eq_false h]; rfl
theorem new_r {k j : Nat} : rNew.2.2 k j = if k = 9 ∧ j < 48 then -9 else 0 := by
  unfold rNew
  rw [i2_r, (i1_1 _ _).2]
  have : (j ∈ List.range' 0 48) = (j < 48) := by rw [List.mem_range'_1]; simp
  simp only [this]
  rfl
theorem kf_new : kf rNew := by
  have dz : ∀ k s, dn rNew k s = false := fun k s => by unfold dn; rw [new_1]; simp
  have b41 : ∀ j, rNew.2.1 41 j = false := fun j => by rw [new_b]; simp
  refine ⟨?_, ?_, ?_, ?_, ?_, ?_, ?_, ?_, ?_, ?_, ?_, ?_, ?_, ?_, ?_, ?_, ?_, ?_, ?_, ?_, ?_, ?_⟩ <;> try (simp only [new_1]; intros; omega)
  · intro r s q h1 h2 h3
    exact ⟨by rw [new_r, if_neg (by simp)], by rw [new_1]⟩
  · intro k s _ _
    exact ⟨b41 _, dz k s⟩
  · intro m hm
    exact ⟨by rw [new_b]; simp; omega, by rw [new_b]; simp; omega⟩
  · intro r _
    exact ⟨by rw [new_1], fun h6 q hq => by rw [new_r, if_pos ⟨rfl, by omega⟩]⟩
  · intro t _
    exact ⟨by rw [new_1], by rw [new_1], by rw [new_1], by rw [new_b]; simp, by rw [new_1]⟩
  · intro t i _ _
    exact ⟨by rw [new_b]; simp, by rw [new_1], fun s _ => b41 _⟩
  · intro r s _ _
    rw [new_1]
theorem new_ch : ∀ u, u ∉ [(1, 0), (2, 0), (10, 0), (11, 0), (12, 0)] → (none : Option ax_C) = ch rNew u := by
  intro u hu
  simp only [List.mem_cons, List.not_mem_nil, or_false, not_or] at hu
  obtain ⟨u1, u2, u10, u11, u12⟩ := hu
  obtain ⟨a, x⟩ := u
  unfold ch
  simp only [new_1]
  split <;> first | rfl | (rw [if_neg (by simp_all)]) | simp_all
theorem mk_63 {P : Nat → Bool} (h : ∀ m, m < 6 → P m = true) : mk P = 63 := by
  rw [mk_co (Q := fun _ => true) h]
  rfl
theorem ok_xinit  : ax_Ok mX3_init yX3_init 4 4 57 [ax_r (1, 0)] (ax_up (fun _ => none) (1, 0) (ax_o 4 [ax_z, ax_z, ax_z, ax_z, ax_i (nI 0), ax_i (nI 0), ax_i (nI 0)])) (ax_DV (ch rNew)) := by
  refine ax_Ok.of (by decide) rfl (fun _ => rfl) (Nat.le_of_ble_eq_true rfl) rfl ?_
  have e0 : ∀ k j, rNew.1 k j = 0 := fun k j => by rw [new_1]
  have e63 : ∀ k, k = 0 ∨ k = 1 → mk (rNew.2.1 k) = 63 := fun k hk => mk_63 (fun m hm => by rw [new_b]; simp [hk, hm])
  have e1 : ch rNew (1, 0) = some (ax_o 4 [ax_r (10, 0), ax_r (11, 0), ax_r (12, 0), ax_r (2, 0), ax_i (nI 63), ax_i (nI 63), ax_i (nI 0)]) := by show some (ax_o 4 (fO rNew)) = _; unfold fO; rw [e63 0 (Or.inl rfl), e63 1 (Or.inr rfl), e0]
  have e2 : ch rNew (2, 0) = some (ax_ai 48 (fun _ => 0)) := by show some (ax_ai 48 (rNew.2.2 32)) = _; refine congrArg (fun f => some (ax_ai 48 f)) ?_; funext j; rw [new_r, if_neg (by simp)]
  have e10 : ch rNew (10, 0) = some (ax_o 0 [ax_i (nI 0), ax_r ax_E, ax_i (nI 0)]) := by show lsC (rNew.1 4 0) (if rNew.1 4 0 = 0 then ax_E else (14, 0)) = _; rw [e0]; rfl
  have e11 : ch rNew (11, 0) = some (ax_o 0 [ax_i (nI 0), ax_r ax_E, ax_i (nI 0)]) := by show lsC (rNew.1 10 0) (if rNew.1 10 0 = 0 then ax_E else (16, lvl (rNew.1 10 0))) = _; rw [e0]; rfl
  have e12 : ch rNew (12, 0) = some (ax_o 0 [ax_i (nI 0), ax_r ax_E, ax_i (nI 0)]) := by show lsC (rNew.1 17 0) (if rNew.1 17 0 = 0 then ax_E else (17, lvl (rNew.1 17 0))) = _; rw [e0]; rfl
  refine ax_aload_n dX3_init_0 rfl ?_
  refine ax_oinit dX3_init_1 ml_X3_1 oi_w2 oi_w3 (by decide) (Nat.le_of_ble_eq_true rfl) ?_
  refine ax_aload_n dX3_init_4 rfl ?_
  refine ax_new (10, 0) dX3_init_5 (ci := 0) (fs := [ax_i (nI 0), ax_z, ax_i (nI 0)]) rfl cl_X3_7 is_Jx4a65c in_Jx4a65c df_Jx4a65c dk_Jx4a65c (by simp [ax_up]) (by simp) (by decide) (by decide) ?_
  refine ax_dup dX3_init_8 rfl ?_
  refine ax_I0 ci_X3_9 dX3_init_9 (ok_linit ax_up_s) (by decide) (by decide) (by decide) (Nat.le_of_ble_eq_true rfl) ?_
  refine ax_putF (ci := 4) (k := 0) (T := TX3) (ty := .object "java/util/ArrayList") dX3_init_12 (hn_ups (by simp) (hn_ups (by simp) ax_up_s)) rfl (by decide) (Nat.le_of_ble_eq_true rfl) fl_X3_10 rfl rfl rfl (by decide +kernel) (fun _ => rfl) (fun _ => rfl) rfl ?_
  refine ax_aload_n dX3_init_15 rfl ?_
  refine ax_new (11, 0) dX3_init_16 (ci := 0) (fs := [ax_i (nI 0), ax_z, ax_i (nI 0)]) rfl cl_X3_7 is_Jx4a65c in_Jx4a65c df_Jx4a65c dk_Jx4a65c (by simp [ax_up]) (by simp) (by decide) (by decide) ?_
  refine ax_dup dX3_init_19 rfl ?_
  refine ax_I0 ci_X3_9 dX3_init_20 (ok_linit ax_up_s) (by decide) (by decide) (by decide) (Nat.le_of_ble_eq_true rfl) ?_
  refine ax_putF (ci := 4) (k := 1) (T := TX3) (ty := .object "java/util/ArrayList") dX3_init_23 (hn_ups (by simp) (hn_ups (by simp) ax_up_s)) rfl (by decide) (Nat.le_of_ble_eq_true rfl) fl_X3_16 rfl rfl rfl (by decide +kernel) (fun _ => rfl) (fun _ => rfl) rfl ?_
  refine ax_aload_n dX3_init_26 rfl ?_
  refine ax_new (12, 0) dX3_init_27 (ci := 0) (fs := [ax_i (nI 0), ax_z, ax_i (nI 0)]) rfl cl_X3_7 is_Jx4a65c in_Jx4a65c df_Jx4a65c dk_Jx4a65c (by simp [ax_up]) (by simp) (by decide) (by decide) ?_
  refine ax_dup dX3_init_30 rfl ?_
  refine ax_I0 ci_X3_9 dX3_init_31 (ok_linit ax_up_s) (by decide) (by decide) (by decide) (Nat.le_of_ble_eq_true rfl) ?_
  refine ax_putF (ci := 4) (k := 2) (T := TX3) (ty := .object "java/util/ArrayList") dX3_init_34 (hn_ups (by simp) (hn_ups (by simp) ax_up_s)) rfl (by decide) (Nat.le_of_ble_eq_true rfl) fl_X3_19 rfl rfl rfl (by decide +kernel) (fun _ => rfl) (fun _ => rfl) rfl ?_
  refine ax_aload_n dX3_init_37 rfl ?_
  refine ax_bipush (nI 48) dX3_init_38 (by decide) ?_
  refine ax_newi (2, 0) 48 dX3_init_40 ac_i (by decide) (by decide) (by decide) (by simp [ax_up]) (by simp) (by decide) (by decide) ?_
  refine ax_putF (ci := 4) (k := 3) (T := TX3) (ty := .array .int) dX3_init_42 (hn_ups (by simp) ax_up_s) rfl (by decide) (Nat.le_of_ble_eq_true rfl) fl_X3_22 rfl rfl rfl (by decide +kernel) (fun _ => rfl) (fun _ => rfl) rfl ?_
  refine ax_aload_n dX3_init_45 rfl ?_
  refine ax_bipush (nI 63) dX3_init_46 (by decide) ?_
  refine ax_put (ci := 4) (k := 4) (T := TX3) (ty := .int) dX3_init_48 ax_up_s rfl (by decide) (Nat.le_of_ble_eq_true rfl) fl_X3_26 rfl (by decide +kernel) (fun _ => rfl) (fun _ => rfl) rfl ?_
  refine ax_aload_n dX3_init_51 rfl ?_
  refine ax_aload_n dX3_init_52 rfl ?_
  refine ax_get (ci := 4) (k := 4) (T := TX3) dX3_init_53 ax_up_s rfl (by decide) fl_X3_26 rfl ?_
  refine ax_put (ci := 4) (k := 5) (T := TX3) (ty := .int) dX3_init_56 ax_up_s rfl (by decide) (Nat.le_of_ble_eq_true rfl) fl_X3_30 rfl (by decide +kernel) (fun _ => rfl) (fun _ => rfl) rfl ?_
  refine ax_aload_n dX3_init_59 rfl ?_
  refine ax_iconst (nI 0) dX3_init_60 (by decide) ?_
  refine ax_put (ci := 4) (k := 6) (T := TX3) (ty := .int) dX3_init_61 ax_up_s rfl (by decide) (Nat.le_of_ble_eq_true rfl) fl_X3_33 rfl (by decide +kernel) (fun _ => rfl) (fun _ => rfl) rfl ?_
  refine ax_vretD dX3_init_64 rfl ⟨(by decide), (by decide)⟩ ?_
  exact eqx_e (eqx_s e1 (eqx_d (by simp) (eqx_d (by simp) (eqx_d (by simp) (eqx_s e2 (eqx_d (by simp) (eqx_s e12 (eqx_d (by simp) (eqx_d (by simp) (eqx_s e11 (eqx_d (by simp) (eqx_d (by simp) (eqx_s e10 (eqx_d (by simp) (eqx_d (by simp) (fun u hu => new_ch u (fun z => hu (by simp only [List.mem_cons, List.not_mem_nil, or_false] at z ⊢; rcases z with z | z | z | z | z <;> simp [z]))))))))))))))))))
end CLS11
