theorem sw_out {w : Int32} (n : Nat) (hn : n < 1000) (h : ∀ k, k ≤ n → ¬ w = nI k) : w.toInt < 0 ∨ (n : Int) < w.toInt := by
  rcases pk_ix w (n := n + 1) (by omega) with h1 | h1 | ⟨j, hj, e⟩
  · left
    have := Int32.lt_iff_toInt_lt.mp h1
    simpa using this
  · right
    have := Int32.le_iff_toInt_le.mp h1
    rw [nI_toInt (by omega)] at this
    omega
  · exact absurd e (h j (by omega))
def rIp (ρ : ax_R) (p : Nat) : Nat := (List.range' 0 (ρ.1 10 0)).countP fun t => decide (ρ.1 12 t = p)
def rLk (ρ : ax_R) : Nat := (List.range' 0 (8 * ρ.1 4 0)).countP fun k => !decide (ρ.2.2 9 k = -9) && !decide (rM ρ (k / 8) = 0)
def rQm (ρ : ax_R) : Nat := (List.range' 0 6).countP (ρ.2.1 1)
def rQr (ρ : ax_R) : Nat := (List.range' 0 (ρ.1 25 0)).countP fun k => !decide (ρ.2.2 26 k = -9) && rO ρ (ρ.1 18 (ρ.2.2 26 k).toNatClampNeg) (ρ.1 27 k)
def rQl (ρ : ax_R) : Nat := (List.range' 0 (ρ.1 4 0)).countP fun r => decide (rM ρ r = 0)
def rQc (ρ : ax_R) (w : Int32) : Int32 := if w = nI 0 then nI (ρ.1 4 0) else if w = nI 1 then nI (ρ.1 10 0) else if w = nI 2 then nI (ρ.1 3 0) else if w = nI 3 then nI (rQm ρ) else if w = nI 4 then nI (rUp ρ) else if w = nI 5 then nI (rIp ρ 7) else if w = nI 6 then nI (rIp ρ 8) else if w = nI 7 then nI (rLk ρ) else if w = nI 8 then nI (rQr ρ) else if w = nI 9 then nI (rQl ρ) else -2
def rAb (ρ : ax_R) (t : Nat) (w : Int32) : Int32 := if w = nI 0 then nI (ρ.1 12 t) else if w = nI 1 then nI (ρ.1 11 t) else if w = nI 2 then nI (ρ.1 14 t) else if w = nI 3 then nI (rW ρ t) else if w = nI 4 then ax_b (ρ.2.1 15 t) else if w = nI 5 then nI (ρ.1 16 t) else -2
def rIt (ρ : ax_R) (k : Nat) (w : Int32) : Int32 := if w = nI 0 then nI (ρ.1 18 k) else if w = nI 1 then nI (ρ.1 19 k) else if w = nI 2 then ρ.2.2 20 k else if w = nI 3 then nI (ρ.1 21 k) else if w = nI 4 then (if ρ.2.1 22 k = true then ρ.2.2 23 k else -9) else -2
def rCa (ρ : ax_R) (r : Nat) (x : Int32) : Int32 := if rP ρ r x = -9 then -9 else nI (ρ.1 6 (6 * r + (rP ρ r x).toNatClampNeg))
def rOc (ρ : ax_R) (r p o : Nat) : Nat := (List.range' 0 (ρ.1 25 0)).countP fun k => !decide (ρ.2.2 26 k = -9) && decide (ρ.1 18 (ρ.2.2 26 k).toNatClampNeg = r) && decide (ρ.1 19 (ρ.2.2 26 k).toNatClampNeg = o) && decide (ρ.1 27 k = p)
def rOb (ρ : ax_R) (r p o : Nat) (x w : Int32) : Int32 := if w = nI 0 then ρ.2.2 7 (8 * (6 * r + p) + o) else if w = nI 1 then nI (ρ.1 8 (8 * (6 * r + p) + o)) else if w = nI 2 then (if x = 0 then ρ.2.2 9 (8 * r + o) else -9) else if w = nI 3 then nI (rOc ρ r p o) else -2
theorem rP_in {ρ : ax_R} (hw : rf_ok ρ) {r : Nat} {x : Int32} : rP ρ r x = -9 ∨ ∃ p, p < 6 ∧ rP ρ r x = nI p := by
  unfold rP
  split
  · exact Or.inl rfl
  · cases h : (rL ρ r)[x.toNatClampNeg]? with
    | none => exact Or.inl rfl
    | some p =>
      have h1 := List.mem_range'_1.mp (List.mem_filter.mp (List.mem_of_getElem? h)).1
      have := rk_5 hw r
      exact Or.inr ⟨p, by omega, rfl⟩
section REFM
variable {c : ax_H} {ρ : ax_R}
theorem lp_inPhase (hw : rf_ok ρ) {p : Nat} (hp : p < 10) : ∀ (m : Nat) (t n : Nat) (V : Nat), t + m = ρ.1 10 0 → n + (List.range' t m).countP (fun t => decide (ρ.1 12 t = p)) = V → ax_Z mX4_inPhase 1 0 0 (ax_D (ax_i (nI V)) (fh c ρ)) 4 [some (ax_r (80, 0)), some (ax_i (nI p)), some (ax_i (nI n)), some (ax_i (nI t))] [] (fh c ρ) 0 0 := by
  intro m
  induction m with
  | zero =>
    intro t n V hk hV
    have h10 := rk_10 hw
    refine ax_iload_n dX4_inPhase_4 rfl ?_
    refine ax_aload_n dX4_inPhase_5 rfl ?_
    refine rg_10 dX4_inPhase_6 ?_
    refine ax_nge 36 dX4_inPhase_9 (by decide) (by first | omega | exact rk_N hw _ _) (by first | omega | exact rk_N hw _ _) (fun c9 => ?_) (fun c9 => absurd c9 (by omega))
    refine ax_iload_n dX4_inPhase_36 rfl ?_
    refine ax_iretD dX4_inPhase_37 rfl ⟨(Nat.le_refl _), (Nat.le_refl _)⟩ ?_ ?_
    · rw [ls_c2 hV]
    · rfl
  | succ m ih =>
    intro t n V hk hV
    have h10 := rk_10 hw
    refine ax_iload_n dX4_inPhase_4 rfl ?_
    refine ax_aload_n dX4_inPhase_5 rfl ?_
    refine rg_10 dX4_inPhase_6 ?_
    refine ax_nge 36 dX4_inPhase_9 (by decide) (by first | omega | exact rk_N hw _ _) (by first | omega | exact rk_N hw _ _) (fun c9 => absurd c9 (by omega)) (fun c9 => ?_)
    refine ax_iload_n dX4_inPhase_12 rfl ?_
    refine ax_aload_n dX4_inPhase_13 rfl ?_
    refine rg_12 dX4_inPhase_14 ?_
    refine ax_iload_n dX4_inPhase_17 rfl ?_
    refine rl_12 dX4_inPhase_18 (by first | omega | exact rk_N hw _ _) ?_
    refine ax_iload_n dX4_inPhase_19 rfl ?_
    refine ax_nne 27 dX4_inPhase_20 (by decide) (by first | omega | exact rk_N hw _ _) (by first | omega | exact rk_N hw _ _) (fun c20 => ?_) (fun c20 => ?_)
    · refine ax_iconst (nI 0) dX4_inPhase_27 (by decide) ?_
      refine ax_iaddn dX4_inPhase_28 ?_
      refine ax_istore_n dX4_inPhase_29 rfl (by decide) ?_
      refine ax_iincn (n := 1) dX4_inPhase_30 rfl (by decide) rfl ?_
      refine ax_goto 4 dX4_inPhase_33 (by decide) ?_
      first | exact ih (t + 1) (n + 0) V (by omega) (ls_c0 (by simp [c20]) hV) | exact ih (t + 1) (n + 1) V (by omega) (ls_c1 (by simp [c20]) hV)
    · refine ax_iconst (nI 1) dX4_inPhase_23 (by decide) ?_
      refine ax_goto 28 dX4_inPhase_24 (by decide) ?_
      refine ax_iaddn dX4_inPhase_28 ?_
      refine ax_istore_n dX4_inPhase_29 rfl (by decide) ?_
      refine ax_iincn (n := 1) dX4_inPhase_30 rfl (by decide) rfl ?_
      refine ax_goto 4 dX4_inPhase_33 (by decide) ?_
      first | exact ih (t + 1) (n + 0) V (by omega) (ls_c0 (by simp [c20]) hV) | exact ih (t + 1) (n + 1) V (by omega) (ls_c1 (by simp [c20]) hV)
theorem ok_inPhase (hw : rf_ok ρ) {p : Nat} (hp : p < 10) : ax_Ok mX4_inPhase yX4_inPhase 1 0 0 [ax_r (80, 0), ax_i (nI p)] (fh c ρ) (ax_D (ax_i (nI (rIp ρ p))) (fh c ρ)) := by
  refine ax_Ok.of (by decide) rfl (fun q => by cases q) (Nat.le_of_ble_eq_true rfl) rfl ?_
  refine ax_iconst (nI 0) dX4_inPhase_0 (by decide) ?_
  refine ax_istore_n dX4_inPhase_1 rfl (by decide) ?_
  refine ax_iconst (nI 0) dX4_inPhase_2 (by decide) ?_
  refine ax_istore_n dX4_inPhase_3 rfl (by decide) ?_
  exact lp_inPhase hw hp (ρ.1 10 0) 0 0 _ (Nat.zero_add _) (Nat.zero_add _)
theorem lp_locked (hw : rf_ok ρ)  : ∀ (m : Nat) (k n : Nat) (V : Nat), k + m = 8 * ρ.1 4 0 → n + (List.range' k m).countP (fun k => !decide (ρ.2.2 9 k = -9) && !decide (rM ρ (k / 8) = 0)) = V → ax_Z mX4_locked 4 0 0 (ax_D (ax_i (nI V)) (fh c ρ)) 4 [some (ax_r (80, 0)), some (ax_i (nI n)), some (ax_i (nI k))] [] (fh c ρ) 0 0 := by
  intro m
  induction m with
  | zero =>
    intro k n V hk hV
    have h4 := rk_4 hw
    refine ax_iload_n dX4_locked_4 rfl ?_
    refine ax_bipush (nI 8) dX4_locked_5 (by decide) ?_
    refine ax_aload_n dX4_locked_7 rfl ?_
    refine rg_4 dX4_locked_8 ?_
    refine ax_imuln dX4_locked_11 ?_
    refine ax_nge 51 dX4_locked_12 (by decide) (by omega) (by omega) (fun c12 => ?_) (fun c12 => absurd c12 (by omega))
    refine ax_iload_n dX4_locked_51 rfl ?_
    refine ax_iretD dX4_locked_52 rfl ⟨(Nat.le_refl _), (Nat.le_refl _)⟩ ?_ ?_
    · rw [ls_c2 hV]
    · rfl
  | succ m ih =>
    intro k n V hk hV
    have h4 := rk_4 hw
    refine ax_iload_n dX4_locked_4 rfl ?_
    refine ax_bipush (nI 8) dX4_locked_5 (by decide) ?_
    refine ax_aload_n dX4_locked_7 rfl ?_
    refine rg_4 dX4_locked_8 ?_
    refine ax_imuln dX4_locked_11 ?_
    refine ax_nge 51 dX4_locked_12 (by decide) (by omega) (by omega) (fun c12 => absurd c12 (by omega)) (fun c12 => ?_)
    refine ax_iload_n dX4_locked_15 rfl ?_
    refine ax_aload_n dX4_locked_16 rfl ?_
    refine rg_9 dX4_locked_17 ?_
    refine ax_iload_n dX4_locked_20 rfl ?_
    refine rl_9 dX4_locked_21 (by omega) ?_
    refine ax_bipush (-9) dX4_locked_22 (by decide) ?_
    refine ax_icmp_eq 42 dX4_locked_24 (by decide) (fun c24 => ?_) (fun c24 => ?_)
    · refine ax_iconst (nI 0) dX4_locked_42 (by decide) ?_
      refine ax_iaddn dX4_locked_43 ?_
      refine ax_istore_n dX4_locked_44 rfl (by decide) ?_
      refine ax_iincn (n := 1) dX4_locked_45 rfl (by decide) rfl ?_
      refine ax_goto 4 dX4_locked_48 (by decide) ?_
      first | exact ih (k + 1) (n + 0) V (by omega) (ls_c0 (by simp [c24]) hV) | exact ih (k + 1) (n + 1) V (by omega) (ls_c1 (by simp [c12, c24]) hV)
    · refine ax_aload_n dX4_locked_27 rfl ?_
      refine ax_iload_n dX4_locked_28 rfl ?_
      refine ax_bipush (nI 8) dX4_locked_29 (by decide) ?_
      refine ax_idivn dX4_locked_31 (by decide) (by omega) (by decide) ?_
      refine ax_V1 cv_X4_121 dX4_locked_32 fh_M rfl (ok_isLost hw (by omega)) (by decide) (Nat.le_refl _) (Nat.le_refl _) (Nat.le_of_ble_eq_true rfl) ?_
      refine ax_bne 42 dX4_locked_35 (by decide) (fun c35 => ?_) (fun c35 => ?_)
      · refine ax_iconst (nI 0) dX4_locked_42 (by decide) ?_
        refine ax_iaddn dX4_locked_43 ?_
        refine ax_istore_n dX4_locked_44 rfl (by decide) ?_
        refine ax_iincn (n := 1) dX4_locked_45 rfl (by decide) rfl ?_
        refine ax_goto 4 dX4_locked_48 (by decide) ?_
        first | exact ih (k + 1) (n + 0) V (by omega) (ls_c0 (by simp [c12, c24, c35]) hV) | exact ih (k + 1) (n + 1) V (by omega) (ls_c1 (by simp [c12, c24, c35]) hV)
      · refine ax_iconst (nI 1) dX4_locked_38 (by decide) ?_
        refine ax_goto 43 dX4_locked_39 (by decide) ?_
        refine ax_iaddn dX4_locked_43 ?_
        refine ax_istore_n dX4_locked_44 rfl (by decide) ?_
        refine ax_iincn (n := 1) dX4_locked_45 rfl (by decide) rfl ?_
        refine ax_goto 4 dX4_locked_48 (by decide) ?_
        first | exact ih (k + 1) (n + 0) V (by omega) (ls_c0 (by simp [c12, c24, c35]) hV) | exact ih (k + 1) (n + 1) V (by omega) (ls_c1 (by simp [c12, c24, c35]) hV)
theorem ok_locked (hw : rf_ok ρ) : ax_Ok mX4_locked yX4_locked 4 0 0 [ax_r (80, 0)] (fh c ρ) (ax_D (ax_i (nI (rLk ρ))) (fh c ρ)) := by
  refine ax_Ok.of (by decide) rfl (fun q => by cases q) (Nat.le_of_ble_eq_true rfl) rfl ?_
  refine ax_iconst (nI 0) dX4_locked_0 (by decide) ?_
  refine ax_istore_n dX4_locked_1 rfl (by decide) ?_
  refine ax_iconst (nI 0) dX4_locked_2 (by decide) ?_
  refine ax_istore_n dX4_locked_3 rfl (by decide) ?_
  exact lp_locked hw (8 * ρ.1 4 0) 0 0 _ (Nat.zero_add _) (Nat.zero_add _)
theorem lp_cnt3 (hw : rf_ok ρ) {w : Int32} : ∀ (m : Nat) (k n : Nat) (V : Nat), k + m = 6 → n + (List.range' k m).countP (ρ.2.1 1) = V → ax_Z mX4_count 5 0 0 (ax_D (ax_i (nI V)) (fh c ρ)) 73 [some (ax_r (80, 0)), some (ax_i w), some (ax_i (nI n)), some (ax_i (nI k))] [] (fh c ρ) 0 0 := by
  intro m
  induction m with
  | zero =>
    intro k n V hk hV
    refine ax_iload_n dX4_count_73 rfl ?_
    refine ax_bipush (nI 6) dX4_count_74 (by decide) ?_
    refine ax_nge 102 dX4_count_76 (by decide) (by omega) (by omega) (fun c76 => ?_) (fun c76 => absurd c76 (by omega))
    refine ax_iload_n dX4_count_102 rfl ?_
    refine ax_iretD dX4_count_103 rfl ⟨(Nat.le_refl _), (Nat.le_refl _)⟩ ?_ ?_
    · rw [ls_c2 hV]
    · rfl
  | succ m ih =>
    intro k n V hk hV
    refine ax_iload_n dX4_count_73 rfl ?_
    refine ax_bipush (nI 6) dX4_count_74 (by decide) ?_
    refine ax_nge 102 dX4_count_76 (by decide) (by omega) (by omega) (fun c76 => absurd c76 (by omega)) (fun c76 => ?_)
    refine ax_iload_n dX4_count_79 rfl ?_
    refine ax_aload_n dX4_count_80 rfl ?_
    refine rg_1 dX4_count_81 ?_
    refine ax_iload_n dX4_count_84 rfl ?_
    refine rl_1 dX4_count_85 (by omega) ?_
    refine ax_beq 93 dX4_count_86 (by decide) (fun c86 => ?_) (fun c86 => ?_)
    · refine ax_iconst (nI 0) dX4_count_93 (by decide) ?_
      refine ax_iaddn dX4_count_94 ?_
      refine ax_istore_n dX4_count_95 rfl (by decide) ?_
      refine ax_iincn (n := 1) dX4_count_96 rfl (by decide) rfl ?_
      refine ax_goto 73 dX4_count_99 (by decide) ?_
      first | exact ih (k + 1) (n + 0) V (by omega) (ls_c0 c86 hV) | exact ih (k + 1) (n + 1) V (by omega) (ls_c1 c86 hV)
    · refine ax_iconst (nI 1) dX4_count_89 (by decide) ?_
      refine ax_goto 94 dX4_count_90 (by decide) ?_
      refine ax_iaddn dX4_count_94 ?_
      refine ax_istore_n dX4_count_95 rfl (by decide) ?_
      refine ax_iincn (n := 1) dX4_count_96 rfl (by decide) rfl ?_
      refine ax_goto 73 dX4_count_99 (by decide) ?_
      first | exact ih (k + 1) (n + 0) V (by omega) (ls_c0 c86 hV) | exact ih (k + 1) (n + 1) V (by omega) (ls_c1 c86 hV)
theorem lp_cnt8 (hw : rf_ok ρ) {w : Int32} : ∀ (m : Nat) (k n : Nat) (V : Nat), k + m = ρ.1 25 0 → n + (List.range' k m).countP (fun k => !decide (ρ.2.2 26 k = -9) && rO ρ (ρ.1 18 (ρ.2.2 26 k).toNatClampNeg) (ρ.1 27 k)) = V → ax_Z mX4_count 5 0 0 (ax_D (ax_i (nI V)) (fh c ρ)) 130 [some (ax_r (80, 0)), some (ax_i w), some (ax_i (nI n)), some (ax_i (nI k))] [] (fh c ρ) 0 0 := by
  intro m
  induction m with
  | zero =>
    intro k n V hk hV
    have h25 := rk_25 hw
    refine ax_iload_n dX4_count_130 rfl ?_
    refine ax_aload_n dX4_count_131 rfl ?_
    refine rg_25 dX4_count_132 ?_
    refine ax_nge 187 dX4_count_135 (by decide) (by omega) (by omega) (fun c135 => ?_) (fun c135 => absurd c135 (by omega))
    refine ax_iload_n dX4_count_187 rfl ?_
    refine ax_iretD dX4_count_188 rfl ⟨(Nat.le_refl _), (Nat.le_refl _)⟩ ?_ ?_
    · rw [ls_c2 hV]
    · rfl
  | succ m ih =>
    intro k n V hk hV
    have h25 := rk_25 hw
    refine ax_iload_n dX4_count_130 rfl ?_
    refine ax_aload_n dX4_count_131 rfl ?_
    refine rg_25 dX4_count_132 ?_
    refine ax_nge 187 dX4_count_135 (by decide) (by omega) (by omega) (fun c135 => absurd c135 (by omega)) (fun c135 => ?_)
    refine ax_iload_n dX4_count_138 rfl ?_
    refine ax_aload_n dX4_count_139 rfl ?_
    refine rg_26 dX4_count_140 ?_
    refine ax_iload_n dX4_count_143 rfl ?_
    refine rl_26 dX4_count_144 (by omega) ?_
    refine ax_bipush (-9) dX4_count_145 (by decide) ?_
    refine ax_icmp_eq 178 dX4_count_147 (by decide) (fun c147 => ?_) (fun c147 => ?_)
    · refine ax_iconst (nI 0) dX4_count_178 (by decide) ?_
      refine ax_iaddn dX4_count_179 ?_
      refine ax_istore_n dX4_count_180 rfl (by decide) ?_
      refine ax_iincn (n := 1) dX4_count_181 rfl (by decide) rfl ?_
      refine ax_goto 130 dX4_count_184 (by decide) ?_
      exact ih (k + 1) (n + 0) V (by omega) (ls_c0 (by simp [c147]) hV)
    · obtain ⟨j, hj, ej⟩ := (rk_26 hw k).resolve_left c147
      have hj9 : ¬ nI j = -9 := nI_n9 (by omega)
      refine ax_aload_n dX4_count_150 rfl ?_
      refine ax_aload_n dX4_count_151 rfl ?_
      refine rg_18 dX4_count_152 ?_
      refine ax_aload_n dX4_count_155 rfl ?_
      refine rg_26 dX4_count_156 ?_
      refine ax_iload_n dX4_count_159 rfl ?_
      refine rl_26 dX4_count_160 (by omega) ?_
      rw [ej]
      refine rl_18 dX4_count_161 (by omega) ?_
      refine ax_aload_n dX4_count_162 rfl ?_
      refine rg_27 dX4_count_163 ?_
      refine ax_iload_n dX4_count_166 rfl ?_
      refine rl_27 dX4_count_167 (by omega) ?_
      refine ax_V2 cv_X4_96 dX4_count_168 fh_M rfl (ok_isOn hw (rk_18 hw _) (rk_27 hw _)) (by decide) (Nat.le_refl _) (Nat.le_refl _) (Nat.le_of_ble_eq_true rfl) ?_
      refine ax_beq 178 dX4_count_171 (by decide) (fun c171 => ?_) (fun c171 => ?_)
      · refine ax_iconst (nI 0) dX4_count_178 (by decide) ?_
        refine ax_iaddn dX4_count_179 ?_
        refine ax_istore_n dX4_count_180 rfl (by decide) ?_
        refine ax_iincn (n := 1) dX4_count_181 rfl (by decide) rfl ?_
        refine ax_goto 130 dX4_count_184 (by decide) ?_
        first | exact ih (k + 1) (n + 0) V (by omega) (ls_c0 (by rw [ej, nI_clamp (by omega)]; simp [c171]) hV) | exact ih (k + 1) (n + 1) V (by omega) (ls_c1 (by rw [ej, nI_clamp (by omega)]; simp [c171, hj9]) hV)
      · refine ax_iconst (nI 1) dX4_count_174 (by decide) ?_
        refine ax_goto 179 dX4_count_175 (by decide) ?_
        refine ax_iaddn dX4_count_179 ?_
        refine ax_istore_n dX4_count_180 rfl (by decide) ?_
        refine ax_iincn (n := 1) dX4_count_181 rfl (by decide) rfl ?_
        refine ax_goto 130 dX4_count_184 (by decide) ?_
        first | exact ih (k + 1) (n + 0) V (by omega) (ls_c0 (by rw [ej, nI_clamp (by omega)]; simp [c171]) hV) | exact ih (k + 1) (n + 1) V (by omega) (ls_c1 (by rw [ej, nI_clamp (by omega)]; simp [c171, hj9]) hV)
theorem lp_cnt9 (hw : rf_ok ρ) {w : Int32} : ∀ (m : Nat) (k n : Nat) (V : Nat), k + m = ρ.1 4 0 → n + (List.range' k m).countP (fun r => decide (rM ρ r = 0)) = V → ax_Z mX4_count 5 0 0 (ax_D (ax_i (nI V)) (fh c ρ)) 191 [some (ax_r (80, 0)), some (ax_i w), some (ax_i (nI n)), some (ax_i (nI k))] [] (fh c ρ) 0 0 := by
  intro m
  induction m with
  | zero =>
    intro k n V hk hV
    have h4 := rk_4 hw
    refine ax_iload_n dX4_count_191 rfl ?_
    refine ax_aload_n dX4_count_192 rfl ?_
    refine rg_4 dX4_count_193 ?_
    refine ax_nge 221 dX4_count_196 (by decide) (by omega) (by omega) (fun c196 => ?_) (fun c196 => absurd c196 (by omega))
    refine ax_iload_n dX4_count_221 rfl ?_
    refine ax_iretD dX4_count_222 rfl ⟨(Nat.le_refl _), (Nat.le_refl _)⟩ ?_ ?_
    · rw [ls_c2 hV]
    · rfl
  | succ m ih =>
    intro k n V hk hV
    have h4 := rk_4 hw
    refine ax_iload_n dX4_count_191 rfl ?_
    refine ax_aload_n dX4_count_192 rfl ?_
    refine rg_4 dX4_count_193 ?_
    refine ax_nge 221 dX4_count_196 (by decide) (by omega) (by omega) (fun c196 => absurd c196 (by omega)) (fun c196 => ?_)
    refine ax_iload_n dX4_count_199 rfl ?_
    refine ax_aload_n dX4_count_200 rfl ?_
    refine ax_iload_n dX4_count_201 rfl ?_
    refine ax_V1 cv_X4_121 dX4_count_202 fh_M rfl (ok_isLost hw (by omega)) (by decide) (Nat.le_refl _) (Nat.le_refl _) (Nat.le_of_ble_eq_true rfl) ?_
    refine ax_beq 212 dX4_count_205 (by decide) (fun c205 => ?_) (fun c205 => ?_)
    · refine ax_iconst (nI 0) dX4_count_212 (by decide) ?_
      refine ax_iaddn dX4_count_213 ?_
      refine ax_istore_n dX4_count_214 rfl (by decide) ?_
      refine ax_iincn (n := 1) dX4_count_215 rfl (by decide) rfl ?_
      refine ax_goto 191 dX4_count_218 (by decide) ?_
      first | exact ih (k + 1) (n + 0) V (by omega) (ls_c0 c205 hV) | exact ih (k + 1) (n + 1) V (by omega) (ls_c1 c205 hV)
    · refine ax_iconst (nI 1) dX4_count_208 (by decide) ?_
      refine ax_goto 213 dX4_count_209 (by decide) ?_
      refine ax_iaddn dX4_count_213 ?_
      refine ax_istore_n dX4_count_214 rfl (by decide) ?_
      refine ax_iincn (n := 1) dX4_count_215 rfl (by decide) rfl ?_
      refine ax_goto 191 dX4_count_218 (by decide) ?_
      first | exact ih (k + 1) (n + 0) V (by omega) (ls_c0 c205 hV) | exact ih (k + 1) (n + 1) V (by omega) (ls_c1 c205 hV)
theorem nI_lit {a b : Nat} (ha : a < 1000) (hb : b < 1000) : (nI a = nI b) = (a = b) := propext (nI_eq (by omega) (by omega))
theorem ax_b1 : ax_b true = nI 1 := rfl
theorem ax_b2 : ax_b false = nI 0 := rfl
theorem ok_count (hw : rf_ok ρ) (w : Int32) : ax_Ok mX4_count yX4_count 5 0 0 [ax_r (80, 0), ax_i w] (fh c ρ) (ax_D (ax_i (rQc ρ w)) (fh c ρ)) := by
  refine ax_Ok.of (by decide) rfl (fun q => by cases q) (Nat.le_of_ble_eq_true rfl) rfl ?_
  by_cases w0 : w = nI 0
  · subst w0
    refine ax_iconst (nI 0) dX4_count_0 (by decide) ?_
    refine ax_istore_n dX4_count_1 rfl (by decide) ?_
    refine ax_iload_n dX4_count_2 rfl ?_
    · refine ax_tin 56 dX4_count_3 (by decide) (by decide) (by rfl) (by decide) ?_
      refine ax_aload_n dX4_count_56 rfl ?_
      refine rg_4 dX4_count_57 ?_
      refine ax_iretD dX4_count_60 rfl ⟨(Nat.le_refl _), (Nat.le_refl _)⟩ ?_ ?_
      · first | rfl | (simp [rQc]; done)
      · rfl
  by_cases w1 : w = nI 1
  · subst w1
    refine ax_iconst (nI 0) dX4_count_0 (by decide) ?_
    refine ax_istore_n dX4_count_1 rfl (by decide) ?_
    refine ax_iload_n dX4_count_2 rfl ?_
    · refine ax_tin 61 dX4_count_3 (by decide) (by decide) (by rfl) (by decide) ?_
      refine ax_aload_n dX4_count_61 rfl ?_
      refine rg_10 dX4_count_62 ?_
      refine ax_iretD dX4_count_65 rfl ⟨(Nat.le_refl _), (Nat.le_refl _)⟩ ?_ ?_
      · first | rfl | (simp [rQc]; done)
      · rfl
  by_cases w2 : w = nI 2
  · subst w2
    refine ax_iconst (nI 0) dX4_count_0 (by decide) ?_
    refine ax_istore_n dX4_count_1 rfl (by decide) ?_
    refine ax_iload_n dX4_count_2 rfl ?_
    · refine ax_tin 66 dX4_count_3 (by decide) (by decide) (by rfl) (by decide) ?_
      refine ax_aload_n dX4_count_66 rfl ?_
      refine rg_3 dX4_count_67 ?_
      refine ax_iretD dX4_count_70 rfl ⟨(Nat.le_refl _), (Nat.le_refl _)⟩ ?_ ?_
      · first | rfl | (simp [rQc]; done)
      · rfl
  by_cases w3 : w = nI 3
  · subst w3
    refine ax_iconst (nI 0) dX4_count_0 (by decide) ?_
    refine ax_istore_n dX4_count_1 rfl (by decide) ?_
    refine ax_iload_n dX4_count_2 rfl ?_
    · refine ax_tin 71 dX4_count_3 (by decide) (by decide) (by rfl) (by decide) ?_
      refine ax_iconst (nI 0) dX4_count_71 (by decide) ?_
      refine ax_istore_n dX4_count_72 rfl (by decide) ?_
      exact lp_cnt3 hw 6 0 0 _ rfl (Nat.zero_add _)
  by_cases w4 : w = nI 4
  · subst w4
    refine ax_iconst (nI 0) dX4_count_0 (by decide) ?_
    refine ax_istore_n dX4_count_1 rfl (by decide) ?_
    refine ax_iload_n dX4_count_2 rfl ?_
    · refine ax_tin 104 dX4_count_3 (by decide) (by decide) (by rfl) (by decide) ?_
      refine ax_aload_n dX4_count_104 rfl ?_
      refine ax_V0 cv_X4_112 dX4_count_105 fh_M rfl (ok_up hw) (by decide) (Nat.le_refl _) (Nat.le_refl _) (Nat.le_of_ble_eq_true rfl) ?_
      refine ax_iretD dX4_count_108 rfl ⟨(Nat.le_refl _), (Nat.le_refl _)⟩ ?_ ?_
      · first | rfl | (simp [rQc]; done)
      · rfl
  by_cases w5 : w = nI 5
  · subst w5
    refine ax_iconst (nI 0) dX4_count_0 (by decide) ?_
    refine ax_istore_n dX4_count_1 rfl (by decide) ?_
    refine ax_iload_n dX4_count_2 rfl ?_
    · refine ax_tin 109 dX4_count_3 (by decide) (by decide) (by rfl) (by decide) ?_
      refine ax_aload_n dX4_count_109 rfl ?_
      refine ax_bipush (nI 7) dX4_count_110 (by decide) ?_
      refine ax_V1 cv_X4_234 dX4_count_112 fh_M rfl (ok_inPhase hw (by decide)) (by decide) (Nat.le_refl _) (Nat.le_refl _) (Nat.le_of_ble_eq_true rfl) ?_
      refine ax_iretD dX4_count_115 rfl ⟨(Nat.le_refl _), (Nat.le_refl _)⟩ ?_ ?_
      · first | rfl | (simp [rQc]; done)
      · rfl
  by_cases w6 : w = nI 6
  · subst w6
    refine ax_iconst (nI 0) dX4_count_0 (by decide) ?_
    refine ax_istore_n dX4_count_1 rfl (by decide) ?_
    refine ax_iload_n dX4_count_2 rfl ?_
    · refine ax_tin 116 dX4_count_3 (by decide) (by decide) (by rfl) (by decide) ?_
      refine ax_aload_n dX4_count_116 rfl ?_
      refine ax_bipush (nI 8) dX4_count_117 (by decide) ?_
      refine ax_V1 cv_X4_234 dX4_count_119 fh_M rfl (ok_inPhase hw (by decide)) (by decide) (Nat.le_refl _) (Nat.le_refl _) (Nat.le_of_ble_eq_true rfl) ?_
      refine ax_iretD dX4_count_122 rfl ⟨(Nat.le_refl _), (Nat.le_refl _)⟩ ?_ ?_
      · first | rfl | (simp [rQc]; done)
      · rfl
  by_cases w7 : w = nI 7
  · subst w7
    refine ax_iconst (nI 0) dX4_count_0 (by decide) ?_
    refine ax_istore_n dX4_count_1 rfl (by decide) ?_
    refine ax_iload_n dX4_count_2 rfl ?_
    · refine ax_tin 123 dX4_count_3 (by decide) (by decide) (by rfl) (by decide) ?_
      refine ax_aload_n dX4_count_123 rfl ?_
      refine ax_V0 cv_X4_237 dX4_count_124 fh_M rfl (ok_locked hw) (by decide) (Nat.le_refl _) (Nat.le_refl _) (Nat.le_of_ble_eq_true rfl) ?_
      refine ax_iretD dX4_count_127 rfl ⟨(Nat.le_refl _), (Nat.le_refl _)⟩ ?_ ?_
      · first | rfl | (simp [rQc]; done)
      · rfl
  by_cases w8 : w = nI 8
  · subst w8
    refine ax_iconst (nI 0) dX4_count_0 (by decide) ?_
    refine ax_istore_n dX4_count_1 rfl (by decide) ?_
    refine ax_iload_n dX4_count_2 rfl ?_
    · refine ax_tin 128 dX4_count_3 (by decide) (by decide) (by rfl) (by decide) ?_
      refine ax_iconst (nI 0) dX4_count_128 (by decide) ?_
      refine ax_istore_n dX4_count_129 rfl (by decide) ?_
      exact lp_cnt8 hw (ρ.1 25 0) 0 0 _ (Nat.zero_add _) (Nat.zero_add _)
  by_cases w9 : w = nI 9
  · subst w9
    refine ax_iconst (nI 0) dX4_count_0 (by decide) ?_
    refine ax_istore_n dX4_count_1 rfl (by decide) ?_
    refine ax_iload_n dX4_count_2 rfl ?_
    · refine ax_tin 189 dX4_count_3 (by decide) (by decide) (by rfl) (by decide) ?_
      refine ax_iconst (nI 0) dX4_count_189 (by decide) ?_
      refine ax_istore_n dX4_count_190 rfl (by decide) ?_
      exact lp_cnt9 hw (ρ.1 4 0) 0 0 _ (Nat.zero_add _) (Nat.zero_add _)
  refine ax_iconst (nI 0) dX4_count_0 (by decide) ?_
  refine ax_istore_n dX4_count_1 rfl (by decide) ?_
  refine ax_iload_n dX4_count_2 rfl ?_
  · refine ax_tout 223 dX4_count_3 (sw_out 9 (by decide) (fun k hk => by rcases (show k = 0 ∨ k = 1 ∨ k = 2 ∨ k = 3 ∨ k = 4 ∨ k = 5 ∨ k = 6 ∨ k = 7 ∨ k = 8 ∨ k = 9 by omega) with rfl | rfl | rfl | rfl | rfl | rfl | rfl | rfl | rfl | rfl <;> assumption)) (by decide) ?_
    refine ax_bipush (-2) dX4_count_223 (by decide) ?_
    refine ax_iretD dX4_count_225 rfl ⟨(Nat.le_refl _), (Nat.le_refl _)⟩ ?_ ?_
    · first | rfl | (simp [rQc, w0, w1, w2, w3, w4, w5, w6, w7, w8, w9]; done)
    · rfl
theorem ok_about0 {x w : Int32} (hk : (decide (0 ≤ x) && decide (x ≤ nI (ρ.1 10 0) - 1)) = false) : ax_Ok mX4_about yX4_about 3 0 0 [ax_r (80, 0), ax_i x, ax_i w] (fh c ρ) (ax_D (ax_i (-1)) (fh c ρ)) := by
  refine ax_Ok.of (by decide) rfl (fun q => by cases q) (Nat.le_of_ble_eq_true rfl) rfl ?_
  refine ax_aload_n dX4_about_0 rfl ?_
  refine ax_iload_n dX4_about_1 rfl ?_
  refine ax_V1 cv_X4_143 dX4_about_2 fh_M rfl (ok_isTransaction _) (by decide) (Nat.le_refl _) (Nat.le_refl _) (Nat.le_of_ble_eq_true rfl) ?_
  refine ax_bne 10 dX4_about_5 (by decide) (fun c5 => absurd c5 (by simp [hk])) (fun c5 => ?_)
  refine ax_iconst (-1) dX4_about_8 (by decide) ?_
  refine ax_iretD dX4_about_9 rfl ⟨(Nat.le_refl _), (Nat.le_refl _)⟩ ?_ ?_
  · rfl
  · rfl
theorem ok_about (hw : rf_ok ρ) {t : Nat} (ht : t < 60) (hk : (decide (0 ≤ nI t) && decide (nI t ≤ nI (ρ.1 10 0) - 1)) = true) (w : Int32) : ax_Ok mX4_about yX4_about 3 0 0 [ax_r (80, 0), ax_i (nI t), ax_i w] (fh c ρ) (ax_D (ax_i (rAb ρ t w)) (fh c ρ)) := by
  refine ax_Ok.of (by decide) rfl (fun q => by cases q) (Nat.le_of_ble_eq_true rfl) rfl ?_
  by_cases w0 : w = nI 0
  · subst w0
    refine ax_aload_n dX4_about_0 rfl ?_
    refine ax_iload_n dX4_about_1 rfl ?_
    refine ax_V1 cv_X4_143 dX4_about_2 fh_M rfl (ok_isTransaction _) (by decide) (Nat.le_refl _) (Nat.le_refl _) (Nat.le_of_ble_eq_true rfl) ?_
    refine ax_bne 10 dX4_about_5 (by decide) (fun c5 => ?_) (fun c5 => absurd c5 (by rw [hk]; simp))
    refine ax_iload_n dX4_about_10 rfl ?_
    · refine ax_tin 48 dX4_about_11 (by decide) (by decide) (by rfl) (by decide) ?_
      refine ax_aload_n dX4_about_48 rfl ?_
      refine rg_12 dX4_about_49 ?_
      refine ax_iload_n dX4_about_52 rfl ?_
      refine rl_12 dX4_about_53 (by first | omega | exact rk_N hw _ _) ?_
      refine ax_iretD dX4_about_54 rfl ⟨(Nat.le_refl _), (Nat.le_refl _)⟩ ?_ ?_
      · first | rfl | (simp [rAb]; done) | (show _ = ax_b (ρ.2.1 15 t); simp only [c5]; rfl)
      · rfl
  by_cases w1 : w = nI 1
  · subst w1
    refine ax_aload_n dX4_about_0 rfl ?_
    refine ax_iload_n dX4_about_1 rfl ?_
    refine ax_V1 cv_X4_143 dX4_about_2 fh_M rfl (ok_isTransaction _) (by decide) (Nat.le_refl _) (Nat.le_refl _) (Nat.le_of_ble_eq_true rfl) ?_
    refine ax_bne 10 dX4_about_5 (by decide) (fun c5 => ?_) (fun c5 => absurd c5 (by rw [hk]; simp))
    refine ax_iload_n dX4_about_10 rfl ?_
    · refine ax_tin 55 dX4_about_11 (by decide) (by decide) (by rfl) (by decide) ?_
      refine ax_aload_n dX4_about_55 rfl ?_
      refine rg_11 dX4_about_56 ?_
      refine ax_iload_n dX4_about_59 rfl ?_
      refine rl_11 dX4_about_60 (by first | omega | exact rk_N hw _ _) ?_
      refine ax_iretD dX4_about_61 rfl ⟨(Nat.le_refl _), (Nat.le_refl _)⟩ ?_ ?_
      · first | rfl | (simp [rAb]; done) | (show _ = ax_b (ρ.2.1 15 t); simp only [c5]; rfl)
      · rfl
  by_cases w2 : w = nI 2
  · subst w2
    refine ax_aload_n dX4_about_0 rfl ?_
    refine ax_iload_n dX4_about_1 rfl ?_
    refine ax_V1 cv_X4_143 dX4_about_2 fh_M rfl (ok_isTransaction _) (by decide) (Nat.le_refl _) (Nat.le_refl _) (Nat.le_of_ble_eq_true rfl) ?_
    refine ax_bne 10 dX4_about_5 (by decide) (fun c5 => ?_) (fun c5 => absurd c5 (by rw [hk]; simp))
    refine ax_iload_n dX4_about_10 rfl ?_
    · refine ax_tin 62 dX4_about_11 (by decide) (by decide) (by rfl) (by decide) ?_
      refine ax_aload_n dX4_about_62 rfl ?_
      refine rg_14 dX4_about_63 ?_
      refine ax_iload_n dX4_about_66 rfl ?_
      refine rl_14 dX4_about_67 (by first | omega | exact rk_N hw _ _) ?_
      refine ax_iretD dX4_about_68 rfl ⟨(Nat.le_refl _), (Nat.le_refl _)⟩ ?_ ?_
      · first | rfl | (simp [rAb]; done) | (show _ = ax_b (ρ.2.1 15 t); simp only [c5]; rfl)
      · rfl
  by_cases w3 : w = nI 3
  · subst w3
    refine ax_aload_n dX4_about_0 rfl ?_
    refine ax_iload_n dX4_about_1 rfl ?_
    refine ax_V1 cv_X4_143 dX4_about_2 fh_M rfl (ok_isTransaction _) (by decide) (Nat.le_refl _) (Nat.le_refl _) (Nat.le_of_ble_eq_true rfl) ?_
    refine ax_bne 10 dX4_about_5 (by decide) (fun c5 => ?_) (fun c5 => absurd c5 (by rw [hk]; simp))
    refine ax_iload_n dX4_about_10 rfl ?_
    · refine ax_tin 69 dX4_about_11 (by decide) (by decide) (by rfl) (by decide) ?_
      refine ax_aload_n dX4_about_69 rfl ?_
      refine ax_iload_n dX4_about_70 rfl ?_
      refine ax_V1 cv_X4_161 dX4_about_71 fh_M rfl (ok_writes hw ht) (by decide) (Nat.le_refl _) (Nat.le_refl _) (Nat.le_of_ble_eq_true rfl) ?_
      refine ax_iretD dX4_about_74 rfl ⟨(Nat.le_refl _), (Nat.le_refl _)⟩ ?_ ?_
      · first | rfl | (simp [rAb]; done) | (show _ = ax_b (ρ.2.1 15 t); simp only [c5]; rfl)
      · rfl
  by_cases w4 : w = nI 4
  · subst w4
    refine ax_aload_n dX4_about_0 rfl ?_
    refine ax_iload_n dX4_about_1 rfl ?_
    refine ax_V1 cv_X4_143 dX4_about_2 fh_M rfl (ok_isTransaction _) (by decide) (Nat.le_refl _) (Nat.le_refl _) (Nat.le_of_ble_eq_true rfl) ?_
    refine ax_bne 10 dX4_about_5 (by decide) (fun c5 => ?_) (fun c5 => absurd c5 (by rw [hk]; simp))
    refine ax_iload_n dX4_about_10 rfl ?_
    · refine ax_tin 75 dX4_about_11 (by decide) (by decide) (by rfl) (by decide) ?_
      refine ax_aload_n dX4_about_75 rfl ?_
      refine rg_15 dX4_about_76 ?_
      refine ax_iload_n dX4_about_79 rfl ?_
      refine rl_15 dX4_about_80 (by first | omega | exact rk_N hw _ _) ?_
      refine ax_beq 88 dX4_about_81 (by decide) (fun c81 => ?_) (fun c81 => ?_)
      · refine ax_iconst (nI 0) dX4_about_88 (by decide) ?_
        refine ax_iretD dX4_about_89 rfl ⟨(Nat.le_refl _), (Nat.le_refl _)⟩ ?_ ?_
        · first | rfl | (simp [rAb]; done) | (show _ = ax_b (ρ.2.1 15 t); simp only [c5, c81]; rfl)
        · rfl
      · refine ax_iconst (nI 1) dX4_about_84 (by decide) ?_
        refine ax_goto 89 dX4_about_85 (by decide) ?_
        refine ax_iretD dX4_about_89 rfl ⟨(Nat.le_refl _), (Nat.le_refl _)⟩ ?_ ?_
        · first | rfl | (simp [rAb]; done) | (show _ = ax_b (ρ.2.1 15 t); simp only [c5, c81]; rfl)
        · rfl
  by_cases w5 : w = nI 5
  · subst w5
    refine ax_aload_n dX4_about_0 rfl ?_
    refine ax_iload_n dX4_about_1 rfl ?_
    refine ax_V1 cv_X4_143 dX4_about_2 fh_M rfl (ok_isTransaction _) (by decide) (Nat.le_refl _) (Nat.le_refl _) (Nat.le_of_ble_eq_true rfl) ?_
    refine ax_bne 10 dX4_about_5 (by decide) (fun c5 => ?_) (fun c5 => absurd c5 (by rw [hk]; simp))
    refine ax_iload_n dX4_about_10 rfl ?_
    · refine ax_tin 90 dX4_about_11 (by decide) (by decide) (by rfl) (by decide) ?_
      refine ax_aload_n dX4_about_90 rfl ?_
      refine rg_16 dX4_about_91 ?_
      refine ax_iload_n dX4_about_94 rfl ?_
      refine rl_16 dX4_about_95 (by first | omega | exact rk_N hw _ _) ?_
      refine ax_iretD dX4_about_96 rfl ⟨(Nat.le_refl _), (Nat.le_refl _)⟩ ?_ ?_
      · first | rfl | (simp [rAb]; done) | (show _ = ax_b (ρ.2.1 15 t); simp only [c5]; rfl)
      · rfl
  refine ax_aload_n dX4_about_0 rfl ?_
  refine ax_iload_n dX4_about_1 rfl ?_
  refine ax_V1 cv_X4_143 dX4_about_2 fh_M rfl (ok_isTransaction _) (by decide) (Nat.le_refl _) (Nat.le_refl _) (Nat.le_of_ble_eq_true rfl) ?_
  refine ax_bne 10 dX4_about_5 (by decide) (fun c5 => ?_) (fun c5 => absurd c5 (by rw [hk]; simp))
  refine ax_iload_n dX4_about_10 rfl ?_
  · refine ax_tout 97 dX4_about_11 (sw_out 5 (by decide) (fun k hk => by rcases (show k = 0 ∨ k = 1 ∨ k = 2 ∨ k = 3 ∨ k = 4 ∨ k = 5 by omega) with rfl | rfl | rfl | rfl | rfl | rfl <;> assumption)) (by decide) ?_
    refine ax_bipush (-2) dX4_about_97 (by decide) ?_
    refine ax_iretD dX4_about_99 rfl ⟨(Nat.le_refl _), (Nat.le_refl _)⟩ ?_ ?_
    · first | rfl | (simp [rAb, w0, w1, w2, w3, w4, w5]; done) | (show _ = ax_b (ρ.2.1 15 t); simp only [c5]; rfl)
    · rfl
theorem ok_item0 {x y w : Int32} (hk : (decide (0 ≤ x) && decide (x ≤ nI (ρ.1 10 0) - 1)) = false) : ax_Ok mX4_item yX4_item 3 0 0 [ax_r (80, 0), ax_i x, ax_i y, ax_i w] (fh c ρ) (ax_D (ax_i (-1)) (fh c ρ)) := by
  refine ax_Ok.of (by decide) rfl (fun q => by cases q) (Nat.le_of_ble_eq_true rfl) rfl ?_
  refine ax_aload_n dX4_item_0 rfl ?_
  refine ax_iload_n dX4_item_1 rfl ?_
  refine ax_V1 cv_X4_143 dX4_item_2 fh_M rfl (ok_isTransaction _) (by decide) (Nat.le_refl _) (Nat.le_refl _) (Nat.le_of_ble_eq_true rfl) ?_
  refine ax_beq 26 dX4_item_5 (by decide) (fun c5 => ?_) (fun c5 => absurd c5 (by simp [hk]))
  refine ax_iconst (-1) dX4_item_26 (by decide) ?_
  refine ax_iretD dX4_item_27 rfl ⟨(Nat.le_refl _), (Nat.le_refl _)⟩ ?_ ?_
  · rfl
  · rfl
theorem ok_item1 {t : Nat} (ht : t < 60) {y w : Int32} (hk : (decide (0 ≤ nI t) && decide (nI t ≤ nI (ρ.1 10 0) - 1)) = true) (hi : (decide (0 ≤ y) && decide (y ≤ nI (ρ.1 14 t) - 1)) = false) : ax_Ok mX4_item yX4_item 3 0 0 [ax_r (80, 0), ax_i (nI t), ax_i y, ax_i w] (fh c ρ) (ax_D (ax_i (-1)) (fh c ρ)) := by
  refine ax_Ok.of (by decide) rfl (fun q => by cases q) (Nat.le_of_ble_eq_true rfl) rfl ?_
  have hy : (decide ((0 : Int64) ≤ y.toInt64) && decide (y.toInt64 ≤ (nI (ρ.1 14 t) - nI 1).toInt64)) = (decide (0 ≤ y) && decide (y ≤ nI (ρ.1 14 t) - 1)) := by rw [show (0 : Int64) = (0 : Int32).toInt64 by decide]; simp only [i64_le]; rfl
  refine ax_aload_n dX4_item_0 rfl ?_
  refine ax_iload_n dX4_item_1 rfl ?_
  refine ax_V1 cv_X4_143 dX4_item_2 fh_M rfl (ok_isTransaction _) (by decide) (Nat.le_refl _) (Nat.le_refl _) (Nat.le_of_ble_eq_true rfl) ?_
  refine ax_beq 26 dX4_item_5 (by decide) (fun c5 => absurd c5 (by rw [hk]; simp)) (fun c5 => ?_)
  refine ax_iload_n dX4_item_8 rfl ?_
  refine ax_i2l _ dX4_item_9 rfl ?_
  refine ax_lconst 0 dX4_item_10 (by decide) ?_
  refine ax_aload_n dX4_item_11 rfl ?_
  refine rg_14 dX4_item_12 ?_
  refine ax_iload_n dX4_item_15 rfl ?_
  refine rl_14 dX4_item_16 (by omega) ?_
  refine ax_iconst (nI 1) dX4_item_17 (by decide) ?_
  refine ax_isub _ dX4_item_18 (rfl) ?_
  refine ax_i2l _ dX4_item_19 rfl ?_
  refine ax_S3 cs_X4_88 dX4_item_20 (ok_in _ _ _) (by decide) (Nat.le_refl _) (Nat.le_refl _) (Nat.le_of_ble_eq_true rfl) ?_
  refine ax_bne 28 dX4_item_23 (by decide) (fun c23 => absurd c23 (by rw [hy, hi]; simp)) (fun c23 => ?_)
  refine ax_iconst (-1) dX4_item_26 (by decide) ?_
  refine ax_iretD dX4_item_27 rfl ⟨(Nat.le_refl _), (Nat.le_refl _)⟩ ?_ ?_
  · rfl
  · rfl
theorem ok_item (hw : rf_ok ρ) {t i : Nat} (ht : t < 60) (hi : i < ρ.1 14 t) (hk : (decide (0 ≤ nI t) && decide (nI t ≤ nI (ρ.1 10 0) - 1)) = true) (w : Int32) : ax_Ok mX4_item yX4_item 3 0 0 [ax_r (80, 0), ax_i (nI t), ax_i (nI i), ax_i w] (fh c ρ) (ax_D (ax_i (rIt ρ (8 * t + i) w)) (fh c ρ)) := by
  refine ax_Ok.of (by decide) rfl (fun q => by cases q) (Nat.le_of_ble_eq_true rfl) rfl ?_
  have h14 := rk_14 hw t
  have hy : (decide ((0 : Int64) ≤ (nI i).toInt64) && decide ((nI i).toInt64 ≤ (nI (ρ.1 14 t) - nI 1).toInt64)) = (decide (0 ≤ nI i) && decide (nI i ≤ nI (ρ.1 14 t) - 1)) := by rw [show (0 : Int64) = (0 : Int32).toInt64 by decide]; simp only [i64_le]; rfl
  have hi2 : (decide (0 ≤ nI i) && decide (nI i ≤ nI (ρ.1 14 t) - 1)) = true := (rf_in (by omega)).mpr ⟨i, hi, rfl⟩
  by_cases w0 : w = nI 0
  · subst w0
    refine ax_aload_n dX4_item_0 rfl ?_
    refine ax_iload_n dX4_item_1 rfl ?_
    refine ax_V1 cv_X4_143 dX4_item_2 fh_M rfl (ok_isTransaction _) (by decide) (Nat.le_refl _) (Nat.le_refl _) (Nat.le_of_ble_eq_true rfl) ?_
    refine ax_beq 26 dX4_item_5 (by decide) (fun c5 => absurd c5 (by rw [hk]; simp)) (fun c5 => ?_)
    refine ax_iload_n dX4_item_8 rfl ?_
    refine ax_i2l _ dX4_item_9 rfl ?_
    refine ax_lconst 0 dX4_item_10 (by decide) ?_
    refine ax_aload_n dX4_item_11 rfl ?_
    refine rg_14 dX4_item_12 ?_
    refine ax_iload_n dX4_item_15 rfl ?_
    refine rl_14 dX4_item_16 (by first | omega | exact rk_N hw _ _) ?_
    refine ax_iconst (nI 1) dX4_item_17 (by decide) ?_
    refine ax_isub _ dX4_item_18 (rfl) ?_
    refine ax_i2l _ dX4_item_19 rfl ?_
    refine ax_S3 cs_X4_88 dX4_item_20 (ok_in _ _ _) (by decide) (Nat.le_refl _) (Nat.le_refl _) (Nat.le_of_ble_eq_true rfl) ?_
    refine ax_bne 28 dX4_item_23 (by decide) (fun c23 => ?_) (fun c23 => absurd c23 (by rw [hy, hi2]; simp))
    refine ax_bipush (nI 8) dX4_item_28 (by decide) ?_
    refine ax_iload_n dX4_item_30 rfl ?_
    refine ax_imuln dX4_item_31 ?_
    refine ax_iload_n dX4_item_32 rfl ?_
    refine ax_iaddn dX4_item_33 ?_
    refine ax_istore dX4_item_34 rfl (by decide) ?_
    refine ax_iload_n dX4_item_36 rfl ?_
    · refine ax_tin 72 dX4_item_37 (by decide) (by decide) (by rfl) (by decide) ?_
      refine ax_aload_n dX4_item_72 rfl ?_
      refine rg_18 dX4_item_73 ?_
      refine ax_iload dX4_item_76 rfl ?_
      refine rl_18 dX4_item_78 (by first | omega | exact rk_N hw _ _) ?_
      refine ax_iretD dX4_item_79 rfl ⟨(Nat.le_refl _), (Nat.le_refl _)⟩ ?_ ?_
      · first | rfl | (simp [rIt]; done) | (show _ = (if ρ.2.1 22 _ = true then _ else _); simp [c5, c23]; done)
      · rfl
  by_cases w1 : w = nI 1
  · subst w1
    refine ax_aload_n dX4_item_0 rfl ?_
    refine ax_iload_n dX4_item_1 rfl ?_
    refine ax_V1 cv_X4_143 dX4_item_2 fh_M rfl (ok_isTransaction _) (by decide) (Nat.le_refl _) (Nat.le_refl _) (Nat.le_of_ble_eq_true rfl) ?_
    refine ax_beq 26 dX4_item_5 (by decide) (fun c5 => absurd c5 (by rw [hk]; simp)) (fun c5 => ?_)
    refine ax_iload_n dX4_item_8 rfl ?_
    refine ax_i2l _ dX4_item_9 rfl ?_
    refine ax_lconst 0 dX4_item_10 (by decide) ?_
    refine ax_aload_n dX4_item_11 rfl ?_
    refine rg_14 dX4_item_12 ?_
    refine ax_iload_n dX4_item_15 rfl ?_
    refine rl_14 dX4_item_16 (by first | omega | exact rk_N hw _ _) ?_
    refine ax_iconst (nI 1) dX4_item_17 (by decide) ?_
    refine ax_isub _ dX4_item_18 (rfl) ?_
    refine ax_i2l _ dX4_item_19 rfl ?_
    refine ax_S3 cs_X4_88 dX4_item_20 (ok_in _ _ _) (by decide) (Nat.le_refl _) (Nat.le_refl _) (Nat.le_of_ble_eq_true rfl) ?_
    refine ax_bne 28 dX4_item_23 (by decide) (fun c23 => ?_) (fun c23 => absurd c23 (by rw [hy, hi2]; simp))
    refine ax_bipush (nI 8) dX4_item_28 (by decide) ?_
    refine ax_iload_n dX4_item_30 rfl ?_
    refine ax_imuln dX4_item_31 ?_
    refine ax_iload_n dX4_item_32 rfl ?_
    refine ax_iaddn dX4_item_33 ?_
    refine ax_istore dX4_item_34 rfl (by decide) ?_
    refine ax_iload_n dX4_item_36 rfl ?_
    · refine ax_tin 80 dX4_item_37 (by decide) (by decide) (by rfl) (by decide) ?_
      refine ax_aload_n dX4_item_80 rfl ?_
      refine rg_19 dX4_item_81 ?_
      refine ax_iload dX4_item_84 rfl ?_
      refine rl_19 dX4_item_86 (by first | omega | exact rk_N hw _ _) ?_
      refine ax_iretD dX4_item_87 rfl ⟨(Nat.le_refl _), (Nat.le_refl _)⟩ ?_ ?_
      · first | rfl | (simp [rIt]; done) | (show _ = (if ρ.2.1 22 _ = true then _ else _); simp [c5, c23]; done)
      · rfl
  by_cases w2 : w = nI 2
  · subst w2
    refine ax_aload_n dX4_item_0 rfl ?_
    refine ax_iload_n dX4_item_1 rfl ?_
    refine ax_V1 cv_X4_143 dX4_item_2 fh_M rfl (ok_isTransaction _) (by decide) (Nat.le_refl _) (Nat.le_refl _) (Nat.le_of_ble_eq_true rfl) ?_
    refine ax_beq 26 dX4_item_5 (by decide) (fun c5 => absurd c5 (by rw [hk]; simp)) (fun c5 => ?_)
    refine ax_iload_n dX4_item_8 rfl ?_
    refine ax_i2l _ dX4_item_9 rfl ?_
    refine ax_lconst 0 dX4_item_10 (by decide) ?_
    refine ax_aload_n dX4_item_11 rfl ?_
    refine rg_14 dX4_item_12 ?_
    refine ax_iload_n dX4_item_15 rfl ?_
    refine rl_14 dX4_item_16 (by first | omega | exact rk_N hw _ _) ?_
    refine ax_iconst (nI 1) dX4_item_17 (by decide) ?_
    refine ax_isub _ dX4_item_18 (rfl) ?_
    refine ax_i2l _ dX4_item_19 rfl ?_
    refine ax_S3 cs_X4_88 dX4_item_20 (ok_in _ _ _) (by decide) (Nat.le_refl _) (Nat.le_refl _) (Nat.le_of_ble_eq_true rfl) ?_
    refine ax_bne 28 dX4_item_23 (by decide) (fun c23 => ?_) (fun c23 => absurd c23 (by rw [hy, hi2]; simp))
    refine ax_bipush (nI 8) dX4_item_28 (by decide) ?_
    refine ax_iload_n dX4_item_30 rfl ?_
    refine ax_imuln dX4_item_31 ?_
    refine ax_iload_n dX4_item_32 rfl ?_
    refine ax_iaddn dX4_item_33 ?_
    refine ax_istore dX4_item_34 rfl (by decide) ?_
    refine ax_iload_n dX4_item_36 rfl ?_
    · refine ax_tin 88 dX4_item_37 (by decide) (by decide) (by rfl) (by decide) ?_
      refine ax_aload_n dX4_item_88 rfl ?_
      refine rg_20 dX4_item_89 ?_
      refine ax_iload dX4_item_92 rfl ?_
      refine rl_20 dX4_item_94 (by first | omega | exact rk_N hw _ _) ?_
      refine ax_iretD dX4_item_95 rfl ⟨(Nat.le_refl _), (Nat.le_refl _)⟩ ?_ ?_
      · first | rfl | (simp [rIt]; done) | (show _ = (if ρ.2.1 22 _ = true then _ else _); simp [c5, c23]; done)
      · rfl
  by_cases w3 : w = nI 3
  · subst w3
    refine ax_aload_n dX4_item_0 rfl ?_
    refine ax_iload_n dX4_item_1 rfl ?_
    refine ax_V1 cv_X4_143 dX4_item_2 fh_M rfl (ok_isTransaction _) (by decide) (Nat.le_refl _) (Nat.le_refl _) (Nat.le_of_ble_eq_true rfl) ?_
    refine ax_beq 26 dX4_item_5 (by decide) (fun c5 => absurd c5 (by rw [hk]; simp)) (fun c5 => ?_)
    refine ax_iload_n dX4_item_8 rfl ?_
    refine ax_i2l _ dX4_item_9 rfl ?_
    refine ax_lconst 0 dX4_item_10 (by decide) ?_
    refine ax_aload_n dX4_item_11 rfl ?_
    refine rg_14 dX4_item_12 ?_
    refine ax_iload_n dX4_item_15 rfl ?_
    refine rl_14 dX4_item_16 (by first | omega | exact rk_N hw _ _) ?_
    refine ax_iconst (nI 1) dX4_item_17 (by decide) ?_
    refine ax_isub _ dX4_item_18 (rfl) ?_
    refine ax_i2l _ dX4_item_19 rfl ?_
    refine ax_S3 cs_X4_88 dX4_item_20 (ok_in _ _ _) (by decide) (Nat.le_refl _) (Nat.le_refl _) (Nat.le_of_ble_eq_true rfl) ?_
    refine ax_bne 28 dX4_item_23 (by decide) (fun c23 => ?_) (fun c23 => absurd c23 (by rw [hy, hi2]; simp))
    refine ax_bipush (nI 8) dX4_item_28 (by decide) ?_
    refine ax_iload_n dX4_item_30 rfl ?_
    refine ax_imuln dX4_item_31 ?_
    refine ax_iload_n dX4_item_32 rfl ?_
    refine ax_iaddn dX4_item_33 ?_
    refine ax_istore dX4_item_34 rfl (by decide) ?_
    refine ax_iload_n dX4_item_36 rfl ?_
    · refine ax_tin 96 dX4_item_37 (by decide) (by decide) (by rfl) (by decide) ?_
      refine ax_aload_n dX4_item_96 rfl ?_
      refine rg_21 dX4_item_97 ?_
      refine ax_iload dX4_item_100 rfl ?_
      refine rl_21 dX4_item_102 (by first | omega | exact rk_N hw _ _) ?_
      refine ax_iretD dX4_item_103 rfl ⟨(Nat.le_refl _), (Nat.le_refl _)⟩ ?_ ?_
      · first | rfl | (simp [rIt]; done) | (show _ = (if ρ.2.1 22 _ = true then _ else _); simp [c5, c23]; done)
      · rfl
  by_cases w4 : w = nI 4
  · subst w4
    refine ax_aload_n dX4_item_0 rfl ?_
    refine ax_iload_n dX4_item_1 rfl ?_
    refine ax_V1 cv_X4_143 dX4_item_2 fh_M rfl (ok_isTransaction _) (by decide) (Nat.le_refl _) (Nat.le_refl _) (Nat.le_of_ble_eq_true rfl) ?_
    refine ax_beq 26 dX4_item_5 (by decide) (fun c5 => absurd c5 (by rw [hk]; simp)) (fun c5 => ?_)
    refine ax_iload_n dX4_item_8 rfl ?_
    refine ax_i2l _ dX4_item_9 rfl ?_
    refine ax_lconst 0 dX4_item_10 (by decide) ?_
    refine ax_aload_n dX4_item_11 rfl ?_
    refine rg_14 dX4_item_12 ?_
    refine ax_iload_n dX4_item_15 rfl ?_
    refine rl_14 dX4_item_16 (by first | omega | exact rk_N hw _ _) ?_
    refine ax_iconst (nI 1) dX4_item_17 (by decide) ?_
    refine ax_isub _ dX4_item_18 (rfl) ?_
    refine ax_i2l _ dX4_item_19 rfl ?_
    refine ax_S3 cs_X4_88 dX4_item_20 (ok_in _ _ _) (by decide) (Nat.le_refl _) (Nat.le_refl _) (Nat.le_of_ble_eq_true rfl) ?_
    refine ax_bne 28 dX4_item_23 (by decide) (fun c23 => ?_) (fun c23 => absurd c23 (by rw [hy, hi2]; simp))
    refine ax_bipush (nI 8) dX4_item_28 (by decide) ?_
    refine ax_iload_n dX4_item_30 rfl ?_
    refine ax_imuln dX4_item_31 ?_
    refine ax_iload_n dX4_item_32 rfl ?_
    refine ax_iaddn dX4_item_33 ?_
    refine ax_istore dX4_item_34 rfl (by decide) ?_
    refine ax_iload_n dX4_item_36 rfl ?_
    · refine ax_tin 104 dX4_item_37 (by decide) (by decide) (by rfl) (by decide) ?_
      refine ax_aload_n dX4_item_104 rfl ?_
      refine rg_22 dX4_item_105 ?_
      refine ax_iload dX4_item_108 rfl ?_
      refine rl_22 dX4_item_110 (by first | omega | exact rk_N hw _ _) ?_
      refine ax_beq 124 dX4_item_111 (by decide) (fun c111 => ?_) (fun c111 => ?_)
      · refine ax_bipush (-9) dX4_item_124 (by decide) ?_
        refine ax_iretD dX4_item_126 rfl ⟨(Nat.le_refl _), (Nat.le_refl _)⟩ ?_ ?_
        · first | rfl | (simp [rIt]; done) | (show _ = (if ρ.2.1 22 _ = true then _ else _); simp [c5, c23, c111]; done)
        · rfl
      · refine ax_aload_n dX4_item_114 rfl ?_
        refine rg_23 dX4_item_115 ?_
        refine ax_iload dX4_item_118 rfl ?_
        refine rl_23 dX4_item_120 (by first | omega | exact rk_N hw _ _) ?_
        refine ax_goto 126 dX4_item_121 (by decide) ?_
        refine ax_iretD dX4_item_126 rfl ⟨(Nat.le_refl _), (Nat.le_refl _)⟩ ?_ ?_
        · first | rfl | (simp [rIt]; done) | (show _ = (if ρ.2.1 22 _ = true then _ else _); simp [c5, c23, c111]; done)
        · rfl
  refine ax_aload_n dX4_item_0 rfl ?_
  refine ax_iload_n dX4_item_1 rfl ?_
  refine ax_V1 cv_X4_143 dX4_item_2 fh_M rfl (ok_isTransaction _) (by decide) (Nat.le_refl _) (Nat.le_refl _) (Nat.le_of_ble_eq_true rfl) ?_
  refine ax_beq 26 dX4_item_5 (by decide) (fun c5 => absurd c5 (by rw [hk]; simp)) (fun c5 => ?_)
  refine ax_iload_n dX4_item_8 rfl ?_
  refine ax_i2l _ dX4_item_9 rfl ?_
  refine ax_lconst 0 dX4_item_10 (by decide) ?_
  refine ax_aload_n dX4_item_11 rfl ?_
  refine rg_14 dX4_item_12 ?_
  refine ax_iload_n dX4_item_15 rfl ?_
  refine rl_14 dX4_item_16 (by first | omega | exact rk_N hw _ _) ?_
  refine ax_iconst (nI 1) dX4_item_17 (by decide) ?_
  refine ax_isub _ dX4_item_18 (rfl) ?_
  refine ax_i2l _ dX4_item_19 rfl ?_
  refine ax_S3 cs_X4_88 dX4_item_20 (ok_in _ _ _) (by decide) (Nat.le_refl _) (Nat.le_refl _) (Nat.le_of_ble_eq_true rfl) ?_
  refine ax_bne 28 dX4_item_23 (by decide) (fun c23 => ?_) (fun c23 => absurd c23 (by rw [hy, hi2]; simp))
  refine ax_bipush (nI 8) dX4_item_28 (by decide) ?_
  refine ax_iload_n dX4_item_30 rfl ?_
  refine ax_imuln dX4_item_31 ?_
  refine ax_iload_n dX4_item_32 rfl ?_
  refine ax_iaddn dX4_item_33 ?_
  refine ax_istore dX4_item_34 rfl (by decide) ?_
  refine ax_iload_n dX4_item_36 rfl ?_
  · refine ax_tout 127 dX4_item_37 (sw_out 4 (by decide) (fun k hk => by rcases (show k = 0 ∨ k = 1 ∨ k = 2 ∨ k = 3 ∨ k = 4 by omega) with rfl | rfl | rfl | rfl | rfl <;> assumption)) (by decide) ?_
    refine ax_bipush (-2) dX4_item_127 (by decide) ?_
    refine ax_iretD dX4_item_129 rfl ⟨(Nat.le_refl _), (Nat.le_refl _)⟩ ?_ ?_
    · first | rfl | (simp [rIt, w0, w1, w2, w3, w4]; done) | (show _ = (if ρ.2.1 22 _ = true then _ else _); simp [c5, c23]; done)
    · rfl
theorem ok_copyAt0 {x y : Int32} (hk : (decide (0 ≤ x) && decide (x ≤ nI (ρ.1 4 0) - 1)) = false) : ax_Ok mX4_copyAt yX4_copyAt 3 0 0 [ax_r (80, 0), ax_i x, ax_i y] (fh c ρ) (ax_D (ax_i (-1)) (fh c ρ)) := by
  refine ax_Ok.of (by decide) rfl (fun q => by cases q) (Nat.le_of_ble_eq_true rfl) rfl ?_
  refine ax_aload_n dX4_copyAt_0 rfl ?_
  refine ax_iload_n dX4_copyAt_1 rfl ?_
  refine ax_V1 cv_X4_118 dX4_copyAt_2 fh_M rfl (ok_isRegion _) (by decide) (Nat.le_refl _) (Nat.le_refl _) (Nat.le_of_ble_eq_true rfl) ?_
  refine ax_bne 10 dX4_copyAt_5 (by decide) (fun c5 => absurd c5 (by simp [hk])) (fun c5 => ?_)
  refine ax_iconst (-1) dX4_copyAt_8 (by decide) ?_
  refine ax_iretD dX4_copyAt_9 rfl ⟨(Nat.le_refl _), (Nat.le_refl _)⟩ ?_ ?_
  · rfl
  · rfl
theorem ok_copyAt (hw : rf_ok ρ) {r : Nat} (hr : r < 6) {y : Int32} (hk : (decide (0 ≤ nI r) && decide (nI r ≤ nI (ρ.1 4 0) - 1)) = true) : ax_Ok mX4_copyAt yX4_copyAt 3 0 0 [ax_r (80, 0), ax_i (nI r), ax_i y] (fh c ρ) (ax_D (ax_i (rCa ρ r y)) (fh c ρ)) := by
  refine ax_Ok.of (by decide) rfl (fun q => by cases q) (Nat.le_of_ble_eq_true rfl) rfl ?_
  rcases rP_in hw (r := r) (x := y) with hp | ⟨p, hp6, hp⟩
  · skip
    refine ax_aload_n dX4_copyAt_0 rfl ?_
    refine ax_iload_n dX4_copyAt_1 rfl ?_
    refine ax_V1 cv_X4_118 dX4_copyAt_2 fh_M rfl (ok_isRegion _) (by decide) (Nat.le_refl _) (Nat.le_refl _) (Nat.le_of_ble_eq_true rfl) ?_
    refine ax_bne 10 dX4_copyAt_5 (by decide) (fun c5 => ?_) (fun c5 => absurd c5 (by rw [hk]; simp))
    refine ax_aload_n dX4_copyAt_10 rfl ?_
    refine ax_iload_n dX4_copyAt_11 rfl ?_
    refine ax_iload_n dX4_copyAt_12 rfl ?_
    refine ax_V2 cv_X4_104 dX4_copyAt_13 fh_M rfl (ok_placeOf hw hr y) (by decide) (Nat.le_refl _) (Nat.le_refl _) (Nat.le_of_ble_eq_true rfl) ?_
    rw [hp]
    refine ax_istore_n dX4_copyAt_16 rfl (by decide) ?_
    refine ax_iload_n dX4_copyAt_17 rfl ?_
    refine ax_bipush (-9) dX4_copyAt_18 (by decide) ?_
    refine ax_icmp_ne 28 dX4_copyAt_20 (by decide) (fun c20 => absurd c20 (fun z => z rfl)) (fun c20 => ?_)
    refine ax_bipush (-9) dX4_copyAt_23 (by decide) ?_
    refine ax_goto 39 dX4_copyAt_25 (by decide) ?_
    refine ax_iretD dX4_copyAt_39 rfl ⟨(Nat.le_refl _), (Nat.le_refl _)⟩ ?_ ?_
    · simp [rCa, hp]
    · rfl
  · skip
    refine ax_aload_n dX4_copyAt_0 rfl ?_
    refine ax_iload_n dX4_copyAt_1 rfl ?_
    refine ax_V1 cv_X4_118 dX4_copyAt_2 fh_M rfl (ok_isRegion _) (by decide) (Nat.le_refl _) (Nat.le_refl _) (Nat.le_of_ble_eq_true rfl) ?_
    refine ax_bne 10 dX4_copyAt_5 (by decide) (fun c5 => ?_) (fun c5 => absurd c5 (by rw [hk]; simp))
    refine ax_aload_n dX4_copyAt_10 rfl ?_
    refine ax_iload_n dX4_copyAt_11 rfl ?_
    refine ax_iload_n dX4_copyAt_12 rfl ?_
    refine ax_V2 cv_X4_104 dX4_copyAt_13 fh_M rfl (ok_placeOf hw hr y) (by decide) (Nat.le_refl _) (Nat.le_refl _) (Nat.le_of_ble_eq_true rfl) ?_
    rw [hp]
    refine ax_istore_n dX4_copyAt_16 rfl (by decide) ?_
    refine ax_iload_n dX4_copyAt_17 rfl ?_
    refine ax_bipush (-9) dX4_copyAt_18 (by decide) ?_
    refine ax_icmp_ne 28 dX4_copyAt_20 (by decide) (fun c20 => ?_) (fun c20 => absurd c20 (nI_n9 (by omega)))
    refine ax_aload_n dX4_copyAt_28 rfl ?_
    refine rg_6 dX4_copyAt_29 ?_
    refine ax_bipush (nI 6) dX4_copyAt_32 (by decide) ?_
    refine ax_iload_n dX4_copyAt_34 rfl ?_
    refine ax_imuln dX4_copyAt_35 ?_
    refine ax_iload_n dX4_copyAt_36 rfl ?_
    refine ax_iaddn dX4_copyAt_37 ?_
    refine rl_6 dX4_copyAt_38 (by omega) ?_
    refine ax_iretD dX4_copyAt_39 rfl ⟨(Nat.le_refl _), (Nat.le_refl _)⟩ ?_ ?_
    · simp [rCa, hp, nI_n9 (show p < 2 ^ 31 by omega), nI_clamp (show p < 2 ^ 31 by omega)]
    · rfl
end REFM
