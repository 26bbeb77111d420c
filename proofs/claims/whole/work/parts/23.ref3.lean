def rf_cd (k v : Nat) : Prop := match k with
  | 5 => v ≤ 6
  | 6 => v < 6
  | 11 => v < 6
  | 14 => v ≤ 8
  | 18 => v < 6
  | 19 => v < 8
  | 27 => v < 6
  | 4 => v ≤ 6
  | 10 => v ≤ 60
  | 25 => v ≤ 1440
  | 24 => v < 64
  | _ => True
theorem rf_nu {ρ : ax_R} (hw : rf_ok ρ) {k j v : Nat} (hv : v < 1000000) (hc : rf_cd k v) : rf_ok (nu ρ k j v) := by
  have key : ∀ a i, (nu ρ k j v).1 a i = ρ.1 a i ∨ (a = k ∧ (nu ρ k j v).1 a i = v) := fun a i => by
    by_cases e : a = k ∧ i = j
    · exact Or.inr ⟨e.1, by simp [nu, e]⟩
    · exact Or.inl (by simp [nu, e])
  obtain ⟨w0, w5, w6, w11, w14, w18, w19, w27, w4, w10, w25, w26, w24⟩ := hw
  refine ⟨fun a i => ?_, fun i => ?_, fun i => ?_, fun i => ?_, fun i => ?_, fun i => ?_, fun i => ?_, fun i => ?_, ?_, ?_, ?_, w26, fun i => ?_⟩
  · rcases key a i with e | ⟨-, e⟩ <;> rw [e]
    · exact w0 a i
    · exact hv
  · rcases key 5 i with e | ⟨e1, e⟩ <;> rw [e]
    · exact w5 i
    · subst e1; exact hc
  · rcases key 6 i with e | ⟨e1, e⟩ <;> rw [e]
    · exact w6 i
    · subst e1; exact hc
  · rcases key 11 i with e | ⟨e1, e⟩ <;> rw [e]
    · exact w11 i
    · subst e1; exact hc
  · rcases key 14 i with e | ⟨e1, e⟩ <;> rw [e]
    · exact w14 i
    · subst e1; exact hc
  · rcases key 18 i with e | ⟨e1, e⟩ <;> rw [e]
    · exact w18 i
    · subst e1; exact hc
  · rcases key 19 i with e | ⟨e1, e⟩ <;> rw [e]
    · exact w19 i
    · subst e1; exact hc
  · rcases key 27 i with e | ⟨e1, e⟩ <;> rw [e]
    · exact w27 i
    · subst e1; exact hc
  · rcases key 4 0 with e | ⟨e1, e⟩ <;> rw [e]
    · exact w4
    · subst e1; exact hc
  · rcases key 10 0 with e | ⟨e1, e⟩ <;> rw [e]
    · exact w10
    · subst e1; exact hc
  · rcases key 25 0 with e | ⟨e1, e⟩ <;> rw [e]
    · exact w25
    · subst e1; exact hc
  · rcases key 24 i with e | ⟨e1, e⟩ <;> rw [e]
    · exact w24 i
    · subst e1; exact hc
theorem rf_bu {ρ : ax_R} (hw : rf_ok ρ) {k j : Nat} {v : Bool} : rf_ok (bu ρ k j v) := hw
theorem rf_ru {ρ : ax_R} (hw : rf_ok ρ) {k j : Nat} {v : Int32} (hc : k ≠ 26 ∨ v = -9 ∨ ∃ i, i < 480 ∧ v = nI i) : rf_ok (ru ρ k j v) := by
  obtain ⟨w0, w5, w6, w11, w14, w18, w19, w27, w4, w10, w25, w26, w24⟩ := hw
  refine ⟨w0, w5, w6, w11, w14, w18, w19, w27, w4, w10, w25, fun i => ?_, w24⟩
  by_cases e : 26 = k ∧ i = j
  · have e2 : (ru ρ k j v).2.2 26 i = v := by simp [ru, e]
    rw [e2]
    exact hc.resolve_left (fun h => h e.1.symm)
  · have e2 : (ru ρ k j v).2.2 26 i = ρ.2.2 26 i := by simp [ru, e]
    rw [e2]
    exact w26 i
theorem rL_some {ρ : ax_R} {r : Nat} (h : ¬ rM ρ r = 0) : ∃ p, (rL ρ r)[0]? = some p ∧ p < ρ.1 5 r ∧ rO ρ r p = true := by
  have h1 : (rL ρ r).length ≠ 0 := by
    rw [rL, ← List.countP_eq_length_filter]
    exact h
  obtain ⟨p, l, e⟩ : ∃ p l, rL ρ r = p :: l := by
    cases e : rL ρ r with
    | nil => rw [e] at h1; exact absurd rfl h1
    | cons p l => exact ⟨p, l, rfl⟩
  have hm : p ∈ rL ρ r := by rw [e]; exact List.mem_cons_self
  obtain ⟨h2, h3⟩ := List.mem_filter.mp hm
  have h4 := (List.mem_range'_1.mp h2).2
  exact ⟨p, by rw [e]; rfl, by omega, h3⟩
theorem rIo_lt {ρ : ax_R} {t r o j : Nat} (hw : rf_ok ρ) (ht : t < 60) (h : rIo ρ t r o = some j) : j < 480 := by
  have h1 := List.mem_range'_1.mp (List.mem_of_find?_eq_some h)
  have := rk_14 hw t
  omega
/-- the backups of an item that is written; of a transaction, in order -/
def rBk (ρ : ax_R) (i : Nat) : List (Nat × Nat) := if ρ.2.1 22 i = true then ((List.range' 0 (ρ.1 5 (ρ.1 18 i))).filter fun k => !decide (nI k = oI (rL ρ (ρ.1 18 i))[0]?) && rO ρ (ρ.1 18 i) k).map (fun k => (i, k)) else []
def rB (ρ : ax_R) (t : Nat) : List (Nat × Nat) := (rI ρ t).flatMap (rBk ρ)
def rSk (ρ : ax_R) (V : Option (Nat × Nat)) : ax_R := match V with
  | some q => nu (nu ρ 28 0 q.1) 29 0 q.2
  | none => ρ
theorem ls_b0 {q : Nat → Bool} {i k m n : Nat} {R : List (Nat × Nat)} {V : Option (Nat × Nat)} (hp : q k = false) (hV : (((List.range' k (m + 1)).filter q).map (fun k => (i, k)) ++ R)[n]? = V) : (((List.range' (k + 1) m).filter q).map (fun k => (i, k)) ++ R)[n]? = V := by
  rw [← hV, List.range'_succ, List.filter_cons_of_neg (by simp [hp])]
theorem ls_b1 {q : Nat → Bool} {i k m n : Nat} {R : List (Nat × Nat)} {V : Option (Nat × Nat)} (hp : q k = true) (h0 : 0 < n) (hV : (((List.range' k (m + 1)).filter q).map (fun k => (i, k)) ++ R)[n]? = V) : (((List.range' (k + 1) m).filter q).map (fun k => (i, k)) ++ R)[n - 1]? = V := by
  rw [← hV, List.range'_succ, List.filter_cons_of_pos hp]
  cases n with
  | zero => omega
  | succ n => simp
theorem ls_b2 {q : Nat → Bool} {i k m n : Nat} {R : List (Nat × Nat)} {V : Option (Nat × Nat)} (hp : q k = true) (h0 : n = 0) (hV : (((List.range' k (m + 1)).filter q).map (fun k => (i, k)) ++ R)[n]? = V) : V = some (i, k) := by
  rw [← hV, List.range'_succ, List.filter_cons_of_pos hp, h0]
  rfl
section REFM
variable {c : ax_H} {ρ : ax_R}
theorem lp_seek1 (hw : rf_ok ρ) {t n i r : Nat} {x : Int32} {R : List (Nat × Nat)} {V : Option (Nat × Nat)} (hi : i < 480) (hr : r < 6) (hwr : ρ.2.1 22 i = true) (K : ∀ left : Nat, left < 2 ^ 31 → R[left]? = V → ax_Z mX4_seekBackup 4 0 0 (ax_D (ax_i (ax_b V.isSome)) (fh c (rSk ρ V))) 8 [some (ax_r (80, 0)), some (ax_i (nI t)), some (ax_i (nI n)), some (ax_i (nI left)), some (ax_i (nI (i + 1))), none, none, none] [] (fh c ρ) 0 0) : ∀ (m k left : Nat), k + m = ρ.1 5 r → left < 2 ^ 31 → (((List.range' k m).filter fun k => !decide (nI k = x) && rO ρ r k).map (fun k => (i, k)) ++ R)[left]? = V → ax_Z mX4_seekBackup 4 0 0 (ax_D (ax_i (ax_b V.isSome)) (fh c (rSk ρ V))) 44 [some (ax_r (80, 0)), some (ax_i (nI t)), some (ax_i (nI n)), some (ax_i (nI left)), some (ax_i (nI i)), some (ax_i (nI r)), some (ax_i x), some (ax_i (nI k))] [] (fh c ρ) 0 0 := by
  intro m
  induction m with
  | zero =>
    intro k left hk hl hV
    have h5 := rk_5 hw r
    refine ax_iload dX4_seekBackup_44 rfl ?_
    refine ax_aload_n dX4_seekBackup_46 rfl ?_
    refine rg_5 dX4_seekBackup_47 ?_
    refine ax_iload dX4_seekBackup_50 rfl ?_
    refine rl_5 dX4_seekBackup_52 (by first | omega | exact rk_6 hw _ | exact rk_11 hw _ | exact rk_18 hw _ | exact rk_19 hw _ | exact rk_27 hw _ | exact rk_N hw _ _) ?_
    refine ax_nge 111 dX4_seekBackup_53 (by decide) (by first | omega | exact rk_6 hw _ | exact rk_11 hw _ | exact rk_18 hw _ | exact rk_19 hw _ | exact rk_27 hw _ | exact rk_N hw _ _) (by first | omega | exact rk_6 hw _ | exact rk_11 hw _ | exact rk_18 hw _ | exact rk_19 hw _ | exact rk_27 hw _ | exact rk_N hw _ _) (fun c53 => ?_) (fun c53 => absurd c53 (by omega))
    refine ax_iincn (n := 1) dX4_seekBackup_111 rfl (by decide) rfl ?_
    refine ax_goto 8 dX4_seekBackup_114 (by decide) ?_
    refine ax_fg [true, true, true, true, true, false, false, false] rfl ?_
    exact K left hl hV
  | succ m ih =>
    intro k left hk hl hV
    have h5 := rk_5 hw r
    refine ax_iload dX4_seekBackup_44 rfl ?_
    refine ax_aload_n dX4_seekBackup_46 rfl ?_
    refine rg_5 dX4_seekBackup_47 ?_
    refine ax_iload dX4_seekBackup_50 rfl ?_
    refine rl_5 dX4_seekBackup_52 (by first | omega | exact rk_6 hw _ | exact rk_11 hw _ | exact rk_18 hw _ | exact rk_19 hw _ | exact rk_27 hw _ | exact rk_N hw _ _) ?_
    refine ax_nge 111 dX4_seekBackup_53 (by decide) (by first | omega | exact rk_6 hw _ | exact rk_11 hw _ | exact rk_18 hw _ | exact rk_19 hw _ | exact rk_27 hw _ | exact rk_N hw _ _) (by first | omega | exact rk_6 hw _ | exact rk_11 hw _ | exact rk_18 hw _ | exact rk_19 hw _ | exact rk_27 hw _ | exact rk_N hw _ _) (fun c53 => absurd c53 (by omega)) (fun c53 => ?_)
    refine ax_aload_n dX4_seekBackup_56 rfl ?_
    refine rg_22 dX4_seekBackup_57 ?_
    refine ax_iload dX4_seekBackup_60 rfl ?_
    refine rl_22 dX4_seekBackup_62 (by first | omega | exact rk_6 hw _ | exact rk_11 hw _ | exact rk_18 hw _ | exact rk_19 hw _ | exact rk_27 hw _ | exact rk_N hw _ _) ?_
    refine ax_beq 111 dX4_seekBackup_63 (by decide) (fun c63 => absurd c63 (by simp [hwr])) (fun c63 => ?_)
    refine ax_iload dX4_seekBackup_66 rfl ?_
    refine ax_iload dX4_seekBackup_68 rfl ?_
    refine ax_icmp_eq 105 dX4_seekBackup_70 (by decide) (fun c70 => ?_) (fun c70 => ?_)
    · refine ax_iincn (n := 1) dX4_seekBackup_105 rfl (by decide) rfl ?_
      refine ax_goto 44 dX4_seekBackup_108 (by decide) ?_
      exact ih (k + 1) left (by omega) hl (ls_b0 (by simp [c53, c63, c70]) hV)
    · refine ax_aload_n dX4_seekBackup_73 rfl ?_
      refine ax_iload dX4_seekBackup_74 rfl ?_
      refine ax_iload dX4_seekBackup_76 rfl ?_
      refine ax_V2 cv_X4_96 dX4_seekBackup_78 fh_M rfl (ok_isOn hw (by first | omega | exact rk_6 hw _ | exact rk_11 hw _ | exact rk_18 hw _ | exact rk_19 hw _ | exact rk_27 hw _ | exact rk_N hw _ _) (by first | omega | exact rk_6 hw _ | exact rk_11 hw _ | exact rk_18 hw _ | exact rk_19 hw _ | exact rk_27 hw _ | exact rk_N hw _ _)) (by decide) (Nat.le_refl _) (Nat.le_refl _) (Nat.le_of_ble_eq_true rfl) ?_
      refine ax_beq 105 dX4_seekBackup_81 (by decide) (fun c81 => ?_) (fun c81 => ?_)
      · refine ax_iincn (n := 1) dX4_seekBackup_105 rfl (by decide) rfl ?_
        refine ax_goto 44 dX4_seekBackup_108 (by decide) ?_
        exact ih (k + 1) left (by omega) hl (ls_b0 (by simp [c53, c63, c70, c81]) hV)
      · refine ax_iload_n dX4_seekBackup_84 rfl ?_
        refine ax_zne 102 dX4_seekBackup_85 (by decide) (by first | omega | exact rk_6 hw _ | exact rk_11 hw _ | exact rk_18 hw _ | exact rk_19 hw _ | exact rk_27 hw _ | exact rk_N hw _ _) (fun c85 => ?_) (fun c85 => ?_)
        · refine ax_idecn dX4_seekBackup_102 rfl (by decide) rfl (by omega) ?_
          refine ax_iincn (n := 1) dX4_seekBackup_105 rfl (by decide) rfl ?_
          refine ax_goto 44 dX4_seekBackup_108 (by decide) ?_
          exact ih (k + 1) (left - 1) (by omega) (by omega) (ls_b1 (by simp [c70, c81]) (by omega) hV)
        · have e := ls_b2 (by simp [c70, c81]) c85 hV
          subst e
          refine ax_aload_n dX4_seekBackup_88 rfl ?_
          refine ax_iload dX4_seekBackup_89 rfl ?_
          refine rp_28 dX4_seekBackup_91 ?_
          refine ax_aload_n dX4_seekBackup_94 rfl ?_
          refine ax_iload dX4_seekBackup_95 rfl ?_
          refine rp_29 dX4_seekBackup_97 ?_
          refine ax_iconst (ax_b true) dX4_seekBackup_100 (by decide) ?_
          refine ax_bret dX4_seekBackup_101 rfl ⟨(Nat.le_refl _), (Nat.le_refl _)⟩ ?_ ?_
          · rfl
          · rfl
theorem lp_seek (hw : rf_ok ρ) {t n : Nat} (ht : t < 60) {V : Option (Nat × Nat)} : ∀ (m i left : Nat), i + m = 8 * t + ρ.1 14 t → left < 2 ^ 31 → ((List.range' i m).flatMap (rBk ρ))[left]? = V → ax_Z mX4_seekBackup 4 0 0 (ax_D (ax_i (ax_b V.isSome)) (fh c (rSk ρ V))) 8 [some (ax_r (80, 0)), some (ax_i (nI t)), some (ax_i (nI n)), some (ax_i (nI left)), some (ax_i (nI i)), none, none, none] [] (fh c ρ) 0 0 := by
  intro m
  induction m with
  | zero =>
    intro i left hk hl hV
    have h14 := rk_14 hw t
    have e : V = none := by rw [← hV]; rfl
    subst e
    refine ax_iload dX4_seekBackup_8 rfl ?_
    refine ax_bipush (nI 8) dX4_seekBackup_10 (by decide) ?_
    refine ax_iload_n dX4_seekBackup_12 rfl ?_
    refine ax_imuln dX4_seekBackup_13 ?_
    refine ax_aload_n dX4_seekBackup_14 rfl ?_
    refine rg_14 dX4_seekBackup_15 ?_
    refine ax_iload_n dX4_seekBackup_18 rfl ?_
    refine rl_14 dX4_seekBackup_19 (by first | omega | exact rk_6 hw _ | exact rk_11 hw _ | exact rk_18 hw _ | exact rk_19 hw _ | exact rk_27 hw _ | exact rk_N hw _ _) ?_
    refine ax_iaddn dX4_seekBackup_20 ?_
    refine ax_nge 117 dX4_seekBackup_21 (by decide) (by first | omega | exact rk_6 hw _ | exact rk_11 hw _ | exact rk_18 hw _ | exact rk_19 hw _ | exact rk_27 hw _ | exact rk_N hw _ _) (by first | omega | exact rk_6 hw _ | exact rk_11 hw _ | exact rk_18 hw _ | exact rk_19 hw _ | exact rk_27 hw _ | exact rk_N hw _ _) (fun c21 => ?_) (fun c21 => absurd c21 (by omega))
    refine ax_iconst (ax_b false) dX4_seekBackup_117 (by decide) ?_
    refine ax_bret dX4_seekBackup_118 rfl ⟨(Nat.le_refl _), (Nat.le_refl _)⟩ ?_ ?_
    · rfl
    · rfl
  | succ m ih =>
    intro i left hk hl hV
    have h14 := rk_14 hw t
    have h18 := rk_18 hw i
    have h5 := rk_5 hw (ρ.1 18 i)
    rw [List.range'_succ, List.flatMap_cons] at hV
    cases hwr : ρ.2.1 22 i with
    | false =>
      have e : rBk ρ i = [] := by simp [rBk, hwr]
      rw [e, List.nil_append] at hV
      refine ax_iload dX4_seekBackup_8 rfl ?_
      refine ax_bipush (nI 8) dX4_seekBackup_10 (by decide) ?_
      refine ax_iload_n dX4_seekBackup_12 rfl ?_
      refine ax_imuln dX4_seekBackup_13 ?_
      refine ax_aload_n dX4_seekBackup_14 rfl ?_
      refine rg_14 dX4_seekBackup_15 ?_
      refine ax_iload_n dX4_seekBackup_18 rfl ?_
      refine rl_14 dX4_seekBackup_19 (by first | omega | exact rk_6 hw _ | exact rk_11 hw _ | exact rk_18 hw _ | exact rk_19 hw _ | exact rk_27 hw _ | exact rk_N hw _ _) ?_
      refine ax_iaddn dX4_seekBackup_20 ?_
      refine ax_nge 117 dX4_seekBackup_21 (by decide) (by first | omega | exact rk_6 hw _ | exact rk_11 hw _ | exact rk_18 hw _ | exact rk_19 hw _ | exact rk_27 hw _ | exact rk_N hw _ _) (by first | omega | exact rk_6 hw _ | exact rk_11 hw _ | exact rk_18 hw _ | exact rk_19 hw _ | exact rk_27 hw _ | exact rk_N hw _ _) (fun c21 => absurd c21 (by omega)) (fun c21 => ?_)
      refine ax_aload_n dX4_seekBackup_24 rfl ?_
      refine rg_18 dX4_seekBackup_25 ?_
      refine ax_iload dX4_seekBackup_28 rfl ?_
      refine rl_18 dX4_seekBackup_30 (by first | omega | exact rk_6 hw _ | exact rk_11 hw _ | exact rk_18 hw _ | exact rk_19 hw _ | exact rk_27 hw _ | exact rk_N hw _ _) ?_
      refine ax_istore dX4_seekBackup_31 rfl (by decide) ?_
      refine ax_aload_n dX4_seekBackup_33 rfl ?_
      refine ax_iload dX4_seekBackup_34 rfl ?_
      refine ax_V1 cv_X4_124 dX4_seekBackup_36 fh_M rfl (ok_primary hw (by first | omega | exact rk_6 hw _ | exact rk_11 hw _ | exact rk_18 hw _ | exact rk_19 hw _ | exact rk_27 hw _ | exact rk_N hw _ _)) (by decide) (Nat.le_refl _) (Nat.le_refl _) (Nat.le_of_ble_eq_true rfl) ?_
      refine ax_istore dX4_seekBackup_39 rfl (by decide) ?_
      refine ax_iconst (nI 0) dX4_seekBackup_41 (by decide) ?_
      refine ax_istore dX4_seekBackup_42 rfl (by decide) ?_
      refine ax_iload dX4_seekBackup_44 rfl ?_
      refine ax_aload_n dX4_seekBackup_46 rfl ?_
      refine rg_5 dX4_seekBackup_47 ?_
      refine ax_iload dX4_seekBackup_50 rfl ?_
      refine rl_5 dX4_seekBackup_52 (by first | omega | exact rk_6 hw _ | exact rk_11 hw _ | exact rk_18 hw _ | exact rk_19 hw _ | exact rk_27 hw _ | exact rk_N hw _ _) ?_
      refine ax_nge 111 dX4_seekBackup_53 (by decide) (by first | omega | exact rk_6 hw _ | exact rk_11 hw _ | exact rk_18 hw _ | exact rk_19 hw _ | exact rk_27 hw _ | exact rk_N hw _ _) (by first | omega | exact rk_6 hw _ | exact rk_11 hw _ | exact rk_18 hw _ | exact rk_19 hw _ | exact rk_27 hw _ | exact rk_N hw _ _) (fun c53 => ?_) (fun c53 => ?_)
      · refine ax_iincn (n := 1) dX4_seekBackup_111 rfl (by decide) rfl ?_
        refine ax_goto 8 dX4_seekBackup_114 (by decide) ?_
        refine ax_fg [true, true, true, true, true, false, false, false] rfl ?_
        exact ih (i + 1) left (by omega) hl hV
      · refine ax_aload_n dX4_seekBackup_56 rfl ?_
        refine rg_22 dX4_seekBackup_57 ?_
        refine ax_iload dX4_seekBackup_60 rfl ?_
        refine rl_22 dX4_seekBackup_62 (by first | omega | exact rk_6 hw _ | exact rk_11 hw _ | exact rk_18 hw _ | exact rk_19 hw _ | exact rk_27 hw _ | exact rk_N hw _ _) ?_
        refine ax_beq 111 dX4_seekBackup_63 (by decide) (fun c63 => ?_) (fun c63 => absurd c63 (by simp [hwr]))
        refine ax_iincn (n := 1) dX4_seekBackup_111 rfl (by decide) rfl ?_
        refine ax_goto 8 dX4_seekBackup_114 (by decide) ?_
        refine ax_fg [true, true, true, true, true, false, false, false] rfl ?_
        exact ih (i + 1) left (by omega) hl hV
    | true =>
      have e : rBk ρ i = ((List.range' 0 (ρ.1 5 (ρ.1 18 i))).filter fun k => !decide (nI k = oI (rL ρ (ρ.1 18 i))[0]?) && rO ρ (ρ.1 18 i) k).map (fun k => (i, k)) := by simp [rBk, hwr]
      rw [e] at hV
      refine ax_iload dX4_seekBackup_8 rfl ?_
      refine ax_bipush (nI 8) dX4_seekBackup_10 (by decide) ?_
      refine ax_iload_n dX4_seekBackup_12 rfl ?_
      refine ax_imuln dX4_seekBackup_13 ?_
      refine ax_aload_n dX4_seekBackup_14 rfl ?_
      refine rg_14 dX4_seekBackup_15 ?_
      refine ax_iload_n dX4_seekBackup_18 rfl ?_
      refine rl_14 dX4_seekBackup_19 (by first | omega | exact rk_6 hw _ | exact rk_11 hw _ | exact rk_18 hw _ | exact rk_19 hw _ | exact rk_27 hw _ | exact rk_N hw _ _) ?_
      refine ax_iaddn dX4_seekBackup_20 ?_
      refine ax_nge 117 dX4_seekBackup_21 (by decide) (by first | omega | exact rk_6 hw _ | exact rk_11 hw _ | exact rk_18 hw _ | exact rk_19 hw _ | exact rk_27 hw _ | exact rk_N hw _ _) (by first | omega | exact rk_6 hw _ | exact rk_11 hw _ | exact rk_18 hw _ | exact rk_19 hw _ | exact rk_27 hw _ | exact rk_N hw _ _) (fun c21 => absurd c21 (by omega)) (fun c21 => ?_)
      refine ax_aload_n dX4_seekBackup_24 rfl ?_
      refine rg_18 dX4_seekBackup_25 ?_
      refine ax_iload dX4_seekBackup_28 rfl ?_
      refine rl_18 dX4_seekBackup_30 (by first | omega | exact rk_6 hw _ | exact rk_11 hw _ | exact rk_18 hw _ | exact rk_19 hw _ | exact rk_27 hw _ | exact rk_N hw _ _) ?_
      refine ax_istore dX4_seekBackup_31 rfl (by decide) ?_
      refine ax_aload_n dX4_seekBackup_33 rfl ?_
      refine ax_iload dX4_seekBackup_34 rfl ?_
      refine ax_V1 cv_X4_124 dX4_seekBackup_36 fh_M rfl (ok_primary hw (by first | omega | exact rk_6 hw _ | exact rk_11 hw _ | exact rk_18 hw _ | exact rk_19 hw _ | exact rk_27 hw _ | exact rk_N hw _ _)) (by decide) (Nat.le_refl _) (Nat.le_refl _) (Nat.le_of_ble_eq_true rfl) ?_
      refine ax_istore dX4_seekBackup_39 rfl (by decide) ?_
      refine ax_iconst (nI 0) dX4_seekBackup_41 (by decide) ?_
      refine ax_istore dX4_seekBackup_42 rfl (by decide) ?_
      exact lp_seek1 hw (by omega) h18 hwr (fun l hl2 hV2 => ih (i + 1) l (by omega) hl2 hV2) (ρ.1 5 (ρ.1 18 i)) 0 left (Nat.zero_add _) hl hV
theorem ok_seekBackup (hw : rf_ok ρ) {t n : Nat} (ht : t < 60) (hn : n < 2 ^ 31) : ax_Ok mX4_seekBackup yX4_seekBackup 4 0 0 [ax_r (80, 0), ax_i (nI t), ax_i (nI n)] (fh c ρ) (ax_D (ax_i (ax_b ((rB ρ t)[n]?).isSome)) (fh c (rSk ρ (rB ρ t)[n]?))) := by
  refine ax_Ok.of (by decide) rfl (fun q => by cases q) (Nat.le_of_ble_eq_true rfl) rfl ?_
  refine ax_iload_n dX4_seekBackup_0 rfl ?_
  refine ax_istore_n dX4_seekBackup_1 rfl (by decide) ?_
  refine ax_bipush (nI 8) dX4_seekBackup_2 (by decide) ?_
  refine ax_iload_n dX4_seekBackup_4 rfl ?_
  refine ax_imuln dX4_seekBackup_5 ?_
  refine ax_istore dX4_seekBackup_6 rfl (by decide) ?_
  exact lp_seek hw ht (ρ.1 14 t) (8 * t) n rfl hn rfl
theorem rNt_lt {ρ : ax_R} {t n j : Nat} {b : Bool} (hw : rf_ok ρ) (ht : t < 60) (h : rNt ρ t n b = some j) : j < 480 := by
  have h1 := List.mem_range'_1.mp (List.mem_filter.mp (List.mem_of_getElem? h)).1
  have := rk_14 hw t
  omega
theorem rFl_lt {ρ : ax_R} {t j : Nat} (hw : rf_ok ρ) (ht : t < 60) (h : rFl ρ t = some j) : j < 480 := by
  have h1 := List.mem_range'_1.mp (List.mem_of_find?_eq_some h)
  have := rk_14 hw t
  omega
theorem rFr_lt {ρ : ax_R} {t j : Nat} (hw : rf_ok ρ) (h : rFr ρ t = some j) : j < 1440 := by
  have h1 := List.mem_range'_1.mp (List.mem_of_find?_eq_some h)
  have := rk_25 hw
  omega
theorem ov1 {α : Type} {o : Option α} (h : o = none) : true = o.isNone := by rw [h]; rfl
theorem ov2 {α : Type} {o : Option α} (h : ¬ o = none) : false = o.isNone := by
  cases o with
  | none => exact absurd rfl h
  | some x => rfl
theorem ov3 {α : Type} {o : Option α} (h : o.isSome = false) : true = o.isNone := by
  cases o with
  | none => rfl
  | some x => cases h
theorem ov4 {α : Type} {o : Option α} (h : o.isSome = true) : false = o.isNone := by
  cases o with
  | none => cases h
  | some x => rfl
def rOv (ρ : ax_R) (t : Nat) : Bool := match ρ.1 12 t with
  | 1 => (rNt ρ t (ρ.1 13 t) true).isNone
  | 2 => (rNt ρ t (ρ.1 13 t) false).isNone
  | 3 => ((rB ρ t)[ρ.1 13 t]?).isNone
  | 4 => (rNt ρ t (ρ.1 13 t) true).isNone
  | 5 => (rFr ρ t).isNone
  | 6 => (rFl ρ t).isNone
  | _ => false
def rOvS (ρ : ax_R) (t : Nat) : ax_R := if ρ.1 12 t = 3 then rSk ρ (rB ρ t)[ρ.1 13 t]? else ρ
theorem ok_isOver (hw : rf_ok ρ) {t : Nat} (ht : t < 60) : ax_Ok mX4_isOver yX4_isOver 5 0 0 [ax_r (80, 0), ax_i (nI t)] (fh c ρ) (ax_D (ax_i (ax_b (rOv ρ t))) (fh c (rOvS ρ t))) := by
  refine ax_Ok.of (by decide) rfl (fun q => by cases q) (Nat.le_of_ble_eq_true rfl) rfl ?_
  have h12 := rk_N hw 12 t
  have hnx := rk_N hw 13 t
  refine ax_aload_n dX4_isOver_0 rfl ?_
  refine rg_12 dX4_isOver_1 ?_
  refine ax_iload_n dX4_isOver_4 rfl ?_
  refine rl_12 dX4_isOver_5 (by omega) ?_
  by_cases hlo : ρ.1 12 t = 0 ∨ 6 < ρ.1 12 t
  · refine ax_tout 142 dX4_isOver_6 (by rw [nI_toInt h12]; omega) (by decide) ?_
    refine ax_iconst (ax_b false) dX4_isOver_142 (by decide) ?_
    refine ax_bret dX4_isOver_143 rfl ⟨Nat.le_refl _, Nat.le_refl _⟩ ?_ ?_
    · unfold rOv; split <;> first | omega | rfl
    · rw [rOvS, if_neg (by omega)]
  have hcases : ρ.1 12 t = 1 ∨ ρ.1 12 t = 2 ∨ ρ.1 12 t = 3 ∨ ρ.1 12 t = 4 ∨ ρ.1 12 t = 5 ∨ ρ.1 12 t = 6 := by omega
  rcases hcases with hp | hp | hp | hp | hp | hp
  · refine ax_tin 44 dX4_isOver_6 (by rw [hp]; decide) (by rw [hp]; decide) (by rw [hp]; rfl) (by decide) ?_
    refine ax_aload_n dX4_isOver_44 rfl ?_
    refine ax_iload_n dX4_isOver_45 rfl ?_
    refine ax_aload_n dX4_isOver_46 rfl ?_
    refine rg_13 dX4_isOver_47 ?_
    refine ax_iload_n dX4_isOver_50 rfl ?_
    refine rl_13 dX4_isOver_51 (by first | omega | exact rk_6 hw _ | exact rk_11 hw _ | exact rk_18 hw _ | exact rk_19 hw _ | exact rk_27 hw _ | exact rk_N hw _ _) ?_
    refine ax_iconst (ax_b true) dX4_isOver_52 (by decide) ?_
    refine ax_V3 cv_X4_173 dX4_isOver_53 fh_M rfl (ok_nth hw (by first | omega | exact rk_6 hw _ | exact rk_11 hw _ | exact rk_18 hw _ | exact rk_19 hw _ | exact rk_27 hw _ | exact rk_N hw _ _) (by first | omega | exact rk_6 hw _ | exact rk_11 hw _ | exact rk_18 hw _ | exact rk_19 hw _ | exact rk_27 hw _ | exact rk_N hw _ _)) (by decide) (Nat.le_refl _) (Nat.le_refl _) (Nat.le_of_ble_eq_true rfl) ?_
    refine ax_bipush (-9) dX4_isOver_56 (by decide) ?_
    refine ax_icmp_ne 65 dX4_isOver_58 (by decide) (fun c58 => ?_) (fun c58 => ?_)
    · rw [oI_n9 (fun j hj => by have := rNt_lt hw ht hj; omega)] at c58
      refine ax_iconst (ax_b false) dX4_isOver_65 (by decide) ?_
      refine ax_bret dX4_isOver_66 rfl ⟨(Nat.le_refl _), (Nat.le_refl _)⟩ ?_ ?_
      · simp only [rOv, hp]; first | exact ov1 c58 | exact ov2 c58 | exact ov3 c58 | exact ov4 c58
      · simp [rOvS, hp]
    · rw [oI_n9 (fun j hj => by have := rNt_lt hw ht hj; omega)] at c58
      refine ax_iconst (ax_b true) dX4_isOver_61 (by decide) ?_
      refine ax_goto 66 dX4_isOver_62 (by decide) ?_
      refine ax_bret dX4_isOver_66 rfl ⟨(Nat.le_refl _), (Nat.le_refl _)⟩ ?_ ?_
      · simp only [rOv, hp]; first | exact ov1 c58 | exact ov2 c58 | exact ov3 c58 | exact ov4 c58
      · simp [rOvS, hp]
  · refine ax_tin 67 dX4_isOver_6 (by rw [hp]; decide) (by rw [hp]; decide) (by rw [hp]; rfl) (by decide) ?_
    refine ax_aload_n dX4_isOver_67 rfl ?_
    refine ax_iload_n dX4_isOver_68 rfl ?_
    refine ax_aload_n dX4_isOver_69 rfl ?_
    refine rg_13 dX4_isOver_70 ?_
    refine ax_iload_n dX4_isOver_73 rfl ?_
    refine rl_13 dX4_isOver_74 (by first | omega | exact rk_6 hw _ | exact rk_11 hw _ | exact rk_18 hw _ | exact rk_19 hw _ | exact rk_27 hw _ | exact rk_N hw _ _) ?_
    refine ax_iconst (ax_b false) dX4_isOver_75 (by decide) ?_
    refine ax_V3 cv_X4_173 dX4_isOver_76 fh_M rfl (ok_nth hw (by first | omega | exact rk_6 hw _ | exact rk_11 hw _ | exact rk_18 hw _ | exact rk_19 hw _ | exact rk_27 hw _ | exact rk_N hw _ _) (by first | omega | exact rk_6 hw _ | exact rk_11 hw _ | exact rk_18 hw _ | exact rk_19 hw _ | exact rk_27 hw _ | exact rk_N hw _ _)) (by decide) (Nat.le_refl _) (Nat.le_refl _) (Nat.le_of_ble_eq_true rfl) ?_
    refine ax_bipush (-9) dX4_isOver_79 (by decide) ?_
    refine ax_icmp_ne 88 dX4_isOver_81 (by decide) (fun c81 => ?_) (fun c81 => ?_)
    · rw [oI_n9 (fun j hj => by have := rNt_lt hw ht hj; omega)] at c81
      refine ax_iconst (ax_b false) dX4_isOver_88 (by decide) ?_
      refine ax_bret dX4_isOver_89 rfl ⟨(Nat.le_refl _), (Nat.le_refl _)⟩ ?_ ?_
      · simp only [rOv, hp]; first | exact ov1 c81 | exact ov2 c81 | exact ov3 c81 | exact ov4 c81
      · simp [rOvS, hp]
    · rw [oI_n9 (fun j hj => by have := rNt_lt hw ht hj; omega)] at c81
      refine ax_iconst (ax_b true) dX4_isOver_84 (by decide) ?_
      refine ax_goto 89 dX4_isOver_85 (by decide) ?_
      refine ax_bret dX4_isOver_89 rfl ⟨(Nat.le_refl _), (Nat.le_refl _)⟩ ?_ ?_
      · simp only [rOv, hp]; first | exact ov1 c81 | exact ov2 c81 | exact ov3 c81 | exact ov4 c81
      · simp [rOvS, hp]
  · refine ax_tin 90 dX4_isOver_6 (by rw [hp]; decide) (by rw [hp]; decide) (by rw [hp]; rfl) (by decide) ?_
    refine ax_aload_n dX4_isOver_90 rfl ?_
    refine ax_iload_n dX4_isOver_91 rfl ?_
    refine ax_aload_n dX4_isOver_92 rfl ?_
    refine rg_13 dX4_isOver_93 ?_
    refine ax_iload_n dX4_isOver_96 rfl ?_
    refine rl_13 dX4_isOver_97 (by first | omega | exact rk_6 hw _ | exact rk_11 hw _ | exact rk_18 hw _ | exact rk_19 hw _ | exact rk_27 hw _ | exact rk_N hw _ _) ?_
    refine ax_V2 cv_X4_177 dX4_isOver_98 fh_M rfl (ok_seekBackup hw (by first | omega | exact rk_6 hw _ | exact rk_11 hw _ | exact rk_18 hw _ | exact rk_19 hw _ | exact rk_27 hw _ | exact rk_N hw _ _) (by first | omega | exact rk_6 hw _ | exact rk_11 hw _ | exact rk_18 hw _ | exact rk_19 hw _ | exact rk_27 hw _ | exact rk_N hw _ _)) (by decide) (Nat.le_refl _) (Nat.le_refl _) (Nat.le_of_ble_eq_true rfl) ?_
    refine ax_bne 108 dX4_isOver_101 (by decide) (fun c101 => ?_) (fun c101 => ?_)
    · refine ax_iconst (ax_b false) dX4_isOver_108 (by decide) ?_
      refine ax_bret dX4_isOver_109 rfl ⟨(Nat.le_refl _), (Nat.le_refl _)⟩ ?_ ?_
      · simp only [rOv, hp]; first | exact ov1 c101 | exact ov2 c101 | exact ov3 c101 | exact ov4 c101
      · simp [rOvS, hp]
    · refine ax_iconst (ax_b true) dX4_isOver_104 (by decide) ?_
      refine ax_goto 109 dX4_isOver_105 (by decide) ?_
      refine ax_bret dX4_isOver_109 rfl ⟨(Nat.le_refl _), (Nat.le_refl _)⟩ ?_ ?_
      · simp only [rOv, hp]; first | exact ov1 c101 | exact ov2 c101 | exact ov3 c101 | exact ov4 c101
      · simp [rOvS, hp]
  · refine ax_tin 44 dX4_isOver_6 (by rw [hp]; decide) (by rw [hp]; decide) (by rw [hp]; rfl) (by decide) ?_
    refine ax_aload_n dX4_isOver_44 rfl ?_
    refine ax_iload_n dX4_isOver_45 rfl ?_
    refine ax_aload_n dX4_isOver_46 rfl ?_
    refine rg_13 dX4_isOver_47 ?_
    refine ax_iload_n dX4_isOver_50 rfl ?_
    refine rl_13 dX4_isOver_51 (by first | omega | exact rk_6 hw _ | exact rk_11 hw _ | exact rk_18 hw _ | exact rk_19 hw _ | exact rk_27 hw _ | exact rk_N hw _ _) ?_
    refine ax_iconst (ax_b true) dX4_isOver_52 (by decide) ?_
    refine ax_V3 cv_X4_173 dX4_isOver_53 fh_M rfl (ok_nth hw (by first | omega | exact rk_6 hw _ | exact rk_11 hw _ | exact rk_18 hw _ | exact rk_19 hw _ | exact rk_27 hw _ | exact rk_N hw _ _) (by first | omega | exact rk_6 hw _ | exact rk_11 hw _ | exact rk_18 hw _ | exact rk_19 hw _ | exact rk_27 hw _ | exact rk_N hw _ _)) (by decide) (Nat.le_refl _) (Nat.le_refl _) (Nat.le_of_ble_eq_true rfl) ?_
    refine ax_bipush (-9) dX4_isOver_56 (by decide) ?_
    refine ax_icmp_ne 65 dX4_isOver_58 (by decide) (fun c58 => ?_) (fun c58 => ?_)
    · rw [oI_n9 (fun j hj => by have := rNt_lt hw ht hj; omega)] at c58
      refine ax_iconst (ax_b false) dX4_isOver_65 (by decide) ?_
      refine ax_bret dX4_isOver_66 rfl ⟨(Nat.le_refl _), (Nat.le_refl _)⟩ ?_ ?_
      · simp only [rOv, hp]; first | exact ov1 c58 | exact ov2 c58 | exact ov3 c58 | exact ov4 c58
      · simp [rOvS, hp]
    · rw [oI_n9 (fun j hj => by have := rNt_lt hw ht hj; omega)] at c58
      refine ax_iconst (ax_b true) dX4_isOver_61 (by decide) ?_
      refine ax_goto 66 dX4_isOver_62 (by decide) ?_
      refine ax_bret dX4_isOver_66 rfl ⟨(Nat.le_refl _), (Nat.le_refl _)⟩ ?_ ?_
      · simp only [rOv, hp]; first | exact ov1 c58 | exact ov2 c58 | exact ov3 c58 | exact ov4 c58
      · simp [rOvS, hp]
  · refine ax_tin 110 dX4_isOver_6 (by rw [hp]; decide) (by rw [hp]; decide) (by rw [hp]; rfl) (by decide) ?_
    refine ax_aload_n dX4_isOver_110 rfl ?_
    refine ax_iload_n dX4_isOver_111 rfl ?_
    refine ax_V1 cv_X4_180 dX4_isOver_112 fh_M rfl (ok_firstRecord hw (by first | omega | exact rk_6 hw _ | exact rk_11 hw _ | exact rk_18 hw _ | exact rk_19 hw _ | exact rk_27 hw _ | exact rk_N hw _ _)) (by decide) (Nat.le_refl _) (Nat.le_refl _) (Nat.le_of_ble_eq_true rfl) ?_
    refine ax_bipush (-9) dX4_isOver_115 (by decide) ?_
    refine ax_icmp_ne 124 dX4_isOver_117 (by decide) (fun c117 => ?_) (fun c117 => ?_)
    · rw [oI_n9 (fun j hj => by have := rFr_lt hw hj; omega)] at c117
      refine ax_iconst (ax_b false) dX4_isOver_124 (by decide) ?_
      refine ax_bret dX4_isOver_125 rfl ⟨(Nat.le_refl _), (Nat.le_refl _)⟩ ?_ ?_
      · simp only [rOv, hp]; first | exact ov1 c117 | exact ov2 c117 | exact ov3 c117 | exact ov4 c117
      · simp [rOvS, hp]
    · rw [oI_n9 (fun j hj => by have := rFr_lt hw hj; omega)] at c117
      refine ax_iconst (ax_b true) dX4_isOver_120 (by decide) ?_
      refine ax_goto 125 dX4_isOver_121 (by decide) ?_
      refine ax_bret dX4_isOver_125 rfl ⟨(Nat.le_refl _), (Nat.le_refl _)⟩ ?_ ?_
      · simp only [rOv, hp]; first | exact ov1 c117 | exact ov2 c117 | exact ov3 c117 | exact ov4 c117
      · simp [rOvS, hp]
  · refine ax_tin 126 dX4_isOver_6 (by rw [hp]; decide) (by rw [hp]; decide) (by rw [hp]; rfl) (by decide) ?_
    refine ax_aload_n dX4_isOver_126 rfl ?_
    refine ax_iload_n dX4_isOver_127 rfl ?_
    refine ax_V1 cv_X4_183 dX4_isOver_128 fh_M rfl (ok_firstLocked hw (by first | omega | exact rk_6 hw _ | exact rk_11 hw _ | exact rk_18 hw _ | exact rk_19 hw _ | exact rk_27 hw _ | exact rk_N hw _ _)) (by decide) (Nat.le_refl _) (Nat.le_refl _) (Nat.le_of_ble_eq_true rfl) ?_
    refine ax_bipush (-9) dX4_isOver_131 (by decide) ?_
    refine ax_icmp_ne 140 dX4_isOver_133 (by decide) (fun c133 => ?_) (fun c133 => ?_)
    · rw [oI_n9 (fun j hj => by have := rFl_lt hw ht hj; omega)] at c133
      refine ax_iconst (ax_b false) dX4_isOver_140 (by decide) ?_
      refine ax_bret dX4_isOver_141 rfl ⟨(Nat.le_refl _), (Nat.le_refl _)⟩ ?_ ?_
      · simp only [rOv, hp]; first | exact ov1 c133 | exact ov2 c133 | exact ov3 c133 | exact ov4 c133
      · simp [rOvS, hp]
    · rw [oI_n9 (fun j hj => by have := rFl_lt hw ht hj; omega)] at c133
      refine ax_iconst (ax_b true) dX4_isOver_136 (by decide) ?_
      refine ax_goto 141 dX4_isOver_137 (by decide) ?_
      refine ax_bret dX4_isOver_141 rfl ⟨(Nat.le_refl _), (Nat.le_refl _)⟩ ?_ ?_
      · simp only [rOv, hp]; first | exact ov1 c133 | exact ov2 c133 | exact ov3 c133 | exact ov4 c133
      · simp [rOvS, hp]
end REFM
