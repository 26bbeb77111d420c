theorem df_Jx4a65c : ∀ (ad : ax_N → Nat) (ty : Nat → FieldType), (∀ k, k < 3 → parseFieldDescriptor (TJx4a65c k).2.2.1 = some (ty k)) → ∀ j, j < 3 → defaultValue (ty j) = vp_V ([ax_i (nI 0), ax_z, ax_i (nI 0)].map (ax_v ad)) j := by
  intro ad ty h j hj
  have e : ty j = tyJx4a65c j := Option.some.inj ((h j hj).symm.trans (tyJx4a65c_ok j hj))
  rw [e]
  match j, hj with
  | 0, _ => rfl
  | 1, _ => rfl
  | 2, _ => rfl
theorem dk_Jx4a65c : ∀ v ∈ ([ax_i (nI 0), ax_z, ax_i (nI 0)] : List ax_V), ∀ h1 : ax_H, ax_ok h1 v := by
  intro v hv h1
  simp only [List.mem_cons, List.not_mem_nil, or_false] at hv
  rcases hv with rfl | rfl | rfl <;> trivial
theorem df_X0 : ∀ (ad : ax_N → Nat) (ty : Nat → FieldType), (∀ k, k < 8 → parseFieldDescriptor (TX0 k).2.2.1 = some (ty k)) → ∀ j, j < 8 → defaultValue (ty j) = vp_V ([ax_z, ax_i (nI 0), ax_i (nI 0), ax_i (nI 0), ax_i (nI 0), ax_i (nI 0), ax_i (nI 0), ax_i (nI 0)].map (ax_v ad)) j := by
  intro ad ty h j hj
  have e : ty j = tyX0 j := Option.some.inj ((h j hj).symm.trans (tyX0_ok j hj))
  rw [e]
  match j, hj with
  | 0, _ => rfl
  | 1, _ => rfl
  | 2, _ => rfl
  | 3, _ => rfl
  | 4, _ => rfl
  | 5, _ => rfl
  | 6, _ => rfl
  | 7, _ => rfl
theorem dk_X0 : ∀ v ∈ ([ax_z, ax_i (nI 0), ax_i (nI 0), ax_i (nI 0), ax_i (nI 0), ax_i (nI 0), ax_i (nI 0), ax_i (nI 0)] : List ax_V), ∀ h1 : ax_H, ax_ok h1 v := by
  intro v hv h1
  simp only [List.mem_cons, List.not_mem_nil, or_false] at hv
  rcases hv with rfl | rfl | rfl | rfl | rfl | rfl | rfl | rfl <;> trivial
theorem df_X1 : ∀ (ad : ax_N → Nat) (ty : Nat → FieldType), (∀ k, k < 7 → parseFieldDescriptor (TX1 k).2.2.1 = some (ty k)) → ∀ j, j < 7 → defaultValue (ty j) = vp_V ([ax_i (nI 0), ax_z, ax_i (nI 0), ax_i (nI 0), ax_z, ax_z, ax_z].map (ax_v ad)) j := by
  intro ad ty h j hj
  have e : ty j = tyX1 j := Option.some.inj ((h j hj).symm.trans (tyX1_ok j hj))
  rw [e]
  match j, hj with
  | 0, _ => rfl
  | 1, _ => rfl
  | 2, _ => rfl
  | 3, _ => rfl
  | 4, _ => rfl
  | 5, _ => rfl
  | 6, _ => rfl
theorem dk_X1 : ∀ v ∈ ([ax_i (nI 0), ax_z, ax_i (nI 0), ax_i (nI 0), ax_z, ax_z, ax_z] : List ax_V), ∀ h1 : ax_H, ax_ok h1 v := by
  intro v hv h1
  simp only [List.mem_cons, List.not_mem_nil, or_false] at hv
  rcases hv with rfl | rfl | rfl | rfl | rfl | rfl | rfl <;> trivial
theorem df_X2 : ∀ (ad : ax_N → Nat) (ty : Nat → FieldType), (∀ k, k < 7 → parseFieldDescriptor (TX2 k).2.2.1 = some (ty k)) → ∀ j, j < 7 → defaultValue (ty j) = vp_V ([ax_i (nI 0), ax_i (nI 0), ax_z, ax_i (nI 0), ax_i (nI 0), ax_i (nI 0), ax_i (nI 0)].map (ax_v ad)) j := by
  intro ad ty h j hj
  have e : ty j = tyX2 j := Option.some.inj ((h j hj).symm.trans (tyX2_ok j hj))
  rw [e]
  match j, hj with
  | 0, _ => rfl
  | 1, _ => rfl
  | 2, _ => rfl
  | 3, _ => rfl
  | 4, _ => rfl
  | 5, _ => rfl
  | 6, _ => rfl
theorem dk_X2 : ∀ v ∈ ([ax_i (nI 0), ax_i (nI 0), ax_z, ax_i (nI 0), ax_i (nI 0), ax_i (nI 0), ax_i (nI 0)] : List ax_V), ∀ h1 : ax_H, ax_ok h1 v := by
  intro v hv h1
  simp only [List.mem_cons, List.not_mem_nil, or_false] at hv
  rcases hv with rfl | rfl | rfl | rfl | rfl | rfl | rfl <;> trivial
theorem df_X3 : ∀ (ad : ax_N → Nat) (ty : Nat → FieldType), (∀ k, k < 7 → parseFieldDescriptor (TX3 k).2.2.1 = some (ty k)) → ∀ j, j < 7 → defaultValue (ty j) = vp_V ([ax_z, ax_z, ax_z, ax_z, ax_i (nI 0), ax_i (nI 0), ax_i (nI 0)].map (ax_v ad)) j := by
  intro ad ty h j hj
  have e : ty j = tyX3 j := Option.some.inj ((h j hj).symm.trans (tyX3_ok j hj))
  rw [e]
  match j, hj with
  | 0, _ => rfl
  | 1, _ => rfl
  | 2, _ => rfl
  | 3, _ => rfl
  | 4, _ => rfl
  | 5, _ => rfl
  | 6, _ => rfl
theorem dk_X3 : ∀ v ∈ ([ax_z, ax_z, ax_z, ax_z, ax_i (nI 0), ax_i (nI 0), ax_i (nI 0)] : List ax_V), ∀ h1 : ax_H, ax_ok h1 v := by
  intro v hv h1
  simp only [List.mem_cons, List.not_mem_nil, or_false] at hv
  rcases hv with rfl | rfl | rfl | rfl | rfl | rfl | rfl <;> trivial
theorem ca_R : ∀ U, ax_Ex U → va_Nw (.castable RX1 "java/lang/Object") U := fun _ h => h.2.2.2.2.1
theorem ca_T : ∀ U, ax_Ex U → va_Nw (.castable RX2 "java/lang/Object") U := fun _ h => h.2.2.2.2.2.1
theorem ca_I : ∀ U, ax_Ex U → va_Nw (.castable RX0 "java/lang/Object") U := fun _ h => h.2.2.2.2.2.2
section CLS5
variable {h : ax_H}
theorem ok_addA {U A w : ax_N} {n ci N : Nat} {g : Nat → ax_N} {fs : List ax_V} {C : String} {T : u_T} (hU : h U = lsC n (if n = 0 then ax_E else A)) (hA : h A = if 0 < n then elC n 10 g else none) (hn : n < 10) (hw : h w = some (ax_o ci fs)) (hc : vwCl[ci]? = some (C, T, N)) (hcast : ∀ U, ax_Ex U → va_Nw (.castable C "java/lang/Object") U) (hAE : A ≠ ax_E) (hAU : A ≠ U) (hwA : w ≠ A) (hwU : w ≠ U) :
    ax_Ok mJx4a65c_add_9ea2d yJx4a65c_add_9ea2d 7 1 73 [ax_r U, ax_r w] h (ax_D (ax_i (ax_b true)) (ax_up (ax_up h A (ax_aq 10 (fun j => if j < n + 1 ∧ j < 10 then some (if j = n then w else g j) else none))) U (ax_o 0 [ax_i (nI (n + 1)), ax_r A, ax_i (nI (n + 1))]))) := by
  by_cases h0 : n = 0
  · subst h0
    have := ok_addF (m := 0) hU hA hAE hAU hw hc hcast hwA hwU
    have e : (ax_uq (fun _ => none) 0 (some w)) = fun j => if j < 0 + 1 ∧ j < 10 then some (if j = 0 then w else g j) else none := by
      funext j
      by_cases q : j = 0
      · subst q; simp [ax_uq]
      · have : ¬ j < 1 := by omega
        simp [ax_uq, q]
    rw [e] at this
    exact this
  · rw [if_neg h0] at hU
    rw [if_pos (by omega)] at hA
    have := ok_add hU hA hn (by decide) hw hc hcast hwU
    have e : (ax_uq (fun j => if j < n ∧ j < 10 then some (g j) else none) n (some w)) = fun j => if j < n + 1 ∧ j < 10 then some (if j = n then w else g j) else none := by
      funext j
      by_cases q : j = n
      · subst q; simp [ax_uq, hn]
      · by_cases q2 : j < n
        · have : j < n + 1 := by omega
          simp [ax_uq, q, q2, this]
        · have : ¬ j < n + 1 := by omega
          simp [ax_uq, q, q2, this]
    rw [e] at this
    exact this
theorem lv_gr {n : Nat} (h0 : 0 < n) (hn : n < 60) (he : n = cpv (lvl n)) : ax_gr n ∧ lvl (n + 1) = lvl n + 1 ∧ n + n / 2 = cpv (lvl (n + 1)) ∧ ¬ lov (lvl (n + 1)) < n ∧ lvl (n + 1) < 6 := by
  have : ∀ n, n < 60 → 0 < n → n = cpv (lvl n) → (n = 10 ∨ n = 15 ∨ n = 22 ∨ n = 33 ∨ n = 49) := by decide +kernel
  rcases this n hn h0 he with rfl | rfl | rfl | rfl | rfl
  · exact ⟨Or.inl rfl, by decide, by decide, by decide, by decide⟩
  · exact ⟨Or.inr (Or.inl rfl), by decide, by decide, by decide, by decide⟩
  · exact ⟨Or.inr (Or.inr (Or.inl rfl)), by decide, by decide, by decide, by decide⟩
  · exact ⟨Or.inr (Or.inr (Or.inr (Or.inl rfl))), by decide, by decide, by decide, by decide⟩
  · exact ⟨Or.inr (Or.inr (Or.inr (Or.inr rfl))), by decide, by decide, by decide, by decide⟩
theorem lv_rm : ∀ n, n < 60 → 0 < n → n ≠ cpv (lvl n) → lvl (n + 1) = lvl n := by decide +kernel
theorem ok_addL {U w : ax_N} {A n ci N : Nat} {g : Nat → ax_N} {fs : List ax_V} {C : String} {T : u_T} (hU : h U = lsC n (if n = 0 then ax_E else (A, lvl n))) (hA : ∀ v, v < 6 → h (A, v) = if lov v < n then elC n (cpv v) g else none) (hn : n < 60) (hg : ∀ j, j < n → ∃ (ci : Nat) (fs : List ax_V) (C : String) (T : u_T) (N : Nat), h (g j) = some (ax_o ci fs) ∧ vwCl[ci]? = some (C, T, N) ∧ ∀ U, ax_Ex U → va_Nw (.castable C "java/lang/Object") U) (hw : h w = some (ax_o ci fs)) (hc : vwCl[ci]? = some (C, T, N)) (hcast : ∀ U, ax_Ex U → va_Nw (.castable C "java/lang/Object") U) (hAE : A ≠ 99) (hAU : A ≠ U.1) (hwA : w.1 ≠ A) (hwU : w ≠ U) :
    ax_Ok mJx4a65c_add_9ea2d yJx4a65c_add_9ea2d 7 1 73 [ax_r U, ax_r w] h (ax_D (ax_i (ax_b true)) (ax_up (ax_up h (A, lvl (n + 1)) (ax_aq (cpv (lvl (n + 1))) (fun j => if j < n + 1 ∧ j < cpv (lvl (n + 1)) then some (if j = n then w else g j) else none))) U (ax_o 0 [ax_i (nI (n + 1)), ax_r (A, lvl (n + 1)), ax_i (nI (n + 1))]))) := by
  have aE : ∀ v, (A, v) ≠ ax_E := fun v e => hAE (congrArg Prod.fst e)
  have aU : ∀ v, (A, v) ≠ U := fun v e => hAU (congrArg Prod.fst e)
  have wA : ∀ v, w ≠ (A, v) := fun v e => hwA (congrArg Prod.fst e)
  by_cases h0 : n = 0
  · subst h0
    have := ok_addF (m := 0) hU (hA 0 (by decide)) (aE 0) (aU 0) hw hc hcast (wA 0) hwU
    have e : (ax_uq (fun _ => none) 0 (some w)) = fun j => if j < 0 + 1 ∧ j < 10 then some (if j = 0 then w else g j) else none := by
      funext j
      by_cases q : j = 0
      · subst q; simp [ax_uq]
      · have : ¬ j < 1 := by omega
        simp [ax_uq, q]
    rw [e] at this
    exact this
  · rw [if_neg h0] at hU
    obtain ⟨l1, l2, l3, l4⟩ := lv_ok (n := n) (by omega) (by omega)
    have hA1 := hA _ l1
    rw [if_pos l2] at hA1
    by_cases hf : n = cpv (lvl n)
    · obtain ⟨g1, g2, g3, g4, g5⟩ := lv_gr (by omega) hn hf
      have g6 : 10 ≤ n := (ax_gr1 g1).2.2.2.2.2.2.1
      have hA2 := hA _ g5
      rw [if_neg g4] at hA2
      have hA3 : h (A, lvl n) = some (ax_aq n (fun j => if j < n ∧ j < cpv (lvl n) then some (g j) else none)) := by
        rw [hA1]
        show some (ax_aq (cpv (lvl n)) _) = _
        rw [← hf]
      have hel : ax_el h (fun j => if j < n ∧ j < cpv (lvl n) then some (g j) else none) := by
        intro i v hv
        dsimp only at hv
        split at hv
        · rename_i q
          cases hv
          exact hg i q.1
        · cases hv
      have := ok_addG hU hA3 g1 hel hA2 (aE _) hw hc hcast hwU
      have e : (ax_uq (fun j => if j < n then (if j < n ∧ j < cpv (lvl n) then some (g j) else none) else none) n (some w)) = fun j => if j < n + 1 ∧ j < cpv (lvl (n + 1)) then some (if j = n then w else g j) else none := by
        funext j
        by_cases q : j = n
        · subst q
          have : j < cpv (lvl (j + 1)) := by omega
          simp [ax_uq, this]
        · by_cases q2 : j < n
          · have q3 : j < n + 1 := by omega
            have q4 : j < cpv (lvl n) := by omega
            have q5 : j < cpv (lvl (n + 1)) := by omega
            simp [ax_uq, q, q2, q3, q4, q5]
          · have : ¬ j < n + 1 := by omega
            simp [ax_uq, q, q2, this]
      rw [e, g3] at this
      exact this
    · have l5 := lv_rm n hn (by omega) hf
      rw [l5]
      have := ok_add hU hA1 (by omega) (by omega) hw hc hcast hwU
      have e : (ax_uq (fun j => if j < n ∧ j < cpv (lvl n) then some (g j) else none) n (some w)) = fun j => if j < n + 1 ∧ j < cpv (lvl n) then some (if j = n then w else g j) else none := by
        funext j
        by_cases q : j = n
        · subst q
          have : j < cpv (lvl j) := by omega
          simp [ax_uq, this]
        · by_cases q2 : j < n
          · have q3 : j < n + 1 := by omega
            have q4 : j < cpv (lvl n) := by omega
            simp [ax_uq, q, q2, q3, q4]
          · have : ¬ j < n + 1 := by omega
            simp [ax_uq, q, q2, this]
      rw [e] at this
      exact this
theorem ok_iinit {u r : ax_N} {v0 v1 v2 v3 v4 v5 v6 v7 : ax_V} {a b c : Int32} (hu : h u = some (ax_o 1 [v0, v1, v2, v3, v4, v5, v6, v7])) : ax_Ok mX0_init yX0_init 1 0 0 [ax_r u, ax_r r, ax_i a, ax_i b, ax_i c] h (ax_DV (ax_up h u (ax_o 1 [ax_r r, ax_i a, ax_i b, ax_i c, ax_i (ax_b false), ax_i (-9), ax_i (nI 0), ax_i (nI 0)]))) := by
  refine ax_Ok.of (by decide) rfl (fun _ => rfl) (Nat.le_of_ble_eq_true rfl) rfl ?_
  refine ax_aload_n dX0_init_0 rfl ?_
  refine ax_oinit dX0_init_1 ml_X0_3 oi_w2 oi_w3 (by decide) (Nat.le_of_ble_eq_true rfl) ?_
  refine ax_aload_n dX0_init_4 rfl ?_
  refine ax_iconst (ax_b false) dX0_init_5 (by decide) ?_
  refine ax_put (ci := 1) (k := 4) (T := TX0) (ty := .boolean) dX0_init_6 hu rfl (by decide) (Nat.le_of_ble_eq_true rfl) fl_X0_9 rfl (by decide +kernel) (fun _ => rfl) (fun _ => rfl) rfl ?_
  refine ax_aload_n dX0_init_9 rfl ?_
  refine ax_bipush (-9) dX0_init_10 (by decide) ?_
  refine ax_put (ci := 1) (k := 5) (T := TX0) (ty := .int) dX0_init_12 ax_up_s rfl (by decide) (Nat.le_of_ble_eq_true rfl) fl_X0_15 rfl (by decide +kernel) (fun _ => rfl) (fun _ => rfl) ax_up_up ?_
  refine ax_aload_n dX0_init_15 rfl ?_
  refine ax_iconst (nI 0) dX0_init_16 (by decide) ?_
  refine ax_put (ci := 1) (k := 6) (T := TX0) (ty := .int) dX0_init_17 ax_up_s rfl (by decide) (Nat.le_of_ble_eq_true rfl) fl_X0_19 rfl (by decide +kernel) (fun _ => rfl) (fun _ => rfl) ax_up_up ?_
  refine ax_aload_n dX0_init_20 rfl ?_
  refine ax_iconst (nI 0) dX0_init_21 (by decide) ?_
  refine ax_put (ci := 1) (k := 7) (T := TX0) (ty := .int) dX0_init_22 ax_up_s rfl (by decide) (Nat.le_of_ble_eq_true rfl) fl_X0_22 rfl (by decide +kernel) (fun _ => rfl) (fun _ => rfl) ax_up_up ?_
  refine ax_aload_n dX0_init_25 rfl ?_
  refine ax_aload_n dX0_init_26 rfl ?_
  refine ax_putF (ci := 1) (k := 0) (T := TX0) (ty := .object "LockLookMemory$Region") dX0_init_27 ax_up_s rfl (by decide) (Nat.le_of_ble_eq_true rfl) fl_X0_25 rfl rfl rfl (by decide +kernel) (fun _ => rfl) (fun _ => rfl) ax_up_up ?_
  refine ax_aload_n dX0_init_30 rfl ?_
  refine ax_iload_n dX0_init_31 rfl ?_
  refine ax_putF (ci := 1) (k := 1) (T := TX0) (ty := .int) dX0_init_32 ax_up_s rfl (by decide) (Nat.le_of_ble_eq_true rfl) fl_X0_29 rfl rfl rfl (by decide +kernel) (fun _ => rfl) (fun _ => rfl) ax_up_up ?_
  refine ax_aload_n dX0_init_35 rfl ?_
  refine ax_iload_n dX0_init_36 rfl ?_
  refine ax_putF (ci := 1) (k := 2) (T := TX0) (ty := .int) dX0_init_37 ax_up_s rfl (by decide) (Nat.le_of_ble_eq_true rfl) fl_X0_32 rfl rfl rfl (by decide +kernel) (fun _ => rfl) (fun _ => rfl) ax_up_up ?_
  refine ax_aload_n dX0_init_40 rfl ?_
  refine ax_iload dX0_init_41 rfl ?_
  refine ax_putF (ci := 1) (k := 3) (T := TX0) (ty := .int) dX0_init_43 ax_up_s rfl (by decide) (Nat.le_of_ble_eq_true rfl) fl_X0_35 rfl rfl rfl (by decide +kernel) (fun _ => rfl) (fun _ => rfl) ax_up_up ?_
  refine ax_vretD dX0_init_46 rfl ⟨(Nat.le_refl _), (Nat.le_refl _)⟩ ?_
  rfl
theorem ok_tinit {u l : ax_N} {v0 v1 v2 v3 v4 v5 v6 : ax_V} {a b : Int32} (hu : h u = some (ax_o 3 [v0, v1, v2, v3, v4, v5, v6])) (hl : h l = none) (hlE : l ≠ ax_E) (hul : u ≠ l) : ax_Ok mX2_init yX2_init 4 1 3 [ax_r u, ax_i a, ax_i b] h (ax_DV (ax_up (ax_up h l (ax_o 0 [ax_i (nI 0), ax_r ax_E, ax_i (nI 0)])) u (ax_o 3 [ax_i a, ax_i b, ax_r l, ax_i (nI 0), ax_i (nI 0), ax_i (nI 0), ax_i (ax_b false)]))) := by
  refine ax_Ok.of (by decide) rfl (fun _ => rfl) (Nat.le_of_ble_eq_true rfl) rfl ?_
  refine ax_aload_n dX2_init_0 rfl ?_
  refine ax_oinit dX2_init_1 ml_X2_3 oi_w2 oi_w3 (by decide) (Nat.le_of_ble_eq_true rfl) ?_
  refine ax_aload_n dX2_init_4 rfl ?_
  refine ax_new l dX2_init_5 (ci := 0) (fs := [ax_i (nI 0), ax_z, ax_i (nI 0)]) rfl cl_X2_9 is_Jx4a65c in_Jx4a65c df_Jx4a65c dk_Jx4a65c hl hlE (by decide) (by decide) ?_
  refine ax_dup dX2_init_8 rfl ?_
  refine ax_I0 ci_X2_11 dX2_init_9 (ok_linit ax_up_s) (by decide) (Nat.le_refl _) (Nat.le_refl _) (Nat.le_of_ble_eq_true rfl) ?_
  refine ax_hq ax_up_up ?_
  refine ax_putF (ci := 3) (k := 2) (T := TX2) (ty := .object "java/util/ArrayList") dX2_init_12 (by rw [ax_up_n hul]; exact hu) rfl (by decide) (Nat.le_of_ble_eq_true rfl) fl_X2_12 rfl rfl rfl (by decide +kernel) (fun _ => rfl) (fun _ => rfl) rfl ?_
  refine ax_aload_n dX2_init_15 rfl ?_
  refine ax_iconst (nI 0) dX2_init_16 (by decide) ?_
  refine ax_put (ci := 3) (k := 3) (T := TX2) (ty := .int) dX2_init_17 ax_up_s rfl (by decide) (Nat.le_of_ble_eq_true rfl) fl_X2_18 rfl (by decide +kernel) (fun _ => rfl) (fun _ => rfl) ax_up_up ?_
  refine ax_aload_n dX2_init_20 rfl ?_
  refine ax_iconst (nI 0) dX2_init_21 (by decide) ?_
  refine ax_put (ci := 3) (k := 4) (T := TX2) (ty := .int) dX2_init_22 ax_up_s rfl (by decide) (Nat.le_of_ble_eq_true rfl) fl_X2_22 rfl (by decide +kernel) (fun _ => rfl) (fun _ => rfl) ax_up_up ?_
  refine ax_aload_n dX2_init_25 rfl ?_
  refine ax_iconst (nI 0) dX2_init_26 (by decide) ?_
  refine ax_put (ci := 3) (k := 5) (T := TX2) (ty := .int) dX2_init_27 ax_up_s rfl (by decide) (Nat.le_of_ble_eq_true rfl) fl_X2_25 rfl (by decide +kernel) (fun _ => rfl) (fun _ => rfl) ax_up_up ?_
  refine ax_aload_n dX2_init_30 rfl ?_
  refine ax_iconst (ax_b false) dX2_init_31 (by decide) ?_
  refine ax_put (ci := 3) (k := 6) (T := TX2) (ty := .boolean) dX2_init_32 ax_up_s rfl (by decide) (Nat.le_of_ble_eq_true rfl) fl_X2_28 rfl (by decide +kernel) (fun _ => rfl) (fun _ => rfl) ax_up_up ?_
  refine ax_aload_n dX2_init_35 rfl ?_
  refine ax_iload_n dX2_init_36 rfl ?_
  refine ax_putF (ci := 3) (k := 0) (T := TX2) (ty := .int) dX2_init_37 ax_up_s rfl (by decide) (Nat.le_of_ble_eq_true rfl) fl_X2_32 rfl rfl rfl (by decide +kernel) (fun _ => rfl) (fun _ => rfl) ax_up_up ?_
  refine ax_aload_n dX2_init_40 rfl ?_
  refine ax_iload_n dX2_init_41 rfl ?_
  refine ax_putF (ci := 3) (k := 1) (T := TX2) (ty := .int) dX2_init_42 ax_up_s rfl (by decide) (Nat.le_of_ble_eq_true rfl) fl_X2_35 rfl rfl rfl (by decide +kernel) (fun _ => rfl) (fun _ => rfl) ax_up_up ?_
  refine ax_vretD dX2_init_45 rfl ⟨(Nat.le_refl _), (Nat.le_refl _)⟩ ?_
  rfl
theorem ax_hs {Y : ax_M} {d mc ms : Nat} {Fi : Option ax_V → ax_H → Prop} {pc : Nat} {L : List (Option ax_V)} {S S2 : List ax_V} {h : ax_H} {uc us : Nat} (e : S = S2) (k : ax_Z Y d mc ms Fi pc L S2 h uc us) : ax_Z Y d mc ms Fi pc L S h uc us := by rw [e]; exact k
theorem ok_addCopy {u a : ax_N} {c m : Nat} {f : Nat → Int32} {P : Nat → Bool} {v0 v4 v5 v6 : ax_V} (hu : h u = some (ax_o 2 [v0, ax_r a, ax_i (nI c), ax_i (nI (mk P)), v4, v5, v6])) (ha : h a = some (ax_ai 6 f)) (hc : c < 6) (hm : m < 6) : ax_Ok mX1_addCopy yX1_addCopy 2 0 0 [ax_r u, ax_i (nI m)] h (ax_DV (ax_up (ax_up h a (ax_ai 6 (upd f c (nI m)))) u (ax_o 2 [v0, ax_r a, ax_i (nI (c + 1)), ax_i (nI (mk (fun x => P x || decide (x = m)))), v4, v5, v6]))) := by
  refine ax_Ok.of (by decide) rfl (fun q => by cases q) (Nat.le_of_ble_eq_true rfl) rfl ?_
  have hua : u ≠ a := fun e => by rw [e, ha] at hu; cases hu
  refine ax_aload_n dX1_addCopy_0 rfl ?_
  refine ax_get (ci := 2) (k := 2) (T := TX1) dX1_addCopy_1 hu rfl (by decide) fl_X1_15 rfl ?_
  refine ax_bipush (nI 6) dX1_addCopy_4 (by decide) ?_
  refine ax_nge 42 dX1_addCopy_6 (by decide) (by omega) (by omega) (fun c6 => absurd c6 (by omega)) (fun c6 => ?_)
  refine ax_aload_n dX1_addCopy_9 rfl ?_
  refine ax_get (ci := 2) (k := 1) (T := TX1) dX1_addCopy_10 hu rfl (by decide) fl_X1_9 rfl ?_
  refine ax_aload_n dX1_addCopy_13 rfl ?_
  refine ax_get (ci := 2) (k := 2) (T := TX1) dX1_addCopy_14 hu rfl (by decide) fl_X1_15 rfl ?_
  refine ax_iload_n dX1_addCopy_17 rfl ?_
  refine ax_iast dX1_addCopy_18 ha (vp_in_nI hc (by decide)) rfl ?_
  rw [nI_clamp (by omega)]
  have hu2 : ax_up h a (ax_ai 6 (upd f c (nI m))) u = some (ax_o 2 [v0, ax_r a, ax_i (nI c), ax_i (nI (mk P)), v4, v5, v6]) := by rw [ax_up_n hua]; exact hu
  refine ax_aload_n dX1_addCopy_19 rfl ?_
  refine ax_dup dX1_addCopy_20 rfl ?_
  refine ax_get (ci := 2) (k := 2) (T := TX1) dX1_addCopy_21 hu2 rfl (by decide) fl_X1_15 rfl ?_
  refine ax_iconst (nI 1) dX1_addCopy_24 (by decide) ?_
  refine ax_iaddn dX1_addCopy_25 ?_
  refine ax_put (ci := 2) (k := 2) (T := TX1) (ty := .int) dX1_addCopy_26 hu2 rfl (by decide) (Nat.le_of_ble_eq_true rfl) fl_X1_15 rfl (by decide +kernel) (fun _ => rfl) (fun _ => rfl) rfl ?_
  refine ax_aload_n dX1_addCopy_29 rfl ?_
  refine ax_dup dX1_addCopy_30 rfl ?_
  refine ax_get (ci := 2) (k := 3) (T := TX1) dX1_addCopy_31 ax_up_s rfl (by decide) fl_X1_19 rfl ?_
  refine ax_iload_n dX1_addCopy_34 rfl ?_
  refine ax_callSN (n := 1) (S := [_, _]) (As := [ax_i (nI m)]) (host := "LockLookMemory") (fun U q => q.2.2.2.1) sm_X3_bit in_X3 cd_X3_bit ⟨by decide +kernel, by decide +kernel, by decide +kernel⟩ (by decide) dX1_addCopy_35 rfl (ok_cbit hm) (by decide) (Nat.le_refl _) (Nat.le_refl _) (Nat.le_of_ble_eq_true rfl) (fun r1 h1 hF _ => ?_)
  obtain ⟨rfl, rfl⟩ := hF
  refine ax_hs rfl ?_
  refine ax_ior (nI (mk (fun x => P x || decide (x = m)))) dX1_addCopy_38 (k_or _ _) ?_
  refine ax_put (ci := 2) (k := 3) (T := TX1) (ty := .int) dX1_addCopy_39 ax_up_s rfl (by decide) (Nat.le_of_ble_eq_true rfl) fl_X1_19 rfl (by decide +kernel) (fun _ => rfl) (fun _ => rfl) ax_up_up ?_
  refine ax_vretD dX1_addCopy_42 rfl ⟨(Nat.le_refl _), (Nat.le_refl _)⟩ ?_
  rfl
def lk9 (k : Nat) : Nat → Int32 := fun j => if j < k then -9 else 0
theorem lk9_s {k : Nat} : upd (lk9 k) k (-9) = lk9 (k + 1) := by
  funext j
  by_cases e : j = k
  · subst e; simp [upd, lk9]
  · have : j < k + 1 ↔ j < k := by omega
    simp [upd, lk9, e, this]
theorem lp_rinit {u a4 a5 a6 a7 : ax_N} {a : Int32} (n7u : a7 ≠ u) : ∀ (m : Nat) (k : Nat), k + m = 8 → ax_Z mX1_init 1 4 110 (ax_DV (ax_up (ax_up (ax_up (ax_up (ax_up h a4 (ax_ai 6 (fun _ => 0))) a5 (ax_ai 48 (fun _ => 0))) a6 (ax_ai 48 (fun _ => 0))) a7 (ax_ai 8 (lk9 8))) u (ax_o 2 [ax_i a, ax_r a4, ax_i (nI 0), ax_i (nI 0), ax_r a5, ax_r a6, ax_r a7]))) 53 [some (ax_r u), some (ax_i a), some (ax_i (nI k))] [] (ax_up (ax_up (ax_up (ax_up (ax_up h a4 (ax_ai 6 (fun _ => 0))) a5 (ax_ai 48 (fun _ => 0))) a6 (ax_ai 48 (fun _ => 0))) a7 (ax_ai 8 (lk9 k))) u (ax_o 2 [ax_i a, ax_r a4, ax_i (nI 0), ax_i (nI 0), ax_r a5, ax_r a6, ax_r a7])) 4 110 := by
  intro m
  induction m with
  | zero =>
    intro k hk
    refine ax_iload_n dX1_init_53 rfl ?_
    refine ax_bipush (nI 8) dX1_init_54 (by decide) ?_
    refine ax_nge 73 dX1_init_56 (by decide) (by omega) (by omega) (fun c56 => ?_) (fun c56 => absurd c56 (by omega))
    refine ax_vretD dX1_init_73 rfl ⟨(Nat.le_refl _), (Nat.le_refl _)⟩ ?_
    have e : k = 8 := by omega
    subst e; rfl
  | succ m ih =>
    intro k hk
    refine ax_iload_n dX1_init_53 rfl ?_
    refine ax_bipush (nI 8) dX1_init_54 (by decide) ?_
    refine ax_nge 73 dX1_init_56 (by decide) (by omega) (by omega) (fun c56 => absurd c56 (by omega)) (fun c56 => ?_)
    refine ax_aload_n dX1_init_59 rfl ?_
    refine ax_get (ci := 2) (k := 6) (T := TX1) dX1_init_60 ax_up_s rfl (by decide) fl_X1_28 rfl ?_
    refine ax_iload_n dX1_init_63 rfl ?_
    refine ax_bipush (-9) dX1_init_64 (by decide) ?_
    refine ax_iast dX1_init_66 (by rw [ax_up_n n7u]; exact ax_up_s) (vp_in_nI (by omega) (by decide)) (h1 := (ax_up (ax_up (ax_up (ax_up (ax_up h a4 (ax_ai 6 (fun _ => 0))) a5 (ax_ai 48 (fun _ => 0))) a6 (ax_ai 48 (fun _ => 0))) a7 (ax_ai 8 (lk9 (k + 1)))) u (ax_o 2 [ax_i a, ax_r a4, ax_i (nI 0), ax_i (nI 0), ax_r a5, ax_r a6, ax_r a7]))) (by rw [nI_clamp (by omega), lk9_s, ax_up_cm (Ne.symm n7u), ax_up_up]) ?_
    refine ax_iincn (n := 1) dX1_init_67 rfl (by decide) rfl ?_
    refine ax_goto 53 dX1_init_70 (by decide) ?_
    exact ih (k + 1) (by omega)
theorem ok_rinit {u a4 a5 a6 a7 : ax_N} {a : Int32} {v0 v1 v2 v3 v4 v5 v6 : ax_V} (hu : h u = some (ax_o 2 [v0, v1, v2, v3, v4, v5, v6])) (h4 : h a4 = none) (h5 : h a5 = none) (h6 : h a6 = none) (h7 : h a7 = none) (ha4E : a4 ≠ ax_E) (ha5E : a5 ≠ ax_E) (ha6E : a6 ≠ ax_E) (ha7E : a7 ≠ ax_E) (n4u : a4 ≠ u) (n5u : a5 ≠ u) (n6u : a6 ≠ u) (n7u : a7 ≠ u) (n54 : a5 ≠ a4) (n64 : a6 ≠ a4) (n65 : a6 ≠ a5) (n74 : a7 ≠ a4) (n75 : a7 ≠ a5) (n76 : a7 ≠ a6) : ax_Ok mX1_init yX1_init 1 4 110 [ax_r u, ax_i a] h (ax_DV (ax_up (ax_up (ax_up (ax_up (ax_up h a4 (ax_ai 6 (fun _ => 0))) a5 (ax_ai 48 (fun _ => 0))) a6 (ax_ai 48 (fun _ => 0))) a7 (ax_ai 8 (lk9 8))) u (ax_o 2 [ax_i a, ax_r a4, ax_i (nI 0), ax_i (nI 0), ax_r a5, ax_r a6, ax_r a7]))) := by
  refine ax_Ok.of (by decide) rfl (fun _ => rfl) (Nat.le_of_ble_eq_true rfl) rfl ?_
  refine ax_aload_n dX1_init_0 rfl ?_
  refine ax_oinit dX1_init_1 ml_X1_3 oi_w2 oi_w3 (by decide) (Nat.le_of_ble_eq_true rfl) ?_
  refine ax_aload_n dX1_init_4 rfl ?_
  refine ax_bipush (nI 6) dX1_init_5 (by decide) ?_
  refine ax_newi a4 6 dX1_init_7 ac_i (by decide) (by decide) (by decide) h4 ha4E (by decide) (by decide) ?_
  refine ax_putF (ci := 2) (k := 1) (T := TX1) (ty := .array .int) dX1_init_9 (by rw [ax_up_n (Ne.symm n4u)]; exact hu) rfl (by decide) (Nat.le_of_ble_eq_true rfl) fl_X1_9 rfl rfl rfl (by decide +kernel) (fun _ => rfl) (fun _ => rfl) rfl ?_
  refine ax_aload_n dX1_init_12 rfl ?_
  refine ax_iconst (nI 0) dX1_init_13 (by decide) ?_
  refine ax_put (ci := 2) (k := 2) (T := TX1) (ty := .int) dX1_init_14 ax_up_s rfl (by decide) (Nat.le_of_ble_eq_true rfl) fl_X1_15 rfl (by decide +kernel) (fun _ => rfl) (fun _ => rfl) ax_up_up ?_
  refine ax_aload_n dX1_init_17 rfl ?_
  refine ax_iconst (nI 0) dX1_init_18 (by decide) ?_
  refine ax_put (ci := 2) (k := 3) (T := TX1) (ty := .int) dX1_init_19 ax_up_s rfl (by decide) (Nat.le_of_ble_eq_true rfl) fl_X1_19 rfl (by decide +kernel) (fun _ => rfl) (fun _ => rfl) ax_up_up ?_
  refine ax_aload_n dX1_init_22 rfl ?_
  refine ax_bipush (nI 48) dX1_init_23 (by decide) ?_
  refine ax_newi a5 48 dX1_init_25 ac_i (by decide) (by decide) (by decide) (by rw [ax_up_n n5u, ax_up_n n54]; exact h5) ha5E (by decide) (by decide) ?_
  refine ax_putF (ci := 2) (k := 4) (T := TX1) (ty := .array .int) dX1_init_27 (by rw [ax_up_n (Ne.symm n5u)]; exact ax_up_s) rfl (by decide) (Nat.le_of_ble_eq_true rfl) fl_X1_22 rfl rfl rfl (by decide +kernel) (fun _ => rfl) (fun _ => rfl) (by rw [ax_up_cm (Ne.symm n5u), ax_up_up]) ?_
  refine ax_aload_n dX1_init_30 rfl ?_
  refine ax_bipush (nI 48) dX1_init_31 (by decide) ?_
  refine ax_newi a6 48 dX1_init_33 ac_i (by decide) (by decide) (by decide) (by rw [ax_up_n n6u, ax_up_n n65, ax_up_n n64]; exact h6) ha6E (by decide) (by decide) ?_
  refine ax_putF (ci := 2) (k := 5) (T := TX1) (ty := .array .int) dX1_init_35 (by rw [ax_up_n (Ne.symm n6u)]; exact ax_up_s) rfl (by decide) (Nat.le_of_ble_eq_true rfl) fl_X1_25 rfl rfl rfl (by decide +kernel) (fun _ => rfl) (fun _ => rfl) (by rw [ax_up_cm (Ne.symm n6u), ax_up_up]) ?_
  refine ax_aload_n dX1_init_38 rfl ?_
  refine ax_bipush (nI 8) dX1_init_39 (by decide) ?_
  refine ax_newi a7 8 dX1_init_41 ac_i (by decide) (by decide) (by decide) (by rw [ax_up_n n7u, ax_up_n n76, ax_up_n n75, ax_up_n n74]; exact h7) ha7E (by decide) (by decide) ?_
  refine ax_putF (ci := 2) (k := 6) (T := TX1) (ty := .array .int) dX1_init_43 (by rw [ax_up_n (Ne.symm n7u)]; exact ax_up_s) rfl (by decide) (Nat.le_of_ble_eq_true rfl) fl_X1_28 rfl rfl rfl (by decide +kernel) (fun _ => rfl) (fun _ => rfl) (by rw [ax_up_cm (Ne.symm n7u), ax_up_up]) ?_
  refine ax_aload_n dX1_init_46 rfl ?_
  refine ax_iload_n dX1_init_47 rfl ?_
  refine ax_putF (ci := 2) (k := 0) (T := TX1) (ty := .int) dX1_init_48 ax_up_s rfl (by decide) (Nat.le_of_ble_eq_true rfl) fl_X1_31 rfl rfl rfl (by decide +kernel) (fun _ => rfl) (fun _ => rfl) ax_up_up ?_
  refine ax_iconst (nI 0) dX1_init_51 (by decide) ?_
  refine ax_istore_n dX1_init_52 rfl (by decide) ?_
  refine ax_hq (h2 := (ax_up (ax_up (ax_up (ax_up (ax_up h a4 (ax_ai 6 (fun _ => 0))) a5 (ax_ai 48 (fun _ => 0))) a6 (ax_ai 48 (fun _ => 0))) a7 (ax_ai 8 (lk9 0))) u (ax_o 2 [ax_i a, ax_r a4, ax_i (nI 0), ax_i (nI 0), ax_r a5, ax_r a6, ax_r a7]))) rfl ?_
  exact lp_rinit n7u 8 0 rfl
end CLS5
