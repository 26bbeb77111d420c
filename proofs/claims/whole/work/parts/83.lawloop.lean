section LWL
variable {p : Program} {l : Launch} {e : Env} {s : State} {m : MethodId} {below : List Frame} {meth : Method} {c : Code} {G : va_G} {cs : ax_K} {ad0 : ax_N → Nat} {b : Nat} {Ln : Nat} {xs : Nat → Int32}
/-- the law's loop -/
theorem lo_loop (X : ax_X mL_law p s m #[Value.ref b] meth c G cs (fun q => s.heap.size ≤ q) (ad0 ax_E)) (hX : va_X b Ln xs s s.heap) (hbl : b < s.heap.size) (hLn : Ln ≤ 2560) : ∀ (f k : Nat) (κ ρ : ax_R), Ln < 5 * (k + f) + 5 → 5 * k ≤ Ln → Iv κ ρ (100 * k) (fun _ => True) → lz p l e s m below meth c G cs ad0 b 18 (lwL (5 * k)) [] (fh (ch κ) ρ) (100 + 100 * k) (8000 + 7300 * k) := by
  intro f
  induction f with
  | zero =>
    intro k κ ρ hf hk h
    refine lz_iload_n X dL_law_18 rfl ?_
    refine lz_len X hX hbl dL_law_19 dL_law_20 ?_
    refine lz_iconst X (nI 5) dL_law_21 (by decide) ?_
    refine lz_isub X _ dL_law_22 rfl ?_
    refine lz_icmp_gt X 707 dL_law_23 (by decide) (fun _ => ?_) (fun z => ?_)
    · refine lz_iconst X 1 dL_law_707 (by decide) ?_
      exact lz_ret X dL_law_708 (by omega) (by omega)
    · exact absurd (Int32.lt_iff_toInt_lt.mpr (by rw [pk_sub_toInt (by omega) (by decide), nI_toInt (by omega)]; omega)) z
  | succ f ih =>
    intro k κ ρ hf hk h
    refine lz_iload_n X dL_law_18 rfl ?_
    refine lz_len X hX hbl dL_law_19 dL_law_20 ?_
    refine lz_iconst X (nI 5) dL_law_21 (by decide) ?_
    refine lz_isub X _ dL_law_22 rfl ?_
    refine lz_icmp_gt X 707 dL_law_23 (by decide) (fun _ => ?_) (fun z => ?_)
    · refine lz_iconst X 1 dL_law_707 (by decide) ?_
      exact lz_ret X dL_law_708 (by omega) (by omega)
    · have hn : 5 * k + 5 ≤ Ln := by
        have z2 : ¬ (nI Ln - nI 5).toInt < (nI (5 * k)).toInt := fun q => z (Int32.lt_iff_toInt_lt.mpr q)
        rw [pk_sub_toInt (by omega) (by decide), nI_toInt (by omega)] at z2
        omega
      refine lo_all X hX hbl h (by omega) hn hLn (by omega) (by omega) (fun κ2 ρ2 h2 => ?_)
      refine lz_iinc X (nI (5 * (k + 1))) dL_law_701 rfl (by decide) (by decide) rfl ?_ ?_
      · rw [show Int32.ofInt 5 = nI 5 by decide, nI_add]
        rfl
      refine lz_goto X 18 dL_law_704 (by decide) ?_
      exact lz_widen (by omega) (by omega) (ih (k + 1) κ2 ρ2 (by omega) (by omega) (iv_mono h2 (by omega)))
theorem df_X4 : ∀ (ad : ax_N → Nat) (ty : Nat → FieldType), (∀ k, k < 33 → parseFieldDescriptor (TX4 k).2.2.1 = some (ty k)) → ∀ j, j < 33 → defaultValue (ty j) = vp_V (rF0.map (ax_v ad)) j := by
  intro ad ty h j hj
  have e0 : ty j = tyX4 j := Option.some.inj ((h j hj).symm.trans (tyX4_ok j hj))
  rw [e0]
  have e1 : ∀ j, j < 33 → defaultValue (tyX4 j) = vp_V (rF0.map (ax_v fun _ => 0)) j := by decide +kernel
  have e2 : rF0.map (ax_v ad) = rF0.map (ax_v fun _ => 0) := rfl
  rw [e2]
  exact e1 j hj
theorem dk_X4 : ∀ v ∈ rF0, ∀ h1 : ax_H, ax_ok h1 v := by
  intro v hv h1
  unfold rF0 at hv
  simp only [List.mem_cons, List.not_mem_nil, or_false] at hv
  have : v = ax_z ∨ v = ax_i 0 := by
    rcases hv with q | q | q | q | q | q | q | q | q | q | q | q | q | q | q | q | q | q | q | q | q | q | q | q | q | q | q | q | q | q | q | q | q <;> first | exact Or.inl q | exact Or.inr q
  rcases this with q | q <;> subst q <;> trivial
theorem ch_start : ax_up (ch rNew) (80, 0) (ax_o 5 rF0) = fhI (ch rNew) rF0 [] := by
  funext u
  obtain ⟨t, i⟩ := u
  by_cases h0 : t = 80
  · subst h0
    cases i with
    | zero => rw [ax_up_s]; rfl
    | succ i => rw [ax_up_n (by simp)]; rfl
  · rw [ax_up_n (by simp [h0])]
    by_cases h1 : t = 81
    · subst h1
      show ch rNew (81, i) = if i ∈ ([] : List Nat) then rf_a rZ i else none
      rw [if_neg (by simp)]
      rfl
    · rw [fhI_o h0 h1]
/-- the law, from its entry -/
theorem lo_start (X : ax_X mL_law p s m #[Value.ref b] meth c G cs (fun q => s.heap.size ≤ q) (ad0 ax_E)) (hX : va_X b Ln xs s s.heap) (hbl : b < s.heap.size) (hLn : Ln ≤ 2560) : lz p l e s m below meth c G cs ad0 b 0 [none, none, none, none] [] (fun _ => none) 0 0 := by
  refine lz_new X (1, 0) dL_law_0 (ci := 4) (fs := [ax_z, ax_z, ax_z, ax_z, ax_i (nI 0), ax_i (nI 0), ax_i (nI 0)]) rfl cl_L_7 is_X3 in_X3 df_X3 dk_X3 rfl (by decide) (by decide) (by decide) ?_
  refine lz_dup X dL_law_3 rfl ?_
  refine lz_callI (As := []) (S := [ax_r (1, 0)]) (u := (1, 0)) X ci_L_9 dL_law_4 rfl ok_xinit (by decide) (by decide) (by decide) (Nat.le_of_ble_eq_true rfl) (fun r hh hF _ => ?_)
  obtain ⟨rfl, rfl⟩ := hF
  refine lz_astore_n X dL_law_7 rfl (by decide) (by decide) ?_
  refine lz_new X (80, 0) dL_law_8 (ci := 5) (fs := rF0) rfl cl_L_10 is_X4 in_X4 df_X4 dk_X4 rfl (by decide) (by decide) (by decide) ?_
  refine lz_hq ch_start ?_
  refine lz_dup X dL_law_11 rfl ?_
  refine lz_callI (As := []) (S := [ax_r (80, 0)]) (u := (80, 0)) X ci_L_12 dL_law_12 rfl ok_init (by decide) (by decide) (by decide) (Nat.le_of_ble_eq_true rfl) (fun r hh hF _ => ?_)
  obtain ⟨rfl, rfl⟩ := hF
  refine lz_astore_n X dL_law_15 rfl (by decide) (by decide) ?_
  refine lz_iconst X (nI 0) dL_law_16 (by decide) ?_
  refine lz_istore_n X dL_law_17 rfl (by decide) (by decide) ?_
  exact lz_widen (by decide) (by decide) (lo_loop X hX hbl hLn Ln 0 rNew rNew (by omega) (by omega) iv_new)
end LWL
