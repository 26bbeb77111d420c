def rMc (ρ : ax_R) (m : Nat) (n r : Nat) : Nat := n + (List.range' 0 (ρ.1 5 r)).countP fun k => decide (ρ.1 6 (6 * r + k) = m)
def rMr (ρ : ax_R) (m : Nat) : Nat := (List.range' 0 (ρ.1 25 0)).countP fun k => !decide (ρ.2.2 26 k = -9) && decide (ρ.1 6 (6 * ρ.1 18 (ρ.2.2 26 k).toNatClampNeg + ρ.1 27 k) = m)
def rMa (ρ : ax_R) (m : Nat) (w : Int32) : Int32 := if w = nI 0 then ax_b (ρ.2.1 0 m) else if w = nI 1 then ax_b (ρ.2.1 1 m) else if w = nI 2 then nI ((List.range' 0 (ρ.1 4 0)).foldl (rMc ρ m) 0) else if w = nI 3 then nI (rMr ρ m) else -2
/-- a copy that isn't like the primary -/
def rUk (ρ : ax_R) (r k p : Nat) : Bool := rO ρ r k && (List.range' 0 8).any fun x => !decide (ρ.2.2 7 (8 * (6 * r + k) + x) = ρ.2.2 7 (8 * (6 * r + p) + x)) || !decide (ρ.1 8 (8 * (6 * r + k) + x) = ρ.1 8 (8 * (6 * r + p) + x))
def rUr (ρ : ax_R) (r : Nat) : Bool := match (rL ρ r)[0]? with
  | none => false
  | some p => (List.range' 0 (ρ.1 5 r)).any fun k => rUk ρ r k p
def rUn (ρ : ax_R) : Int32 := oI ((List.range' 0 (ρ.1 4 0)).find? (rUr ρ))
section REFM
variable {c : ax_H} {ρ : ax_R}
theorem lp_obj (hw : rf_ok ρ) {r p x : Nat} {y w : Int32} (hr : r < 6) (hp : p < 6) (hx : x < 8) : ∀ (q k n : Nat), k + q = ρ.1 25 0 → n + (List.range' k q).countP (fun k => !decide (ρ.2.2 26 k = -9) && decide (ρ.1 18 (ρ.2.2 26 k).toNatClampNeg = r) && decide (ρ.1 19 (ρ.2.2 26 k).toNatClampNeg = x) && decide (ρ.1 27 k = p)) = rOc ρ r p x → ax_Z mX4_object 4 0 0 (ax_D (ax_i (rOb ρ r p x y w)) (fh c ρ)) 61 [some (ax_r (80, 0)), some (ax_i (nI r)), some (ax_i y), some (ax_i (nI x)), some (ax_i w), some (ax_i (nI p)), some (ax_i (nI (8 * (6 * r + p) + x))), some (ax_i (nI n)), some (ax_i (nI k)), none] [] (fh c ρ) 0 0 := by
  intro q
  induction q with
  | zero =>
    intro k n hk hV
    have h25 := rk_25 hw
    have hn : n = rOc ρ r p x := ls_c2 hV
    refine ax_iload dX4_object_61 rfl ?_
    refine ax_aload_n dX4_object_63 rfl ?_
    refine rg_25 dX4_object_64 ?_
    refine ax_nge 136 dX4_object_67 (by decide) (by omega) (by omega) (fun c67 => ?_) (fun c67 => absurd c67 (by omega))
    refine ax_iload dX4_object_136 rfl ?_
    by_cases w0 : w = nI 0
    · subst w0
      refine ax_tin 168 dX4_object_138 (by decide) (by decide) (by rfl) (by decide) ?_
      refine ax_aload_n dX4_object_168 rfl ?_
      refine rg_7 dX4_object_169 ?_
      refine ax_iload dX4_object_172 rfl ?_
      refine rl_7 dX4_object_174 (by omega) ?_
      refine ax_iretD dX4_object_175 rfl ⟨(Nat.le_refl _), (Nat.le_refl _)⟩ ?_ ?_
      · rfl
      · rfl
    by_cases w1 : w = nI 1
    · subst w1
      refine ax_tin 176 dX4_object_138 (by decide) (by decide) (by rfl) (by decide) ?_
      refine ax_aload_n dX4_object_176 rfl ?_
      refine rg_8 dX4_object_177 ?_
      refine ax_iload dX4_object_180 rfl ?_
      refine rl_8 dX4_object_182 (by omega) ?_
      refine ax_iretD dX4_object_183 rfl ⟨(Nat.le_refl _), (Nat.le_refl _)⟩ ?_ ?_
      · rfl
      · rfl
    by_cases w2 : w = nI 2
    · subst w2
      refine ax_tin 184 dX4_object_138 (by decide) (by decide) (by rfl) (by decide) ?_
      refine ax_iload_n dX4_object_184 rfl ?_
      refine ax_if_ne 202 dX4_object_185 (by decide) (fun c185 => ?_) (fun c185 => ?_)
      · refine ax_bipush (-9) dX4_object_202 (by decide) ?_
        refine ax_iretD dX4_object_204 rfl ⟨(Nat.le_refl _), (Nat.le_refl _)⟩ ?_ ?_
        · show _ = (if y = 0 then ρ.2.2 9 (8 * r + x) else -9); simp [c185]
        · rfl
      · refine ax_aload_n dX4_object_188 rfl ?_
        refine rg_9 dX4_object_189 ?_
        refine ax_bipush (nI 8) dX4_object_192 (by decide) ?_
        refine ax_iload_n dX4_object_194 rfl ?_
        refine ax_imuln dX4_object_195 ?_
        refine ax_iload_n dX4_object_196 rfl ?_
        refine ax_iaddn dX4_object_197 ?_
        refine rl_9 dX4_object_198 (by omega) ?_
        refine ax_goto 204 dX4_object_199 (by decide) ?_
        refine ax_iretD dX4_object_204 rfl ⟨(Nat.le_refl _), (Nat.le_refl _)⟩ ?_ ?_
        · show _ = (if y = 0 then ρ.2.2 9 (8 * r + x) else -9); simp [c185]
        · rfl
    by_cases w3 : w = nI 3
    · subst w3
      refine ax_tin 205 dX4_object_138 (by decide) (by decide) (by rfl) (by decide) ?_
      refine ax_iload dX4_object_205 rfl ?_
      refine ax_iretD dX4_object_207 rfl ⟨(Nat.le_refl _), (Nat.le_refl _)⟩ ?_ ?_
      · show nI n = nI (rOc ρ r p x); rw [hn]
      · rfl
    refine ax_tout 208 dX4_object_138 (sw_out 3 (by decide) (fun k hk => by rcases (show k = 0 ∨ k = 1 ∨ k = 2 ∨ k = 3 by omega) with rfl | rfl | rfl | rfl <;> assumption)) (by decide) ?_
    refine ax_bipush (-2) dX4_object_208 (by decide) ?_
    refine ax_iretD dX4_object_210 rfl ⟨(Nat.le_refl _), (Nat.le_refl _)⟩ ?_ ?_
    · simp [rOb, w0, w1, w2, w3]
    · rfl
  | succ q ih =>
    intro k n hk hV
    have h25 := rk_25 hw
    refine ax_iload dX4_object_61 rfl ?_
    refine ax_aload_n dX4_object_63 rfl ?_
    refine rg_25 dX4_object_64 ?_
    refine ax_nge 136 dX4_object_67 (by decide) (by first | omega | exact rk_N hw _ _) (by first | omega | exact rk_N hw _ _) (fun c67 => absurd c67 (by omega)) (fun c67 => ?_)
    refine ax_aload_n dX4_object_70 rfl ?_
    refine rg_26 dX4_object_71 ?_
    refine ax_iload dX4_object_74 rfl ?_
    refine rl_26 dX4_object_76 (by first | omega | exact rk_N hw _ _) ?_
    refine ax_istore dX4_object_77 rfl (by decide) ?_
    refine ax_iload dX4_object_79 rfl ?_
    refine ax_iload dX4_object_81 rfl ?_
    refine ax_bipush (-9) dX4_object_83 (by decide) ?_
    refine ax_icmp_eq 126 dX4_object_85 (by decide) (fun c85 => ?_) (fun c85 => ?_)
    · refine ax_iconst (nI 0) dX4_object_126 (by decide) ?_
      refine ax_iaddn dX4_object_127 ?_
      refine ax_istore dX4_object_128 rfl (by decide) ?_
      refine ax_iincn (n := 1) dX4_object_130 rfl (by decide) rfl ?_
      refine ax_goto 61 dX4_object_133 (by decide) ?_
      refine ax_fg [true, true, true, true, true, true, true, true, true, false] rfl ?_
      exact ih (k + 1) (n + 0) (by omega) (ls_c0 (by simp [c85]) hV)
    · obtain ⟨j, hj, ej⟩ := (rk_26 hw k).resolve_left c85
      have hj9 : ¬ nI j = -9 := nI_n9 (by omega)
      rw [ej]
      refine ax_aload_n dX4_object_88 rfl ?_
      refine rg_18 dX4_object_89 ?_
      refine ax_iload dX4_object_92 rfl ?_
      refine rl_18 dX4_object_94 (by first | omega | exact rk_N hw _ _) ?_
      refine ax_iload_n dX4_object_95 rfl ?_
      refine ax_nne 126 dX4_object_96 (by decide) (by first | omega | exact rk_N hw _ _) (by first | omega | exact rk_N hw _ _) (fun c96 => ?_) (fun c96 => ?_)
      · refine ax_iconst (nI 0) dX4_object_126 (by decide) ?_
        refine ax_iaddn dX4_object_127 ?_
        refine ax_istore dX4_object_128 rfl (by decide) ?_
        refine ax_iincn (n := 1) dX4_object_130 rfl (by decide) rfl ?_
        refine ax_goto 61 dX4_object_133 (by decide) ?_
        refine ax_fg [true, true, true, true, true, true, true, true, true, false] rfl ?_
        exact ih (k + 1) (n + 0) (by omega) (ls_c0 (by rw [ej, nI_clamp (by omega)]; simp [c96]) hV)
      · refine ax_aload_n dX4_object_99 rfl ?_
        refine rg_19 dX4_object_100 ?_
        refine ax_iload dX4_object_103 rfl ?_
        refine rl_19 dX4_object_105 (by first | omega | exact rk_N hw _ _) ?_
        refine ax_iload_n dX4_object_106 rfl ?_
        refine ax_nne 126 dX4_object_107 (by decide) (by first | omega | exact rk_N hw _ _) (by first | omega | exact rk_N hw _ _) (fun c107 => ?_) (fun c107 => ?_)
        · refine ax_iconst (nI 0) dX4_object_126 (by decide) ?_
          refine ax_iaddn dX4_object_127 ?_
          refine ax_istore dX4_object_128 rfl (by decide) ?_
          refine ax_iincn (n := 1) dX4_object_130 rfl (by decide) rfl ?_
          refine ax_goto 61 dX4_object_133 (by decide) ?_
          refine ax_fg [true, true, true, true, true, true, true, true, true, false] rfl ?_
          exact ih (k + 1) (n + 0) (by omega) (ls_c0 (by rw [ej, nI_clamp (by omega)]; simp [c107]) hV)
        · refine ax_aload_n dX4_object_110 rfl ?_
          refine rg_27 dX4_object_111 ?_
          refine ax_iload dX4_object_114 rfl ?_
          refine rl_27 dX4_object_116 (by first | omega | exact rk_N hw _ _) ?_
          refine ax_iload dX4_object_117 rfl ?_
          refine ax_nne 126 dX4_object_119 (by decide) (by first | omega | exact rk_N hw _ _) (by first | omega | exact rk_N hw _ _) (fun c119 => ?_) (fun c119 => ?_)
          · refine ax_iconst (nI 0) dX4_object_126 (by decide) ?_
            refine ax_iaddn dX4_object_127 ?_
            refine ax_istore dX4_object_128 rfl (by decide) ?_
            refine ax_iincn (n := 1) dX4_object_130 rfl (by decide) rfl ?_
            refine ax_goto 61 dX4_object_133 (by decide) ?_
            refine ax_fg [true, true, true, true, true, true, true, true, true, false] rfl ?_
            first | exact ih (k + 1) (n + 0) (by omega) (ls_c0 (by rw [ej, nI_clamp (by omega)]; simp [c119]) hV) | exact ih (k + 1) (n + 1) (by omega) (ls_c1 (by rw [ej, nI_clamp (by omega)]; simp [hj9, c96, c107, c119]) hV)
          · refine ax_iconst (nI 1) dX4_object_122 (by decide) ?_
            refine ax_goto 127 dX4_object_123 (by decide) ?_
            refine ax_iaddn dX4_object_127 ?_
            refine ax_istore dX4_object_128 rfl (by decide) ?_
            refine ax_iincn (n := 1) dX4_object_130 rfl (by decide) rfl ?_
            refine ax_goto 61 dX4_object_133 (by decide) ?_
            refine ax_fg [true, true, true, true, true, true, true, true, true, false] rfl ?_
            first | exact ih (k + 1) (n + 0) (by omega) (ls_c0 (by rw [ej, nI_clamp (by omega)]; simp [c119]) hV) | exact ih (k + 1) (n + 1) (by omega) (ls_c1 (by rw [ej, nI_clamp (by omega)]; simp [hj9, c96, c107, c119]) hV)
theorem ok_object0 {x y z w : Int32} (hk : (decide (0 ≤ x) && decide (x ≤ nI (ρ.1 4 0) - 1)) = false) : ax_Ok mX4_object yX4_object 4 0 0 [ax_r (80, 0), ax_i x, ax_i y, ax_i z, ax_i w] (fh c ρ) (ax_D (ax_i (-1)) (fh c ρ)) := by
  refine ax_Ok.of (by decide) rfl (fun q => by cases q) (Nat.le_of_ble_eq_true rfl) rfl ?_
  refine ax_aload_n dX4_object_0 rfl ?_
  refine ax_iload_n dX4_object_1 rfl ?_
  refine ax_V1 cv_X4_118 dX4_object_2 fh_M rfl (ok_isRegion _) (by decide) (Nat.le_refl _) (Nat.le_refl _) (Nat.le_of_ble_eq_true rfl) ?_
  refine ax_beq 31 dX4_object_5 (by decide) (fun c5 => ?_) (fun c5 => absurd c5 (by simp [hk]))
  refine ax_iconst (-1) dX4_object_31 (by decide) ?_
  refine ax_iretD dX4_object_32 rfl ⟨(Nat.le_refl _), (Nat.le_refl _)⟩ ?_ ?_
  · rfl
  · rfl
theorem ok_object1 {r : Nat} {y z w : Int32} (hk : (decide (0 ≤ nI r) && decide (nI r ≤ nI (ρ.1 4 0) - 1)) = true) (ho : (decide (0 ≤ z) && decide (z ≤ 7)) = false) : ax_Ok mX4_object yX4_object 4 0 0 [ax_r (80, 0), ax_i (nI r), ax_i y, ax_i z, ax_i w] (fh c ρ) (ax_D (ax_i (-1)) (fh c ρ)) := by
  refine ax_Ok.of (by decide) rfl (fun q => by cases q) (Nat.le_of_ble_eq_true rfl) rfl ?_
  have hz : (decide ((0 : Int64) ≤ z.toInt64) && decide (z.toInt64 ≤ (7 : Int64))) = (decide (0 ≤ z) && decide (z ≤ 7)) := by rw [show (0 : Int64) = (0 : Int32).toInt64 by decide, show (7 : Int64) = (7 : Int32).toInt64 by decide]; simp only [i64_le]
  refine ax_aload_n dX4_object_0 rfl ?_
  refine ax_iload_n dX4_object_1 rfl ?_
  refine ax_V1 cv_X4_118 dX4_object_2 fh_M rfl (ok_isRegion _) (by decide) (Nat.le_refl _) (Nat.le_refl _) (Nat.le_of_ble_eq_true rfl) ?_
  refine ax_beq 31 dX4_object_5 (by decide) (fun c5 => absurd c5 (by rw [hk]; simp)) (fun c5 => ?_)
  refine ax_iload_n dX4_object_8 rfl ?_
  refine ax_i2l _ dX4_object_9 rfl ?_
  refine ax_lconst 0 dX4_object_10 (by decide) ?_
  refine ax_ldc2 dX4_object_11 co_X4_146 ?_
  refine ax_S3 cs_X4_88 dX4_object_14 (ok_in _ _ _) (by decide) (Nat.le_refl _) (Nat.le_refl _) (Nat.le_of_ble_eq_true rfl) ?_
  refine ax_beq 31 dX4_object_17 (by decide) (fun c17 => ?_) (fun c17 => absurd c17 (by rw [hz, ho]; simp))
  refine ax_iconst (-1) dX4_object_31 (by decide) ?_
  refine ax_iretD dX4_object_32 rfl ⟨(Nat.le_refl _), (Nat.le_refl _)⟩ ?_ ?_
  · rfl
  · rfl
theorem ok_object2 (hw : rf_ok ρ) {r x : Nat} {y w : Int32} (hr : r < 6) (hx : x < 8) (hk : (decide (0 ≤ nI r) && decide (nI r ≤ nI (ρ.1 4 0) - 1)) = true) (hp : rP ρ r y = -9) : ax_Ok mX4_object yX4_object 4 0 0 [ax_r (80, 0), ax_i (nI r), ax_i y, ax_i (nI x), ax_i w] (fh c ρ) (ax_D (ax_i (-1)) (fh c ρ)) := by
  refine ax_Ok.of (by decide) rfl (fun q => by cases q) (Nat.le_of_ble_eq_true rfl) rfl ?_
  have hz : (decide ((0 : Int64) ≤ (nI x).toInt64) && decide ((nI x).toInt64 ≤ (7 : Int64))) = (decide (0 ≤ nI x) && decide (nI x ≤ 7)) := by rw [show (0 : Int64) = (0 : Int32).toInt64 by decide, show (7 : Int64) = (7 : Int32).toInt64 by decide]; simp only [i64_le]
  have ho : (decide (0 ≤ nI x) && decide (nI x ≤ 7)) = true := rf_in7.mpr ⟨x, hx, rfl⟩
  refine ax_aload_n dX4_object_0 rfl ?_
  refine ax_iload_n dX4_object_1 rfl ?_
  refine ax_V1 cv_X4_118 dX4_object_2 fh_M rfl (ok_isRegion _) (by decide) (Nat.le_refl _) (Nat.le_refl _) (Nat.le_of_ble_eq_true rfl) ?_
  refine ax_beq 31 dX4_object_5 (by decide) (fun c5 => absurd c5 (by rw [hk]; simp)) (fun c5 => ?_)
  refine ax_iload_n dX4_object_8 rfl ?_
  refine ax_i2l _ dX4_object_9 rfl ?_
  refine ax_lconst 0 dX4_object_10 (by decide) ?_
  refine ax_ldc2 dX4_object_11 co_X4_146 ?_
  refine ax_S3 cs_X4_88 dX4_object_14 (ok_in _ _ _) (by decide) (Nat.le_refl _) (Nat.le_refl _) (Nat.le_of_ble_eq_true rfl) ?_
  refine ax_beq 31 dX4_object_17 (by decide) (fun c17 => absurd c17 (by rw [hz, ho]; simp)) (fun c17 => ?_)
  refine ax_aload_n dX4_object_20 rfl ?_
  refine ax_iload_n dX4_object_21 rfl ?_
  refine ax_iload_n dX4_object_22 rfl ?_
  refine ax_V2 cv_X4_104 dX4_object_23 fh_M rfl (ok_placeOf hw hr y) (by decide) (Nat.le_refl _) (Nat.le_refl _) (Nat.le_of_ble_eq_true rfl) ?_
  rw [hp]
  refine ax_bipush (-9) dX4_object_26 (by decide) ?_
  refine ax_icmp_ne 33 dX4_object_28 (by decide) (fun c28 => absurd c28 (fun z => z rfl)) (fun c28 => ?_)
  refine ax_iconst (-1) dX4_object_31 (by decide) ?_
  refine ax_iretD dX4_object_32 rfl ⟨(Nat.le_refl _), (Nat.le_refl _)⟩ ?_ ?_
  · rfl
  · rfl
theorem ok_object (hw : rf_ok ρ) {r x p : Nat} {y w : Int32} (hr : r < 6) (hx : x < 8) (hp6 : p < 6) (hk : (decide (0 ≤ nI r) && decide (nI r ≤ nI (ρ.1 4 0) - 1)) = true) (hp : rP ρ r y = nI p) : ax_Ok mX4_object yX4_object 4 0 0 [ax_r (80, 0), ax_i (nI r), ax_i y, ax_i (nI x), ax_i w] (fh c ρ) (ax_D (ax_i (rOb ρ r p x y w)) (fh c ρ)) := by
  refine ax_Ok.of (by decide) rfl (fun q => by cases q) (Nat.le_of_ble_eq_true rfl) rfl ?_
  have hz : (decide ((0 : Int64) ≤ (nI x).toInt64) && decide ((nI x).toInt64 ≤ (7 : Int64))) = (decide (0 ≤ nI x) && decide (nI x ≤ 7)) := by rw [show (0 : Int64) = (0 : Int32).toInt64 by decide, show (7 : Int64) = (7 : Int32).toInt64 by decide]; simp only [i64_le]
  have ho : (decide (0 ≤ nI x) && decide (nI x ≤ 7)) = true := rf_in7.mpr ⟨x, hx, rfl⟩
  refine ax_aload_n dX4_object_0 rfl ?_
  refine ax_iload_n dX4_object_1 rfl ?_
  refine ax_V1 cv_X4_118 dX4_object_2 fh_M rfl (ok_isRegion _) (by decide) (Nat.le_refl _) (Nat.le_refl _) (Nat.le_of_ble_eq_true rfl) ?_
  refine ax_beq 31 dX4_object_5 (by decide) (fun c5 => absurd c5 (by rw [hk]; simp)) (fun c5 => ?_)
  refine ax_iload_n dX4_object_8 rfl ?_
  refine ax_i2l _ dX4_object_9 rfl ?_
  refine ax_lconst 0 dX4_object_10 (by decide) ?_
  refine ax_ldc2 dX4_object_11 co_X4_146 ?_
  refine ax_S3 cs_X4_88 dX4_object_14 (ok_in _ _ _) (by decide) (Nat.le_refl _) (Nat.le_refl _) (Nat.le_of_ble_eq_true rfl) ?_
  refine ax_beq 31 dX4_object_17 (by decide) (fun c17 => absurd c17 (by rw [hz, ho]; simp)) (fun c17 => ?_)
  refine ax_aload_n dX4_object_20 rfl ?_
  refine ax_iload_n dX4_object_21 rfl ?_
  refine ax_iload_n dX4_object_22 rfl ?_
  refine ax_V2 cv_X4_104 dX4_object_23 fh_M rfl (ok_placeOf hw hr y) (by decide) (Nat.le_refl _) (Nat.le_refl _) (Nat.le_of_ble_eq_true rfl) ?_
  rw [hp]
  refine ax_bipush (-9) dX4_object_26 (by decide) ?_
  refine ax_icmp_ne 33 dX4_object_28 (by decide) (fun c28 => ?_) (fun c28 => absurd c28 (nI_n9 (by omega)))
  refine ax_aload_n dX4_object_33 rfl ?_
  refine ax_iload_n dX4_object_34 rfl ?_
  refine ax_iload_n dX4_object_35 rfl ?_
  refine ax_V2 cv_X4_104 dX4_object_36 fh_M rfl (ok_placeOf hw hr y) (by decide) (Nat.le_refl _) (Nat.le_refl _) (Nat.le_of_ble_eq_true rfl) ?_
  rw [hp]
  refine ax_istore dX4_object_39 rfl (by decide) ?_
  refine ax_bipush (nI 8) dX4_object_41 (by decide) ?_
  refine ax_bipush (nI 6) dX4_object_43 (by decide) ?_
  refine ax_iload_n dX4_object_45 rfl ?_
  refine ax_imuln dX4_object_46 ?_
  refine ax_iload dX4_object_47 rfl ?_
  refine ax_iaddn dX4_object_49 ?_
  refine ax_imuln dX4_object_50 ?_
  refine ax_iload_n dX4_object_51 rfl ?_
  refine ax_iaddn dX4_object_52 ?_
  refine ax_istore dX4_object_53 rfl (by decide) ?_
  refine ax_iconst (nI 0) dX4_object_55 (by decide) ?_
  refine ax_istore dX4_object_56 rfl (by decide) ?_
  refine ax_iconst (nI 0) dX4_object_58 (by decide) ?_
  refine ax_istore dX4_object_59 rfl (by decide) ?_
  exact lp_obj hw hr hp6 hx (ρ.1 25 0) 0 0 (Nat.zero_add _) (Nat.zero_add _)
theorem ok_machine0 {x w : Int32} (hk : (decide (0 ≤ x) && decide (x ≤ 5)) = false) : ax_Ok mX4_machine yX4_machine 3 0 0 [ax_r (80, 0), ax_i x, ax_i w] (fh c ρ) (ax_D (ax_i (-1)) (fh c ρ)) := by
  refine ax_Ok.of (by decide) rfl (fun q => by cases q) (Nat.le_of_ble_eq_true rfl) rfl ?_
  refine ax_iload_n dX4_machine_0 rfl ?_
  refine ax_S1 cs_X4_108 dX4_machine_1 (ok_isMachine _) (by decide) (Nat.le_refl _) (Nat.le_refl _) (Nat.le_of_ble_eq_true rfl) ?_
  refine ax_bne 9 dX4_machine_4 (by decide) (fun c4 => absurd c4 (by simp [hk])) (fun c4 => ?_)
  refine ax_iconst (-1) dX4_machine_7 (by decide) ?_
  refine ax_iretD dX4_machine_8 rfl ⟨(Nat.le_refl _), (Nat.le_refl _)⟩ ?_ ?_
  · rfl
  · rfl
theorem lp_ma4 {m n : Nat} {w V : Int32} (hm : m < 6) (h0 : w = nI 0 → V = ax_b (ρ.2.1 0 m)) (h1 : w = nI 1 → V = ax_b (ρ.2.1 1 m)) (h2 : w = nI 2 ∨ w = nI 3 → V = nI n) (h3 : ¬ w = nI 0 → ¬ w = nI 1 → ¬ w = nI 2 → ¬ w = nI 3 → V = -2) : ax_Z mX4_machine 3 0 0 (ax_D (ax_i V) (fh c ρ)) 155 [some (ax_r (80, 0)), some (ax_i (nI m)), some (ax_i w), some (ax_i (nI n)), none, none] [] (fh c ρ) 0 0 := by
  have hwx : (decide ((2 : Int64) ≤ w.toInt64) && decide (w.toInt64 ≤ (3 : Int64))) = (decide (2 ≤ w) && decide (w ≤ 3)) := by rw [show (2 : Int64) = (2 : Int32).toInt64 by decide, show (3 : Int64) = (3 : Int32).toInt64 by decide]; simp only [i64_le]
  have e23 : (decide (2 ≤ w) && decide (w ≤ 3)) = true ↔ w = nI 2 ∨ w = nI 3 := by
    constructor
    · intro h
      simp only [Bool.and_eq_true, decide_eq_true_eq] at h
      obtain ⟨j, hj, rfl⟩ := nI_of (x := w) (fun z => absurd (Int32.lt_of_le_of_lt h.1 z) (by decide))
      have a1 := (nI_leI (a := 2) (by decide) hj).mp h.1
      have a2 := (nI_leI (b := 3) hj (by decide)).mp h.2
      rcases (show j = 2 ∨ j = 3 by omega) with rfl | rfl
      · exact Or.inl rfl
      · exact Or.inr rfl
    · rintro (rfl | rfl) <;> decide
  refine ax_iload_n dX4_machine_155 rfl ?_
  refine ax_if_ne 176 dX4_machine_156 (by decide) (fun c156 => ?_) (fun c156 => ?_)
  · refine ax_iload_n dX4_machine_176 rfl ?_
    refine ax_iconst (nI 1) dX4_machine_177 (by decide) ?_
    refine ax_icmp_ne 198 dX4_machine_178 (by decide) (fun c178 => ?_) (fun c178 => ?_)
    · refine ax_iload_n dX4_machine_198 rfl ?_
      refine ax_i2l _ dX4_machine_199 rfl ?_
      refine ax_ldc2 dX4_machine_200 co_X4_230 ?_
      refine ax_ldc2 dX4_machine_203 co_X4_232 ?_
      refine ax_S3 cs_X4_88 dX4_machine_206 (ok_in _ _ _) (by decide) (Nat.le_refl _) (Nat.le_refl _) (Nat.le_of_ble_eq_true rfl) ?_
      refine ax_beq 216 dX4_machine_209 (by decide) (fun c209 => ?_) (fun c209 => ?_)
      · rw [hwx] at c209
        refine ax_bipush (-2) dX4_machine_216 (by decide) ?_
        refine ax_iretD dX4_machine_218 rfl ⟨(Nat.le_refl _), (Nat.le_refl _)⟩ ?_ ?_
        · first | exact (h2 (e23.mp c209)).symm | exact (h3 c156 c178 (fun z => by rw [e23.mpr (Or.inl z)] at c209; cases c209) (fun z => by rw [e23.mpr (Or.inr z)] at c209; cases c209)).symm
        · rfl
      · rw [hwx] at c209
        refine ax_iload_n dX4_machine_212 rfl ?_
        refine ax_goto 218 dX4_machine_213 (by decide) ?_
        refine ax_iretD dX4_machine_218 rfl ⟨(Nat.le_refl _), (Nat.le_refl _)⟩ ?_ ?_
        · first | exact (h2 (e23.mp c209)).symm | exact (h3 c156 c178 (fun z => by rw [e23.mpr (Or.inl z)] at c209; cases c209) (fun z => by rw [e23.mpr (Or.inr z)] at c209; cases c209)).symm
        · rfl
    · refine ax_aload_n dX4_machine_181 rfl ?_
      refine rg_1 dX4_machine_182 ?_
      refine ax_iload_n dX4_machine_185 rfl ?_
      refine rl_1 dX4_machine_186 (by omega) ?_
      refine ax_beq 194 dX4_machine_187 (by decide) (fun c187 => ?_) (fun c187 => ?_)
      · refine ax_iconst (nI 0) dX4_machine_194 (by decide) ?_
        refine ax_goto 218 dX4_machine_195 (by decide) ?_
        refine ax_iretD dX4_machine_218 rfl ⟨(Nat.le_refl _), (Nat.le_refl _)⟩ ?_ ?_
        · rw [h1 c178, c187]; rfl
        · rfl
      · refine ax_iconst (nI 1) dX4_machine_190 (by decide) ?_
        refine ax_goto 218 dX4_machine_191 (by decide) ?_
        refine ax_iretD dX4_machine_218 rfl ⟨(Nat.le_refl _), (Nat.le_refl _)⟩ ?_ ?_
        · rw [h1 c178, c187]; rfl
        · rfl
  · refine ax_aload_n dX4_machine_159 rfl ?_
    refine rg_0 dX4_machine_160 ?_
    refine ax_iload_n dX4_machine_163 rfl ?_
    refine rl_0 dX4_machine_164 (by omega) ?_
    refine ax_beq 172 dX4_machine_165 (by decide) (fun c165 => ?_) (fun c165 => ?_)
    · refine ax_iconst (nI 0) dX4_machine_172 (by decide) ?_
      refine ax_goto 218 dX4_machine_173 (by decide) ?_
      refine ax_iretD dX4_machine_218 rfl ⟨(Nat.le_refl _), (Nat.le_refl _)⟩ ?_ ?_
      · rw [h0 c156, c165]; rfl
      · rfl
    · refine ax_iconst (nI 1) dX4_machine_168 (by decide) ?_
      refine ax_goto 218 dX4_machine_169 (by decide) ?_
      refine ax_iretD dX4_machine_218 rfl ⟨(Nat.le_refl _), (Nat.le_refl _)⟩ ?_ ?_
      · rw [h0 c156, c165]; rfl
      · rfl
theorem lp_ma3 (hw : rf_ok ρ) {m N : Nat} {V : Int32} {w : Int32} (hw3 : w = nI 3) (hm : m < 6) (K : ax_Z mX4_machine 3 0 0 (ax_D (ax_i V) (fh c ρ)) 155 [some (ax_r (80, 0)), some (ax_i (nI m)), some (ax_i w), some (ax_i (nI N)), none, none] [] (fh c ρ) 0 0) : ∀ (q k n : Nat), k + q = ρ.1 25 0 → n + (List.range' k q).countP (fun k => !decide (ρ.2.2 26 k = -9) && decide (ρ.1 6 (6 * ρ.1 18 (ρ.2.2 26 k).toNatClampNeg + ρ.1 27 k) = m)) = N → ax_Z mX4_machine 3 0 0 (ax_D (ax_i V) (fh c ρ)) 83 [some (ax_r (80, 0)), some (ax_i (nI m)), some (ax_i w), some (ax_i (nI n)), some (ax_i (nI k)), none] [] (fh c ρ) 0 0 := by
  intro q
  induction q with
  | zero =>
    intro k n hk hV
    have h25 := rk_25 hw
    have e := ls_c2 hV
    subst e
    refine ax_iload dX4_machine_83 rfl ?_
    refine ax_aload_n dX4_machine_85 rfl ?_
    refine rg_25 dX4_machine_86 ?_
    refine ax_nge 155 dX4_machine_89 (by decide) (by omega) (by omega) (fun c89 => ?_) (fun c89 => absurd c89 (by omega))
    refine ax_fg [true, true, true, true, false, false] rfl ?_
    exact K
  | succ q ih =>
    intro k n hk hV
    have h25 := rk_25 hw
    have h27 := rk_27 hw k
    refine ax_iload dX4_machine_83 rfl ?_
    refine ax_aload_n dX4_machine_85 rfl ?_
    refine rg_25 dX4_machine_86 ?_
    refine ax_nge 155 dX4_machine_89 (by decide) (by first | omega | exact rk_N hw _ _) (by first | omega | exact rk_N hw _ _) (fun c89 => absurd c89 (by omega)) (fun c89 => ?_)
    refine ax_iload_n dX4_machine_92 rfl ?_
    refine ax_iconst (nI 3) dX4_machine_93 (by decide) ?_
    refine ax_icmp_ne 155 dX4_machine_94 (by decide) (fun c94 => absurd c94 (fun z => z hw3)) (fun c94 => ?_)
    refine ax_iload_n dX4_machine_97 rfl ?_
    refine ax_aload_n dX4_machine_98 rfl ?_
    refine rg_26 dX4_machine_99 ?_
    refine ax_iload dX4_machine_102 rfl ?_
    refine rl_26 dX4_machine_104 (by first | omega | exact rk_N hw _ _) ?_
    refine ax_bipush (-9) dX4_machine_105 (by decide) ?_
    refine ax_icmp_eq 146 dX4_machine_107 (by decide) (fun c107 => ?_) (fun c107 => ?_)
    · refine ax_iconst (nI 0) dX4_machine_146 (by decide) ?_
      refine ax_iaddn dX4_machine_147 ?_
      refine ax_istore_n dX4_machine_148 rfl (by decide) ?_
      refine ax_iincn (n := 1) dX4_machine_149 rfl (by decide) rfl ?_
      refine ax_goto 83 dX4_machine_152 (by decide) ?_
      exact ih (k + 1) (n + 0) (by omega) (ls_c0 (by simp [c107]) hV)
    · obtain ⟨j, hj, ej⟩ := (rk_26 hw k).resolve_left c107
      have hj9 : ¬ nI j = -9 := nI_n9 (by omega)
      have h18 := rk_18 hw j
      refine ax_aload_n dX4_machine_110 rfl ?_
      refine rg_6 dX4_machine_111 ?_
      refine ax_bipush (nI 6) dX4_machine_114 (by decide) ?_
      refine ax_aload_n dX4_machine_116 rfl ?_
      refine rg_18 dX4_machine_117 ?_
      refine ax_aload_n dX4_machine_120 rfl ?_
      refine rg_26 dX4_machine_121 ?_
      refine ax_iload dX4_machine_124 rfl ?_
      refine rl_26 dX4_machine_126 (by first | omega | exact rk_N hw _ _) ?_
      rw [ej]
      refine rl_18 dX4_machine_127 (by first | omega | exact rk_N hw _ _) ?_
      refine ax_imuln dX4_machine_128 ?_
      refine ax_aload_n dX4_machine_129 rfl ?_
      refine rg_27 dX4_machine_130 ?_
      refine ax_iload dX4_machine_133 rfl ?_
      refine rl_27 dX4_machine_135 (by first | omega | exact rk_N hw _ _) ?_
      refine ax_iaddn dX4_machine_136 ?_
      refine rl_6 dX4_machine_137 (by first | omega | exact rk_N hw _ _) ?_
      refine ax_iload_n dX4_machine_138 rfl ?_
      refine ax_nne 146 dX4_machine_139 (by decide) (by first | omega | exact rk_N hw _ _) (by first | omega | exact rk_N hw _ _) (fun c139 => ?_) (fun c139 => ?_)
      · refine ax_iconst (nI 0) dX4_machine_146 (by decide) ?_
        refine ax_iaddn dX4_machine_147 ?_
        refine ax_istore_n dX4_machine_148 rfl (by decide) ?_
        refine ax_iincn (n := 1) dX4_machine_149 rfl (by decide) rfl ?_
        refine ax_goto 83 dX4_machine_152 (by decide) ?_
        first | exact ih (k + 1) (n + 0) (by omega) (ls_c0 (by rw [ej, nI_clamp (by omega)]; simp [c139]) hV) | exact ih (k + 1) (n + 1) (by omega) (ls_c1 (by rw [ej, nI_clamp (by omega)]; simp [hj9, c139]) hV)
      · refine ax_iconst (nI 1) dX4_machine_142 (by decide) ?_
        refine ax_goto 147 dX4_machine_143 (by decide) ?_
        refine ax_iaddn dX4_machine_147 ?_
        refine ax_istore_n dX4_machine_148 rfl (by decide) ?_
        refine ax_iincn (n := 1) dX4_machine_149 rfl (by decide) rfl ?_
        refine ax_goto 83 dX4_machine_152 (by decide) ?_
        first | exact ih (k + 1) (n + 0) (by omega) (ls_c0 (by rw [ej, nI_clamp (by omega)]; simp [c139]) hV) | exact ih (k + 1) (n + 1) (by omega) (ls_c1 (by rw [ej, nI_clamp (by omega)]; simp [hj9, c139]) hV)
theorem lp_ma1 (hw : rf_ok ρ) {m r N : Nat} {V w : Int32} (hm : m < 6) (hr : r < 6) (K : ax_Z mX4_machine 3 0 0 (ax_D (ax_i V) (fh c ρ)) 74 [some (ax_r (80, 0)), some (ax_i (nI m)), some (ax_i w), some (ax_i (nI N)), some (ax_i (nI r)), none] [] (fh c ρ) 0 0) : ∀ (q k n : Nat), k + q = ρ.1 5 r → n + (List.range' k q).countP (fun k => decide (ρ.1 6 (6 * r + k) = m)) = N → ax_Z mX4_machine 3 0 0 (ax_D (ax_i V) (fh c ρ)) 31 [some (ax_r (80, 0)), some (ax_i (nI m)), some (ax_i w), some (ax_i (nI n)), some (ax_i (nI r)), some (ax_i (nI k))] [] (fh c ρ) 0 0 := by
  intro q
  induction q with
  | zero =>
    intro k n hk hV
    have h5 := rk_5 hw r
    have e := ls_c2 hV
    subst e
    refine ax_iload dX4_machine_31 rfl ?_
    refine ax_aload_n dX4_machine_33 rfl ?_
    refine rg_5 dX4_machine_34 ?_
    refine ax_iload dX4_machine_37 rfl ?_
    refine rl_5 dX4_machine_39 (by omega) ?_
    refine ax_nge 74 dX4_machine_40 (by decide) (by omega) (by omega) (fun c40 => ?_) (fun c40 => absurd c40 (by omega))
    refine ax_fg [true, true, true, true, true, false] rfl ?_
    exact K
  | succ q ih =>
    intro k n hk hV
    have h5 := rk_5 hw r
    refine ax_iload dX4_machine_31 rfl ?_
    refine ax_aload_n dX4_machine_33 rfl ?_
    refine rg_5 dX4_machine_34 ?_
    refine ax_iload dX4_machine_37 rfl ?_
    refine rl_5 dX4_machine_39 (by first | omega | exact rk_N hw _ _) ?_
    refine ax_nge 74 dX4_machine_40 (by decide) (by first | omega | exact rk_N hw _ _) (by first | omega | exact rk_N hw _ _) (fun c40 => absurd c40 (by omega)) (fun c40 => ?_)
    refine ax_iload_n dX4_machine_43 rfl ?_
    refine ax_aload_n dX4_machine_44 rfl ?_
    refine rg_6 dX4_machine_45 ?_
    refine ax_bipush (nI 6) dX4_machine_48 (by decide) ?_
    refine ax_iload dX4_machine_50 rfl ?_
    refine ax_imuln dX4_machine_52 ?_
    refine ax_iload dX4_machine_53 rfl ?_
    refine ax_iaddn dX4_machine_55 ?_
    refine rl_6 dX4_machine_56 (by first | omega | exact rk_N hw _ _) ?_
    refine ax_iload_n dX4_machine_57 rfl ?_
    refine ax_nne 65 dX4_machine_58 (by decide) (by first | omega | exact rk_N hw _ _) (by first | omega | exact rk_N hw _ _) (fun c58 => ?_) (fun c58 => ?_)
    · refine ax_iconst (nI 0) dX4_machine_65 (by decide) ?_
      refine ax_iaddn dX4_machine_66 ?_
      refine ax_istore_n dX4_machine_67 rfl (by decide) ?_
      refine ax_iincn (n := 1) dX4_machine_68 rfl (by decide) rfl ?_
      refine ax_goto 31 dX4_machine_71 (by decide) ?_
      first | exact ih (k + 1) (n + 0) (by omega) (ls_c0 (by simp [c58]) hV) | exact ih (k + 1) (n + 1) (by omega) (ls_c1 (by simp [c58]) hV)
    · refine ax_iconst (nI 1) dX4_machine_61 (by decide) ?_
      refine ax_goto 66 dX4_machine_62 (by decide) ?_
      refine ax_iaddn dX4_machine_66 ?_
      refine ax_istore_n dX4_machine_67 rfl (by decide) ?_
      refine ax_iincn (n := 1) dX4_machine_68 rfl (by decide) rfl ?_
      refine ax_goto 31 dX4_machine_71 (by decide) ?_
      first | exact ih (k + 1) (n + 0) (by omega) (ls_c0 (by simp [c58]) hV) | exact ih (k + 1) (n + 1) (by omega) (ls_c1 (by simp [c58]) hV)
theorem lp_ma2 (hw : rf_ok ρ) {m N : Nat} {V w : Int32} (hw2 : w = nI 2) (hm : m < 6) (K : ax_Z mX4_machine 3 0 0 (ax_D (ax_i V) (fh c ρ)) 155 [some (ax_r (80, 0)), some (ax_i (nI m)), some (ax_i w), some (ax_i (nI N)), none, none] [] (fh c ρ) 0 0) : ∀ (q r n : Nat), r + q = ρ.1 4 0 → (List.range' r q).foldl (rMc ρ m) n = N → ax_Z mX4_machine 3 0 0 (ax_D (ax_i V) (fh c ρ)) 14 [some (ax_r (80, 0)), some (ax_i (nI m)), some (ax_i w), some (ax_i (nI n)), some (ax_i (nI r)), none] [] (fh c ρ) 0 0 := by
  intro q
  induction q with
  | zero =>
    intro r n hk hV
    have h4 := rk_4 hw
    have h25 := rk_25 hw
    have e : n = N := hV
    subst e
    refine ax_iload dX4_machine_14 rfl ?_
    refine ax_aload_n dX4_machine_16 rfl ?_
    refine rg_4 dX4_machine_17 ?_
    refine ax_nge 80 dX4_machine_20 (by decide) (by omega) (by omega) (fun c20 => ?_) (fun c20 => absurd c20 (by omega))
    refine ax_iconst (nI 0) dX4_machine_80 (by decide) ?_
    refine ax_istore dX4_machine_81 rfl (by decide) ?_
    refine ax_iload dX4_machine_83 rfl ?_
    refine ax_aload_n dX4_machine_85 rfl ?_
    refine rg_25 dX4_machine_86 ?_
    refine ax_nge 155 dX4_machine_89 (by decide) (by omega) (by omega) (fun c89 => ?_) (fun c89 => ?_)
    · refine ax_fg [true, true, true, true, false, false] rfl ?_
      exact K
    · refine ax_iload_n dX4_machine_92 rfl ?_
      refine ax_iconst (nI 3) dX4_machine_93 (by decide) ?_
      refine ax_icmp_ne 155 dX4_machine_94 (by decide) (fun c94 => ?_) (fun c94 => absurd c94 (by rw [hw2]; decide))
      refine ax_fg [true, true, true, true, false, false] rfl ?_
      exact K
  | succ q ih =>
    intro r n hk hV
    have h4 := rk_4 hw
    rw [List.range'_succ, List.foldl_cons] at hV
    have KK : ax_Z mX4_machine 3 0 0 (ax_D (ax_i V) (fh c ρ)) 74 [some (ax_r (80, 0)), some (ax_i (nI m)), some (ax_i w), some (ax_i (nI (rMc ρ m n r))), some (ax_i (nI r)), none] [] (fh c ρ) 0 0 := by
      refine ax_iincn (n := 1) dX4_machine_74 rfl (by decide) rfl ?_
      refine ax_goto 14 dX4_machine_77 (by decide) ?_
      exact ih (r + 1) (rMc ρ m n r) (by omega) hV
    refine ax_iload dX4_machine_14 rfl ?_
    refine ax_aload_n dX4_machine_16 rfl ?_
    refine rg_4 dX4_machine_17 ?_
    refine ax_nge 80 dX4_machine_20 (by decide) (by omega) (by omega) (fun c20 => absurd c20 (by omega)) (fun c20 => ?_)
    refine ax_iload_n dX4_machine_23 rfl ?_
    refine ax_iconst (nI 2) dX4_machine_24 (by decide) ?_
    refine ax_icmp_ne 80 dX4_machine_25 (by decide) (fun c25 => absurd c25 (fun z => z hw2)) (fun c25 => ?_)
    refine ax_iconst (nI 0) dX4_machine_28 (by decide) ?_
    refine ax_istore dX4_machine_29 rfl (by decide) ?_
    exact lp_ma1 hw hm (by omega) KK (ρ.1 5 r) 0 n (Nat.zero_add _) rfl
theorem isM_n2 {m : Nat} (h : m < 6) : (decide (0 ≤ nI m) && decide (nI m ≤ 5)) = true := isM_n h
theorem ok_machine (hw : rf_ok ρ) {m : Nat} (hm : m < 6) (w : Int32) : ax_Ok mX4_machine yX4_machine 3 0 0 [ax_r (80, 0), ax_i (nI m), ax_i w] (fh c ρ) (ax_D (ax_i (rMa ρ m w)) (fh c ρ)) := by
  refine ax_Ok.of (by decide) rfl (fun q => by cases q) (Nat.le_of_ble_eq_true rfl) rfl ?_
  have h4 := rk_4 hw
  have h25 := rk_25 hw
  by_cases w2 : w = nI 2
  · skip
    refine ax_iload_n dX4_machine_0 rfl ?_
    refine ax_S1 cs_X4_108 dX4_machine_1 (ok_isMachine _) (by decide) (Nat.le_refl _) (Nat.le_refl _) (Nat.le_of_ble_eq_true rfl) ?_
    refine ax_bne 9 dX4_machine_4 (by decide) (fun c4 => ?_) (fun c4 => absurd c4 (by rw [isM_n2 hm]; simp))
    refine ax_iconst (nI 0) dX4_machine_9 (by decide) ?_
    refine ax_istore_n dX4_machine_10 rfl (by decide) ?_
    refine ax_iconst (nI 0) dX4_machine_11 (by decide) ?_
    refine ax_istore dX4_machine_12 rfl (by decide) ?_
    exact lp_ma2 hw w2 hm (N := (List.range' 0 (ρ.1 4 0)).foldl (rMc ρ m) 0) (lp_ma4 hm (fun z => by rw [rMa, if_pos z]) (fun z => by rw [rMa, if_neg (by rw [z]; decide), if_pos z]) (fun z => by rw [rMa, if_neg (by rw [w2]; decide), if_neg (by rw [w2]; decide), if_pos w2]) (fun a b c d => by rw [rMa, if_neg a, if_neg b, if_neg c, if_neg d])) (ρ.1 4 0) 0 0 (Nat.zero_add _) rfl
  · by_cases w3 : w = nI 3
    · skip
      refine ax_iload_n dX4_machine_0 rfl ?_
      refine ax_S1 cs_X4_108 dX4_machine_1 (ok_isMachine _) (by decide) (Nat.le_refl _) (Nat.le_refl _) (Nat.le_of_ble_eq_true rfl) ?_
      refine ax_bne 9 dX4_machine_4 (by decide) (fun c4 => ?_) (fun c4 => absurd c4 (by rw [isM_n2 hm]; simp))
      refine ax_iconst (nI 0) dX4_machine_9 (by decide) ?_
      refine ax_istore_n dX4_machine_10 rfl (by decide) ?_
      refine ax_iconst (nI 0) dX4_machine_11 (by decide) ?_
      refine ax_istore dX4_machine_12 rfl (by decide) ?_
      refine ax_iload dX4_machine_14 rfl ?_
      refine ax_aload_n dX4_machine_16 rfl ?_
      refine rg_4 dX4_machine_17 ?_
      refine ax_nge 80 dX4_machine_20 (by decide) (by omega) (by omega) (fun c20 => ?_) (fun c20 => ?_)
      · refine ax_iconst (nI 0) dX4_machine_80 (by decide) ?_
        refine ax_istore dX4_machine_81 rfl (by decide) ?_
        exact lp_ma3 hw w3 hm (N := rMr ρ m) (lp_ma4 hm (fun z => by rw [rMa, if_pos z]) (fun z => by rw [rMa, if_neg (by rw [z]; decide), if_pos z]) (fun z => by rw [rMa, if_neg (by rw [w3]; decide), if_neg (by rw [w3]; decide), if_neg w2, if_pos w3]) (fun a b c d => by rw [rMa, if_neg a, if_neg b, if_neg c, if_neg d])) (ρ.1 25 0) 0 0 (Nat.zero_add _) (Nat.zero_add _)
      · refine ax_iload_n dX4_machine_23 rfl ?_
        refine ax_iconst (nI 2) dX4_machine_24 (by decide) ?_
        refine ax_icmp_ne 80 dX4_machine_25 (by decide) (fun c25 => ?_) (fun c25 => absurd c25 (w2))
        refine ax_iconst (nI 0) dX4_machine_80 (by decide) ?_
        refine ax_istore dX4_machine_81 rfl (by decide) ?_
        exact lp_ma3 hw w3 hm (N := rMr ρ m) (lp_ma4 hm (fun z => by rw [rMa, if_pos z]) (fun z => by rw [rMa, if_neg (by rw [z]; decide), if_pos z]) (fun z => by rw [rMa, if_neg (by rw [w3]; decide), if_neg (by rw [w3]; decide), if_neg w2, if_pos w3]) (fun a b c d => by rw [rMa, if_neg a, if_neg b, if_neg c, if_neg d])) (ρ.1 25 0) 0 0 (Nat.zero_add _) (Nat.zero_add _)
    · skip
      refine ax_iload_n dX4_machine_0 rfl ?_
      refine ax_S1 cs_X4_108 dX4_machine_1 (ok_isMachine _) (by decide) (Nat.le_refl _) (Nat.le_refl _) (Nat.le_of_ble_eq_true rfl) ?_
      refine ax_bne 9 dX4_machine_4 (by decide) (fun c4 => ?_) (fun c4 => absurd c4 (by rw [isM_n2 hm]; simp))
      refine ax_iconst (nI 0) dX4_machine_9 (by decide) ?_
      refine ax_istore_n dX4_machine_10 rfl (by decide) ?_
      refine ax_iconst (nI 0) dX4_machine_11 (by decide) ?_
      refine ax_istore dX4_machine_12 rfl (by decide) ?_
      refine ax_iload dX4_machine_14 rfl ?_
      refine ax_aload_n dX4_machine_16 rfl ?_
      refine rg_4 dX4_machine_17 ?_
      refine ax_nge 80 dX4_machine_20 (by decide) (by omega) (by omega) (fun c20 => ?_) (fun c20 => ?_)
      · refine ax_iconst (nI 0) dX4_machine_80 (by decide) ?_
        refine ax_istore dX4_machine_81 rfl (by decide) ?_
        refine ax_iload dX4_machine_83 rfl ?_
        refine ax_aload_n dX4_machine_85 rfl ?_
        refine rg_25 dX4_machine_86 ?_
        refine ax_nge 155 dX4_machine_89 (by decide) (by omega) (by omega) (fun c89 => ?_) (fun c89 => ?_)
        · refine ax_fg [true, true, true, true, false, false] rfl ?_
          exact lp_ma4 hm (fun z => by rw [rMa, if_pos z]) (fun z => by rw [rMa, if_neg (by rw [z]; decide), if_pos z]) (fun z => by rcases z with z | z; exact absurd z w2; exact absurd z w3) (fun a b c d => by rw [rMa, if_neg a, if_neg b, if_neg c, if_neg d])
        · refine ax_iload_n dX4_machine_92 rfl ?_
          refine ax_iconst (nI 3) dX4_machine_93 (by decide) ?_
          refine ax_icmp_ne 155 dX4_machine_94 (by decide) (fun c94 => ?_) (fun c94 => absurd c94 (w3))
          refine ax_fg [true, true, true, true, false, false] rfl ?_
          exact lp_ma4 hm (fun z => by rw [rMa, if_pos z]) (fun z => by rw [rMa, if_neg (by rw [z]; decide), if_pos z]) (fun z => by rcases z with z | z; exact absurd z w2; exact absurd z w3) (fun a b c d => by rw [rMa, if_neg a, if_neg b, if_neg c, if_neg d])
      · refine ax_iload_n dX4_machine_23 rfl ?_
        refine ax_iconst (nI 2) dX4_machine_24 (by decide) ?_
        refine ax_icmp_ne 80 dX4_machine_25 (by decide) (fun c25 => ?_) (fun c25 => absurd c25 (w2))
        refine ax_iconst (nI 0) dX4_machine_80 (by decide) ?_
        refine ax_istore dX4_machine_81 rfl (by decide) ?_
        refine ax_iload dX4_machine_83 rfl ?_
        refine ax_aload_n dX4_machine_85 rfl ?_
        refine rg_25 dX4_machine_86 ?_
        refine ax_nge 155 dX4_machine_89 (by decide) (by omega) (by omega) (fun c89 => ?_) (fun c89 => ?_)
        · refine ax_fg [true, true, true, true, false, false] rfl ?_
          exact lp_ma4 hm (fun z => by rw [rMa, if_pos z]) (fun z => by rw [rMa, if_neg (by rw [z]; decide), if_pos z]) (fun z => by rcases z with z | z; exact absurd z w2; exact absurd z w3) (fun a b c d => by rw [rMa, if_neg a, if_neg b, if_neg c, if_neg d])
        · refine ax_iload_n dX4_machine_92 rfl ?_
          refine ax_iconst (nI 3) dX4_machine_93 (by decide) ?_
          refine ax_icmp_ne 155 dX4_machine_94 (by decide) (fun c94 => ?_) (fun c94 => absurd c94 (w3))
          refine ax_fg [true, true, true, true, false, false] rfl ?_
          exact lp_ma4 hm (fun z => by rw [rMa, if_pos z]) (fun z => by rw [rMa, if_neg (by rw [z]; decide), if_pos z]) (fun z => by rcases z with z | z; exact absurd z w2; exact absurd z w3) (fun a b c d => by rw [rMa, if_neg a, if_neg b, if_neg c, if_neg d])
theorem lp_un3 (hw : rf_ok ρ) {r p k : Nat} {U : Int32} (hr : r < 6) (hp : p < 6) (hk6 : k < 6) (hO : rO ρ r k = true) : ∀ (q x : Nat) (B : Bool), x + q = 8 → (List.range' x q).any (fun x => !decide (ρ.2.2 7 (8 * (6 * r + k) + x) = ρ.2.2 7 (8 * (6 * r + p) + x)) || !decide (ρ.1 8 (8 * (6 * r + k) + x) = ρ.1 8 (8 * (6 * r + p) + x))) = B → (B = true → nI r = U) → (B = false → ax_Z mX4_unlike 4 0 0 (ax_D (ax_i U) (fh c ρ)) 123 [some (ax_r (80, 0)), some (ax_i (nI r)), some (ax_i (nI p)), some (ax_i (nI k)), none, none, none] [] (fh c ρ) 0 0) → ax_Z mX4_unlike 4 0 0 (ax_D (ax_i U) (fh c ρ)) 37 [some (ax_r (80, 0)), some (ax_i (nI r)), some (ax_i (nI p)), some (ax_i (nI k)), some (ax_i (nI x)), none, none] [] (fh c ρ) 0 0 := by
  intro q
  induction q with
  | zero =>
    intro x B hk hB hU K
    have eB : B = false := by rw [← hB]; rfl
    refine ax_iload dX4_unlike_37 rfl ?_
    refine ax_bipush (nI 8) dX4_unlike_39 (by decide) ?_
    refine ax_nge 123 dX4_unlike_41 (by decide) (by omega) (by omega) (fun c41 => ?_) (fun c41 => absurd c41 (by omega))
    refine ax_fg [true, true, true, true, false, false, false] rfl ?_
    exact K eB
  | succ q ih =>
    intro x B hk hB hU K
    refine ax_iload dX4_unlike_37 rfl ?_
    refine ax_bipush (nI 8) dX4_unlike_39 (by decide) ?_
    refine ax_nge 123 dX4_unlike_41 (by decide) (by first | omega | exact rk_N hw _ _) (by first | omega | exact rk_N hw _ _) (fun c41 => absurd c41 (by omega)) (fun c41 => ?_)
    refine ax_aload_n dX4_unlike_44 rfl ?_
    refine ax_iload_n dX4_unlike_45 rfl ?_
    refine ax_iload_n dX4_unlike_46 rfl ?_
    refine ax_V2 cv_X4_96 dX4_unlike_47 fh_M rfl (ok_isOn hw hr hk6) (by decide) (Nat.le_refl _) (Nat.le_refl _) (Nat.le_of_ble_eq_true rfl) ?_
    refine ax_beq 123 dX4_unlike_50 (by decide) (fun c50 => absurd c50 (by rw [hO]; simp)) (fun c50 => ?_)
    refine ax_bipush (nI 8) dX4_unlike_53 (by decide) ?_
    refine ax_bipush (nI 6) dX4_unlike_55 (by decide) ?_
    refine ax_iload_n dX4_unlike_57 rfl ?_
    refine ax_imuln dX4_unlike_58 ?_
    refine ax_iload_n dX4_unlike_59 rfl ?_
    refine ax_iaddn dX4_unlike_60 ?_
    refine ax_imuln dX4_unlike_61 ?_
    refine ax_iload dX4_unlike_62 rfl ?_
    refine ax_iaddn dX4_unlike_64 ?_
    refine ax_istore dX4_unlike_65 rfl (by decide) ?_
    refine ax_bipush (nI 8) dX4_unlike_67 (by decide) ?_
    refine ax_bipush (nI 6) dX4_unlike_69 (by decide) ?_
    refine ax_iload_n dX4_unlike_71 rfl ?_
    refine ax_imuln dX4_unlike_72 ?_
    refine ax_iload_n dX4_unlike_73 rfl ?_
    refine ax_iaddn dX4_unlike_74 ?_
    refine ax_imuln dX4_unlike_75 ?_
    refine ax_iload dX4_unlike_76 rfl ?_
    refine ax_iaddn dX4_unlike_78 ?_
    refine ax_istore dX4_unlike_79 rfl (by decide) ?_
    refine ax_aload_n dX4_unlike_81 rfl ?_
    refine rg_7 dX4_unlike_82 ?_
    refine ax_iload dX4_unlike_85 rfl ?_
    refine rl_7 dX4_unlike_87 (by first | omega | exact rk_N hw _ _) ?_
    refine ax_aload_n dX4_unlike_88 rfl ?_
    refine rg_7 dX4_unlike_89 ?_
    refine ax_iload dX4_unlike_92 rfl ?_
    refine rl_7 dX4_unlike_94 (by first | omega | exact rk_N hw _ _) ?_
    refine ax_icmp_ne 115 dX4_unlike_95 (by decide) (fun c95 => ?_) (fun c95 => ?_)
    · refine ax_iload_n dX4_unlike_115 rfl ?_
      refine ax_iretD dX4_unlike_116 rfl ⟨(Nat.le_refl _), (Nat.le_refl _)⟩ ?_ ?_
      · exact hU (ls_y1 (by simp [c41, c50, c95]) hB)
      · rfl
    · refine ax_aload_n dX4_unlike_98 rfl ?_
      refine rg_8 dX4_unlike_99 ?_
      refine ax_iload dX4_unlike_102 rfl ?_
      refine rl_8 dX4_unlike_104 (by first | omega | exact rk_N hw _ _) ?_
      refine ax_aload_n dX4_unlike_105 rfl ?_
      refine rg_8 dX4_unlike_106 ?_
      refine ax_iload dX4_unlike_109 rfl ?_
      refine rl_8 dX4_unlike_111 (by first | omega | exact rk_N hw _ _) ?_
      refine ax_neq 117 dX4_unlike_112 (by decide) (by first | omega | exact rk_N hw _ _) (by first | omega | exact rk_N hw _ _) (fun c112 => ?_) (fun c112 => ?_)
      · refine ax_iincn (n := 1) dX4_unlike_117 rfl (by decide) rfl ?_
        refine ax_goto 37 dX4_unlike_120 (by decide) ?_
        refine ax_fg [true, true, true, true, true, false, false] rfl ?_
        exact ih (x + 1) B (by omega) (ls_y0 (by simp [c41, c50, c95, c112]) hB) hU K
      · refine ax_iload_n dX4_unlike_115 rfl ?_
        refine ax_iretD dX4_unlike_116 rfl ⟨(Nat.le_refl _), (Nat.le_refl _)⟩ ?_ ?_
        · exact hU (ls_y1 (by simp [c41, c50, c95, c112]) hB)
        · rfl
theorem lp_un2 (hw : rf_ok ρ) {r p : Nat} {U : Int32} (hr : r < 6) (hp : p < 6) : ∀ (q k : Nat) (B : Bool), k + q = ρ.1 5 r → (List.range' k q).any (fun k => rUk ρ r k p) = B → (B = true → nI r = U) → (B = false → ax_Z mX4_unlike 4 0 0 (ax_D (ax_i U) (fh c ρ)) 129 [some (ax_r (80, 0)), some (ax_i (nI r)), some (ax_i (nI p)), none, none, none, none] [] (fh c ρ) 0 0) → ax_Z mX4_unlike 4 0 0 (ax_D (ax_i U) (fh c ρ)) 18 [some (ax_r (80, 0)), some (ax_i (nI r)), some (ax_i (nI p)), some (ax_i (nI k)), none, none, none] [] (fh c ρ) 0 0 := by
  intro q
  induction q with
  | zero =>
    intro k B hk hB hU K
    have h5 := rk_5 hw r
    have eB : B = false := by rw [← hB]; rfl
    refine ax_iload_n dX4_unlike_18 rfl ?_
    refine ax_aload_n dX4_unlike_19 rfl ?_
    refine rg_5 dX4_unlike_20 ?_
    refine ax_iload_n dX4_unlike_23 rfl ?_
    refine rl_5 dX4_unlike_24 (by omega) ?_
    refine ax_nge 129 dX4_unlike_25 (by decide) (by omega) (by omega) (fun c25 => ?_) (fun c25 => absurd c25 (by omega))
    refine ax_fg [true, true, true, false, false, false, false] rfl ?_
    exact K eB
  | succ q ih =>
    intro k B hk hB hU K
    have h5 := rk_5 hw r
    have hsp : rUk ρ r k p = false → ax_Z mX4_unlike 4 0 0 (ax_D (ax_i U) (fh c ρ)) 123 [some (ax_r (80, 0)), some (ax_i (nI r)), some (ax_i (nI p)), some (ax_i (nI k)), none, none, none] [] (fh c ρ) 0 0 := by
      intro hf
      refine ax_iincn (n := 1) dX4_unlike_123 rfl (by decide) rfl ?_
      refine ax_goto 18 dX4_unlike_126 (by decide) ?_
      exact ih (k + 1) B (by omega) (ls_y0 hf hB) hU K
    cases hO : rO ρ r k with
    | false =>
      refine ax_iload_n dX4_unlike_18 rfl ?_
      refine ax_aload_n dX4_unlike_19 rfl ?_
      refine rg_5 dX4_unlike_20 ?_
      refine ax_iload_n dX4_unlike_23 rfl ?_
      refine rl_5 dX4_unlike_24 (by omega) ?_
      refine ax_nge 129 dX4_unlike_25 (by decide) (by omega) (by omega) (fun c25 => absurd c25 (by omega)) (fun c25 => ?_)
      refine ax_iload_n dX4_unlike_28 rfl ?_
      refine ax_bipush (-9) dX4_unlike_29 (by decide) ?_
      refine ax_icmp_eq 129 dX4_unlike_31 (by decide) (fun c31 => absurd c31 (nI_n9 (by omega))) (fun c31 => ?_)
      refine ax_iconst (nI 0) dX4_unlike_34 (by decide) ?_
      refine ax_istore dX4_unlike_35 rfl (by decide) ?_
      refine ax_iload dX4_unlike_37 rfl ?_
      refine ax_bipush (nI 8) dX4_unlike_39 (by decide) ?_
      refine ax_nge 123 dX4_unlike_41 (by decide) (by omega) (by omega) (fun c41 => absurd c41 (by decide)) (fun c41 => ?_)
      refine ax_aload_n dX4_unlike_44 rfl ?_
      refine ax_iload_n dX4_unlike_45 rfl ?_
      refine ax_iload_n dX4_unlike_46 rfl ?_
      refine ax_V2 cv_X4_96 dX4_unlike_47 fh_M rfl (ok_isOn hw hr (by omega)) (by decide) (Nat.le_refl _) (Nat.le_refl _) (Nat.le_of_ble_eq_true rfl) ?_
      refine ax_beq 123 dX4_unlike_50 (by decide) (fun c50 => ?_) (fun c50 => absurd c50 (by rw [hO]; simp))
      refine ax_fg [true, true, true, true, false, false, false] rfl ?_
      exact hsp (by simp [rUk, hO])
    | true =>
      refine ax_iload_n dX4_unlike_18 rfl ?_
      refine ax_aload_n dX4_unlike_19 rfl ?_
      refine rg_5 dX4_unlike_20 ?_
      refine ax_iload_n dX4_unlike_23 rfl ?_
      refine rl_5 dX4_unlike_24 (by omega) ?_
      refine ax_nge 129 dX4_unlike_25 (by decide) (by omega) (by omega) (fun c25 => absurd c25 (by omega)) (fun c25 => ?_)
      refine ax_iload_n dX4_unlike_28 rfl ?_
      refine ax_bipush (-9) dX4_unlike_29 (by decide) ?_
      refine ax_icmp_eq 129 dX4_unlike_31 (by decide) (fun c31 => absurd c31 (nI_n9 (by omega))) (fun c31 => ?_)
      refine ax_iconst (nI 0) dX4_unlike_34 (by decide) ?_
      refine ax_istore dX4_unlike_35 rfl (by decide) ?_
      exact lp_un3 hw hr hp (by omega) hO 8 0 _ rfl rfl (fun z => hU (ls_y1 (p := fun k => rUk ρ r k p) (by simp only [rUk, hO, Bool.true_and]; exact z) hB)) (fun z => hsp (by simp only [rUk, hO, Bool.true_and]; exact z))
theorem lp_un1 (hw : rf_ok ρ) : ∀ (q r : Nat) (V : Option Nat), r + q = ρ.1 4 0 → (List.range' r q).find? (rUr ρ) = V → ax_Z mX4_unlike 4 0 0 (ax_D (ax_i (oI V)) (fh c ρ)) 2 [some (ax_r (80, 0)), some (ax_i (nI r)), none, none, none, none, none] [] (fh c ρ) 0 0 := by
  intro q
  induction q with
  | zero =>
    intro r V hk hV
    have h4 := rk_4 hw
    refine ax_iload_n dX4_unlike_2 rfl ?_
    refine ax_aload_n dX4_unlike_3 rfl ?_
    refine rg_4 dX4_unlike_4 ?_
    refine ax_nge 135 dX4_unlike_7 (by decide) (by omega) (by omega) (fun c7 => ?_) (fun c7 => absurd c7 (by omega))
    refine ax_bipush (-9) dX4_unlike_135 (by decide) ?_
    refine ax_iretD dX4_unlike_137 rfl ⟨(Nat.le_refl _), (Nat.le_refl _)⟩ ?_ ?_
    · rw [ls_d2 hV]; rfl
    · rfl
  | succ q ih =>
    intro r V hk hV
    have h4 := rk_4 hw
    have h5 := rk_5 hw r
    cases hp : (rL ρ r)[0]? with
    | none =>
      refine ax_iload_n dX4_unlike_2 rfl ?_
      refine ax_aload_n dX4_unlike_3 rfl ?_
      refine rg_4 dX4_unlike_4 ?_
      refine ax_nge 135 dX4_unlike_7 (by decide) (by omega) (by omega) (fun c7 => absurd c7 (by omega)) (fun c7 => ?_)
      refine ax_aload_n dX4_unlike_10 rfl ?_
      refine ax_iload_n dX4_unlike_11 rfl ?_
      refine ax_V1 cv_X4_124 dX4_unlike_12 fh_M rfl (ok_primary hw (by omega)) (by decide) (Nat.le_refl _) (Nat.le_refl _) (Nat.le_of_ble_eq_true rfl) ?_
      rw [hp]
      refine ax_istore_n dX4_unlike_15 rfl (by decide) ?_
      refine ax_iconst (nI 0) dX4_unlike_16 (by decide) ?_
      refine ax_istore_n dX4_unlike_17 rfl (by decide) ?_
      refine ax_iload_n dX4_unlike_18 rfl ?_
      refine ax_aload_n dX4_unlike_19 rfl ?_
      refine rg_5 dX4_unlike_20 ?_
      refine ax_iload_n dX4_unlike_23 rfl ?_
      refine rl_5 dX4_unlike_24 (by omega) ?_
      refine ax_nge 129 dX4_unlike_25 (by decide) (by omega) (by omega) (fun c25 => ?_) (fun c25 => ?_)
      · refine ax_iincn (n := 1) dX4_unlike_129 rfl (by decide) rfl ?_
        refine ax_goto 2 dX4_unlike_132 (by decide) ?_
        refine ax_fg [true, true, false, false, false, false, false] rfl ?_
        exact ih (r + 1) V (by omega) (ls_d0 (by simp [rUr, hp]) hV)
      · refine ax_iload_n dX4_unlike_28 rfl ?_
        refine ax_bipush (-9) dX4_unlike_29 (by decide) ?_
        refine ax_icmp_eq 129 dX4_unlike_31 (by decide) (fun c31 => ?_) (fun c31 => absurd c31 (fun z => z rfl))
        refine ax_iincn (n := 1) dX4_unlike_129 rfl (by decide) rfl ?_
        refine ax_goto 2 dX4_unlike_132 (by decide) ?_
        refine ax_fg [true, true, false, false, false, false, false] rfl ?_
        exact ih (r + 1) V (by omega) (ls_d0 (by simp [rUr, hp]) hV)
    | some p =>
      have h1 := List.mem_range'_1.mp (List.mem_filter.mp (List.mem_of_getElem? hp)).1
      have hsp : rUr ρ r = false → ax_Z mX4_unlike 4 0 0 (ax_D (ax_i (oI V)) (fh c ρ)) 129 [some (ax_r (80, 0)), some (ax_i (nI r)), some (ax_i (nI p)), none, none, none, none] [] (fh c ρ) 0 0 := by
        intro hf
        refine ax_iincn (n := 1) dX4_unlike_129 rfl (by decide) rfl ?_
        refine ax_goto 2 dX4_unlike_132 (by decide) ?_
        refine ax_fg [true, true, false, false, false, false, false] rfl ?_
        exact ih (r + 1) V (by omega) (ls_d0 hf hV)
      refine ax_iload_n dX4_unlike_2 rfl ?_
      refine ax_aload_n dX4_unlike_3 rfl ?_
      refine rg_4 dX4_unlike_4 ?_
      refine ax_nge 135 dX4_unlike_7 (by decide) (by omega) (by omega) (fun c7 => absurd c7 (by omega)) (fun c7 => ?_)
      refine ax_aload_n dX4_unlike_10 rfl ?_
      refine ax_iload_n dX4_unlike_11 rfl ?_
      refine ax_V1 cv_X4_124 dX4_unlike_12 fh_M rfl (ok_primary hw (by omega)) (by decide) (Nat.le_refl _) (Nat.le_refl _) (Nat.le_of_ble_eq_true rfl) ?_
      rw [hp, show oI (some p) = nI p from rfl]
      refine ax_istore_n dX4_unlike_15 rfl (by decide) ?_
      refine ax_iconst (nI 0) dX4_unlike_16 (by decide) ?_
      refine ax_istore_n dX4_unlike_17 rfl (by decide) ?_
      exact lp_un2 hw (by omega) (by omega) (ρ.1 5 r) 0 _ (Nat.zero_add _) rfl (fun z => by rw [ls_d1 (p := rUr ρ) (by simp only [rUr, hp]; exact z) hV]; rfl) (fun z => hsp (by simp only [rUr, hp]; exact z))
theorem ok_unlike (hw : rf_ok ρ) : ax_Ok mX4_unlike yX4_unlike 4 0 0 [ax_r (80, 0)] (fh c ρ) (ax_D (ax_i (rUn ρ)) (fh c ρ)) := by
  refine ax_Ok.of (by decide) rfl (fun q => by cases q) (Nat.le_of_ble_eq_true rfl) rfl ?_
  refine ax_iconst (nI 0) dX4_unlike_0 (by decide) ?_
  refine ax_istore_n dX4_unlike_1 rfl (by decide) ?_
  exact lp_un1 hw (ρ.1 4 0) 0 _ (Nat.zero_add _) rfl
end REFM
