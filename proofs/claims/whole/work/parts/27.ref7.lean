def isM (x : Int32) : Bool := decide (0 ≤ x) && decide (x ≤ 5)
theorem isM_n {m : Nat} (h : m < 6) : isM (nI m) = true := rf_in5.mpr ⟨m, h, rfl⟩
theorem isM_9 : isM (-9) = false := by decide
/-- region(): the numbers are no machines -/
def rgU (a b c : Int32) : Bool := !isM a || (!decide (b = -9) && !isM b) || (!decide (c = -9) && (!isM c || decide (b = -9)))
def rRg (ρ : ax_R) (a : Nat) : Int32 × ax_R := if ρ.2.1 1 a = false then (-3, ρ) else if ρ.1 4 0 = 6 then (-4, ρ) else (nI (ρ.1 4 0), nu (nu (nu ρ 4 0 (ρ.1 4 0 + 1)) 6 (6 * ρ.1 4 0) a) 5 (ρ.1 4 0) 1)
def rRg2 (ρ : ax_R) (a b : Nat) : Int32 × ax_R := if a = b ∨ ρ.2.1 1 a = false ∨ ρ.2.1 1 b = false then (-3, ρ) else if ρ.1 4 0 = 6 then (-4, ρ) else
  (nI (ρ.1 4 0), nu (nu (nu (nu (nu ρ 4 0 (ρ.1 4 0 + 1)) 6 (6 * ρ.1 4 0) a) 5 (ρ.1 4 0) 1) 6 (6 * ρ.1 4 0 + 1) b) 5 (ρ.1 4 0) 2)
def rRg3 (ρ : ax_R) (a b c : Nat) : Int32 × ax_R := if a = b ∨ a = c ∨ b = c ∨ ρ.2.1 1 a = false ∨ ρ.2.1 1 b = false ∨ ρ.2.1 1 c = false then (-3, ρ) else if ρ.1 4 0 = 6 then (-4, ρ) else
  (nI (ρ.1 4 0), nu (nu (nu (nu (nu (nu (nu ρ 4 0 (ρ.1 4 0 + 1)) 6 (6 * ρ.1 4 0) a) 5 (ρ.1 4 0) 1) 6 (6 * ρ.1 4 0 + 1) b) 5 (ρ.1 4 0) 2) 6 (6 * ρ.1 4 0 + 2) c) 5 (ρ.1 4 0) 3)
def rHt (ρ : ax_R) (r : Nat) : Bool := (List.range' 0 (ρ.1 5 r)).any fun k => ρ.2.1 2 (ρ.1 6 (6 * r + k)) && !ρ.2.1 1 (ρ.1 6 (6 * r + k))
def rRc (ρ : ax_R) (t : Nat) : Bool := !ρ.2.1 1 (ρ.1 11 t) || (rI ρ t).any fun i => ρ.2.1 22 i && rHt ρ (ρ.1 18 i)
section REFM
variable {c : ax_H} {ρ : ax_R}
theorem ok_region0 {x y z : Int32} (hu : rgU x y z = true) : ax_Ok mX4_region yX4_region 3 0 0 [ax_r (80, 0), ax_i x, ax_i y, ax_i z] (fh c ρ) (ax_D (ax_i (-1)) (fh c ρ)) := by
  refine ax_Ok.of (by decide) rfl (fun q => by cases q) (Nat.le_of_ble_eq_true rfl) rfl ?_
  refine ax_iload_n dX4_region_0 rfl ?_
  refine ax_S1 cs_X4_108 dX4_region_1 (ok_isMachine _) (by decide) (Nat.le_refl _) (Nat.le_refl _) (Nat.le_of_ble_eq_true rfl) ?_
  refine ax_beq 39 dX4_region_4 (by decide) (fun c4 => ?_) (fun c4 => ?_)
  · refine ax_iconst (-1) dX4_region_39 (by decide) ?_
    refine ax_iretD dX4_region_40 rfl ⟨(Nat.le_refl _), (Nat.le_refl _)⟩ ?_ ?_
    · rfl
    · rfl
  · refine ax_iload_n dX4_region_7 rfl ?_
    refine ax_bipush (-9) dX4_region_8 (by decide) ?_
    refine ax_icmp_eq 20 dX4_region_10 (by decide) (fun c10 => ?_) (fun c10 => ?_)
    · refine ax_iload_n dX4_region_20 rfl ?_
      refine ax_bipush (-9) dX4_region_21 (by decide) ?_
      refine ax_icmp_eq 41 dX4_region_23 (by decide) (fun c23 => ?_) (fun c23 => ?_)
      · first | contradiction | exact absurd hu (by simp [rgU, isM, c4, c10, c23])
      · refine ax_iload_n dX4_region_26 rfl ?_
        refine ax_S1 cs_X4_108 dX4_region_27 (ok_isMachine _) (by decide) (Nat.le_refl _) (Nat.le_refl _) (Nat.le_of_ble_eq_true rfl) ?_
        refine ax_beq 39 dX4_region_30 (by decide) (fun c30 => ?_) (fun c30 => ?_)
        · refine ax_iconst (-1) dX4_region_39 (by decide) ?_
          refine ax_iretD dX4_region_40 rfl ⟨(Nat.le_refl _), (Nat.le_refl _)⟩ ?_ ?_
          · rfl
          · rfl
        · refine ax_iload_n dX4_region_33 rfl ?_
          refine ax_bipush (-9) dX4_region_34 (by decide) ?_
          refine ax_icmp_ne 41 dX4_region_36 (by decide) (fun c36 => ?_) (fun c36 => ?_)
          · first | contradiction | exact absurd hu (by simp [rgU, isM, c4, c10, c23, c30, c36])
          · refine ax_iconst (-1) dX4_region_39 (by decide) ?_
            refine ax_iretD dX4_region_40 rfl ⟨(Nat.le_refl _), (Nat.le_refl _)⟩ ?_ ?_
            · rfl
            · rfl
    · refine ax_iload_n dX4_region_13 rfl ?_
      refine ax_S1 cs_X4_108 dX4_region_14 (ok_isMachine _) (by decide) (Nat.le_refl _) (Nat.le_refl _) (Nat.le_of_ble_eq_true rfl) ?_
      refine ax_beq 39 dX4_region_17 (by decide) (fun c17 => ?_) (fun c17 => ?_)
      · refine ax_iconst (-1) dX4_region_39 (by decide) ?_
        refine ax_iretD dX4_region_40 rfl ⟨(Nat.le_refl _), (Nat.le_refl _)⟩ ?_ ?_
        · rfl
        · rfl
      · refine ax_iload_n dX4_region_20 rfl ?_
        refine ax_bipush (-9) dX4_region_21 (by decide) ?_
        refine ax_icmp_eq 41 dX4_region_23 (by decide) (fun c23 => ?_) (fun c23 => ?_)
        · first | contradiction | exact absurd hu (by simp [rgU, isM, c4, c10, c17, c23])
        · refine ax_iload_n dX4_region_26 rfl ?_
          refine ax_S1 cs_X4_108 dX4_region_27 (ok_isMachine _) (by decide) (Nat.le_refl _) (Nat.le_refl _) (Nat.le_of_ble_eq_true rfl) ?_
          refine ax_beq 39 dX4_region_30 (by decide) (fun c30 => ?_) (fun c30 => ?_)
          · refine ax_iconst (-1) dX4_region_39 (by decide) ?_
            refine ax_iretD dX4_region_40 rfl ⟨(Nat.le_refl _), (Nat.le_refl _)⟩ ?_ ?_
            · rfl
            · rfl
          · refine ax_iload_n dX4_region_33 rfl ?_
            refine ax_bipush (-9) dX4_region_34 (by decide) ?_
            refine ax_icmp_ne 41 dX4_region_36 (by decide) (fun c36 => ?_) (fun c36 => ?_)
            · first | contradiction | exact absurd hu (by simp [rgU, isM, c4, c10, c17, c23, c30, c36])
            · refine ax_iconst (-1) dX4_region_39 (by decide) ?_
              refine ax_iretD dX4_region_40 rfl ⟨(Nat.le_refl _), (Nat.le_refl _)⟩ ?_ ?_
              · rfl
              · rfl
theorem ok_region1 (hw : rf_ok ρ) {a : Nat} (ha : a < 6) : ax_Ok mX4_region yX4_region 3 0 0 [ax_r (80, 0), ax_i (nI a), ax_i (-9), ax_i (-9)] (fh c ρ) (ax_D (ax_i (rRg ρ a).1) (fh c (rRg ρ a).2)) := by
  refine ax_Ok.of (by decide) rfl (fun q => by cases q) (Nat.le_of_ble_eq_true rfl) rfl ?_
  have h4 := rk_4 hw
  have isMa : (decide (0 ≤ nI a) && decide (nI a ≤ 5)) = true := isM_n ha
  refine ax_iload_n dX4_region_0 rfl ?_
  refine ax_S1 cs_X4_108 dX4_region_1 (ok_isMachine _) (by decide) (Nat.le_refl _) (Nat.le_refl _) (Nat.le_of_ble_eq_true rfl) ?_
  refine ax_beq 39 dX4_region_4 (by decide) (fun c4 => absurd c4 (by rw [isMa]; simp)) (fun c4 => ?_)
  refine ax_iload_n dX4_region_7 rfl ?_
  refine ax_bipush (-9) dX4_region_8 (by decide) ?_
  refine ax_icmp_eq 20 dX4_region_10 (by decide) (fun c10 => ?_) (fun c10 => absurd c10 (fun z => z rfl))
  refine ax_iload_n dX4_region_20 rfl ?_
  refine ax_bipush (-9) dX4_region_21 (by decide) ?_
  refine ax_icmp_eq 41 dX4_region_23 (by decide) (fun c23 => ?_) (fun c23 => absurd c23 (fun z => z rfl))
  refine ax_iload_n dX4_region_41 rfl ?_
  refine ax_iload_n dX4_region_42 rfl ?_
  refine ax_icmp_eq 71 dX4_region_43 (by decide) (fun c43 => absurd c43 (nI_n9 (by omega))) (fun c43 => ?_)
  refine ax_iload_n dX4_region_46 rfl ?_
  refine ax_iload_n dX4_region_47 rfl ?_
  refine ax_icmp_eq 71 dX4_region_48 (by decide) (fun c48 => absurd c48 (nI_n9 (by omega))) (fun c48 => ?_)
  refine ax_iload_n dX4_region_51 rfl ?_
  refine ax_iload_n dX4_region_52 rfl ?_
  refine ax_icmp_ne 62 dX4_region_53 (by decide) (fun c53 => absurd c53 (fun z => z rfl)) (fun c53 => ?_)
  refine ax_iload_n dX4_region_56 rfl ?_
  refine ax_bipush (-9) dX4_region_57 (by decide) ?_
  refine ax_icmp_ne 71 dX4_region_59 (by decide) (fun c59 => absurd c59 (fun z => z rfl)) (fun c59 => ?_)
  refine ax_aload_n dX4_region_62 rfl ?_
  refine rg_1 dX4_region_63 ?_
  refine ax_iload_n dX4_region_66 rfl ?_
  refine rl_1 dX4_region_67 (by omega) ?_
  refine ax_bne 75 dX4_region_68 (by decide) (fun c68 => ?_) (fun c68 => ?_)
  · refine ax_iconst (ax_b false) dX4_region_75 (by decide) ?_
    refine ax_istore dX4_region_76 rfl (by decide) ?_
    refine ax_iload dX4_region_78 rfl ?_
    refine ax_bne 98 dX4_region_80 (by decide) (fun c80 => absurd c80 (by decide)) (fun c80 => ?_)
    refine ax_iload_n dX4_region_83 rfl ?_
    refine ax_bipush (-9) dX4_region_84 (by decide) ?_
    refine ax_icmp_eq 102 dX4_region_86 (by decide) (fun c86 => ?_) (fun c86 => absurd c86 (fun z => z rfl))
    refine ax_iconst (ax_b false) dX4_region_102 (by decide) ?_
    refine ax_istore dX4_region_103 rfl (by decide) ?_
    refine ax_iload dX4_region_105 rfl ?_
    refine ax_bne 125 dX4_region_107 (by decide) (fun c107 => absurd c107 (by decide)) (fun c107 => ?_)
    refine ax_iload_n dX4_region_110 rfl ?_
    refine ax_bipush (-9) dX4_region_111 (by decide) ?_
    refine ax_icmp_eq 129 dX4_region_113 (by decide) (fun c113 => ?_) (fun c113 => absurd c113 (fun z => z rfl))
    refine ax_iconst (ax_b false) dX4_region_129 (by decide) ?_
    refine ax_istore dX4_region_130 rfl (by decide) ?_
    refine ax_iload dX4_region_132 rfl ?_
    refine ax_beq 140 dX4_region_134 (by decide) (fun c134 => ?_) (fun c134 => absurd c134 (by decide))
    refine ax_aload_n dX4_region_140 rfl ?_
    refine rg_4 dX4_region_141 ?_
    refine ax_bipush (nI 6) dX4_region_144 (by decide) ?_
    refine ax_nne 152 dX4_region_146 (by decide) (by omega) (by omega) (fun c146 => ?_) (fun c146 => ?_)
    · refine ax_aload_n dX4_region_152 rfl ?_
      refine rg_4 dX4_region_153 ?_
      refine ax_istore dX4_region_156 rfl (by decide) ?_
      refine ax_aload_n dX4_region_158 rfl ?_
      refine ax_dup dX4_region_159 rfl ?_
      refine rg_4 dX4_region_160 ?_
      refine ax_iconst (nI 1) dX4_region_163 (by decide) ?_
      refine ax_iaddn dX4_region_164 ?_
      refine rp_4 dX4_region_165 ?_
      refine ax_aload_n dX4_region_168 rfl ?_
      refine rg_6 dX4_region_169 ?_
      refine ax_bipush (nI 6) dX4_region_172 (by decide) ?_
      refine ax_iload dX4_region_174 rfl ?_
      refine ax_imuln dX4_region_176 ?_
      refine ax_iload_n dX4_region_177 rfl ?_
      refine rs_6 dX4_region_178 (by omega) ?_
      refine ax_aload_n dX4_region_179 rfl ?_
      refine rg_5 dX4_region_180 ?_
      refine ax_iload dX4_region_183 rfl ?_
      refine ax_iconst (nI 1) dX4_region_185 (by decide) ?_
      refine rs_5 dX4_region_186 (by omega) ?_
      refine ax_iload_n dX4_region_187 rfl ?_
      refine ax_bipush (-9) dX4_region_188 (by decide) ?_
      refine ax_icmp_eq 214 dX4_region_190 (by decide) (fun c190 => ?_) (fun c190 => absurd c190 (fun z => z rfl))
      refine ax_iload_n dX4_region_214 rfl ?_
      refine ax_bipush (-9) dX4_region_215 (by decide) ?_
      refine ax_icmp_eq 241 dX4_region_217 (by decide) (fun c217 => ?_) (fun c217 => absurd c217 (fun z => z rfl))
      refine ax_iload dX4_region_241 rfl ?_
      refine ax_iretD dX4_region_243 rfl ⟨(Nat.le_refl _), (Nat.le_refl _)⟩ ?_ ?_
      · simp [rRg, c4, c10, c23, c43, c48, c53, c59, c68, c80, c86, c107, c113, c134, c146, c190, c217]
      · simp [rRg, c4, c10, c23, c43, c48, c53, c59, c68, c80, c86, c107, c113, c134, c146, c190, c217]
    · refine ax_bipush (-4) dX4_region_149 (by decide) ?_
      refine ax_iretD dX4_region_151 rfl ⟨(Nat.le_refl _), (Nat.le_refl _)⟩ ?_ ?_
      · simp [rRg, c4, c10, c23, c43, c48, c53, c59, c68, c80, c86, c107, c113, c134, c146]
      · simp [rRg, c4, c10, c23, c43, c48, c53, c59, c68, c80, c86, c107, c113, c134, c146]
  · refine ax_iconst (ax_b true) dX4_region_71 (by decide) ?_
    refine ax_goto 76 dX4_region_72 (by decide) ?_
    refine ax_istore dX4_region_76 rfl (by decide) ?_
    refine ax_iload dX4_region_78 rfl ?_
    refine ax_bne 98 dX4_region_80 (by decide) (fun c80 => ?_) (fun c80 => absurd c80 (by decide))
    refine ax_iconst (ax_b true) dX4_region_98 (by decide) ?_
    refine ax_goto 103 dX4_region_99 (by decide) ?_
    refine ax_istore dX4_region_103 rfl (by decide) ?_
    refine ax_iload dX4_region_105 rfl ?_
    refine ax_bne 125 dX4_region_107 (by decide) (fun c107 => ?_) (fun c107 => absurd c107 (by decide))
    refine ax_iconst (ax_b true) dX4_region_125 (by decide) ?_
    refine ax_goto 130 dX4_region_126 (by decide) ?_
    refine ax_istore dX4_region_130 rfl (by decide) ?_
    refine ax_iload dX4_region_132 rfl ?_
    refine ax_beq 140 dX4_region_134 (by decide) (fun c134 => absurd c134 (by decide)) (fun c134 => ?_)
    refine ax_bipush (-3) dX4_region_137 (by decide) ?_
    refine ax_iretD dX4_region_139 rfl ⟨(Nat.le_refl _), (Nat.le_refl _)⟩ ?_ ?_
    · simp [rRg, c4, c10, c23, c43, c48, c53, c59, c68, c80, c107, c134]
    · simp [rRg, c4, c10, c23, c43, c48, c53, c59, c68, c80, c107, c134]
theorem ok_region2 (hw : rf_ok ρ) {a b : Nat} (ha : a < 6) (hb : b < 6) : ax_Ok mX4_region yX4_region 3 0 0 [ax_r (80, 0), ax_i (nI a), ax_i (nI b), ax_i (-9)] (fh c ρ) (ax_D (ax_i (rRg2 ρ a b).1) (fh c (rRg2 ρ a b).2)) := by
  refine ax_Ok.of (by decide) rfl (fun q => by cases q) (Nat.le_of_ble_eq_true rfl) rfl ?_
  have h4 := rk_4 hw
  have isMa : (decide (0 ≤ nI a) && decide (nI a ≤ 5)) = true := isM_n ha
  have isMb : (decide (0 ≤ nI b) && decide (nI b ≤ 5)) = true := isM_n hb
  refine ax_iload_n dX4_region_0 rfl ?_
  refine ax_S1 cs_X4_108 dX4_region_1 (ok_isMachine _) (by decide) (Nat.le_refl _) (Nat.le_refl _) (Nat.le_of_ble_eq_true rfl) ?_
  refine ax_beq 39 dX4_region_4 (by decide) (fun c4 => absurd c4 (by rw [isMa]; simp)) (fun c4 => ?_)
  refine ax_iload_n dX4_region_7 rfl ?_
  refine ax_bipush (-9) dX4_region_8 (by decide) ?_
  refine ax_icmp_eq 20 dX4_region_10 (by decide) (fun c10 => absurd c10 (nI_n9 (by omega))) (fun c10 => ?_)
  refine ax_iload_n dX4_region_13 rfl ?_
  refine ax_S1 cs_X4_108 dX4_region_14 (ok_isMachine _) (by decide) (Nat.le_refl _) (Nat.le_refl _) (Nat.le_of_ble_eq_true rfl) ?_
  refine ax_beq 39 dX4_region_17 (by decide) (fun c17 => absurd c17 (by rw [isMb]; simp)) (fun c17 => ?_)
  refine ax_iload_n dX4_region_20 rfl ?_
  refine ax_bipush (-9) dX4_region_21 (by decide) ?_
  refine ax_icmp_eq 41 dX4_region_23 (by decide) (fun c23 => ?_) (fun c23 => absurd c23 (fun z => z rfl))
  refine ax_iload_n dX4_region_41 rfl ?_
  refine ax_iload_n dX4_region_42 rfl ?_
  refine ax_neq 71 dX4_region_43 (by decide) (by omega) (by omega) (fun c43 => ?_) (fun c43 => ?_)
  · refine ax_iconst (ax_b true) dX4_region_71 (by decide) ?_
    refine ax_goto 76 dX4_region_72 (by decide) ?_
    refine ax_istore dX4_region_76 rfl (by decide) ?_
    refine ax_iload dX4_region_78 rfl ?_
    refine ax_bne 98 dX4_region_80 (by decide) (fun c80 => ?_) (fun c80 => absurd c80 (by decide))
    refine ax_iconst (ax_b true) dX4_region_98 (by decide) ?_
    refine ax_goto 103 dX4_region_99 (by decide) ?_
    refine ax_istore dX4_region_103 rfl (by decide) ?_
    refine ax_iload dX4_region_105 rfl ?_
    refine ax_bne 125 dX4_region_107 (by decide) (fun c107 => ?_) (fun c107 => absurd c107 (by decide))
    refine ax_iconst (ax_b true) dX4_region_125 (by decide) ?_
    refine ax_goto 130 dX4_region_126 (by decide) ?_
    refine ax_istore dX4_region_130 rfl (by decide) ?_
    refine ax_iload dX4_region_132 rfl ?_
    refine ax_beq 140 dX4_region_134 (by decide) (fun c134 => absurd c134 (by decide)) (fun c134 => ?_)
    refine ax_bipush (-3) dX4_region_137 (by decide) ?_
    refine ax_iretD dX4_region_139 rfl ⟨(Nat.le_refl _), (Nat.le_refl _)⟩ ?_ ?_
    · simp [rRg2, c4, c10, c17, c23, c43, c80, c107, c134]
    · simp [rRg2, c4, c10, c17, c23, c43, c80, c107, c134]
  · refine ax_iload_n dX4_region_46 rfl ?_
    refine ax_iload_n dX4_region_47 rfl ?_
    refine ax_icmp_eq 71 dX4_region_48 (by decide) (fun c48 => absurd c48 (nI_n9 (by omega))) (fun c48 => ?_)
    refine ax_iload_n dX4_region_51 rfl ?_
    refine ax_iload_n dX4_region_52 rfl ?_
    refine ax_icmp_ne 62 dX4_region_53 (by decide) (fun c53 => ?_) (fun c53 => absurd c53 (fun z => nI_n9 (by omega) z))
    refine ax_aload_n dX4_region_62 rfl ?_
    refine rg_1 dX4_region_63 ?_
    refine ax_iload_n dX4_region_66 rfl ?_
    refine rl_1 dX4_region_67 (by omega) ?_
    refine ax_bne 75 dX4_region_68 (by decide) (fun c68 => ?_) (fun c68 => ?_)
    · refine ax_iconst (ax_b false) dX4_region_75 (by decide) ?_
      refine ax_istore dX4_region_76 rfl (by decide) ?_
      refine ax_iload dX4_region_78 rfl ?_
      refine ax_bne 98 dX4_region_80 (by decide) (fun c80 => absurd c80 (by decide)) (fun c80 => ?_)
      refine ax_iload_n dX4_region_83 rfl ?_
      refine ax_bipush (-9) dX4_region_84 (by decide) ?_
      refine ax_icmp_eq 102 dX4_region_86 (by decide) (fun c86 => absurd c86 (nI_n9 (by omega))) (fun c86 => ?_)
      refine ax_aload_n dX4_region_89 rfl ?_
      refine rg_1 dX4_region_90 ?_
      refine ax_iload_n dX4_region_93 rfl ?_
      refine rl_1 dX4_region_94 (by omega) ?_
      refine ax_bne 102 dX4_region_95 (by decide) (fun c95 => ?_) (fun c95 => ?_)
      · refine ax_iconst (ax_b false) dX4_region_102 (by decide) ?_
        refine ax_istore dX4_region_103 rfl (by decide) ?_
        refine ax_iload dX4_region_105 rfl ?_
        refine ax_bne 125 dX4_region_107 (by decide) (fun c107 => absurd c107 (by decide)) (fun c107 => ?_)
        refine ax_iload_n dX4_region_110 rfl ?_
        refine ax_bipush (-9) dX4_region_111 (by decide) ?_
        refine ax_icmp_eq 129 dX4_region_113 (by decide) (fun c113 => ?_) (fun c113 => absurd c113 (fun z => z rfl))
        refine ax_iconst (ax_b false) dX4_region_129 (by decide) ?_
        refine ax_istore dX4_region_130 rfl (by decide) ?_
        refine ax_iload dX4_region_132 rfl ?_
        refine ax_beq 140 dX4_region_134 (by decide) (fun c134 => ?_) (fun c134 => absurd c134 (by decide))
        refine ax_aload_n dX4_region_140 rfl ?_
        refine rg_4 dX4_region_141 ?_
        refine ax_bipush (nI 6) dX4_region_144 (by decide) ?_
        refine ax_nne 152 dX4_region_146 (by decide) (by omega) (by omega) (fun c146 => ?_) (fun c146 => ?_)
        · refine ax_aload_n dX4_region_152 rfl ?_
          refine rg_4 dX4_region_153 ?_
          refine ax_istore dX4_region_156 rfl (by decide) ?_
          refine ax_aload_n dX4_region_158 rfl ?_
          refine ax_dup dX4_region_159 rfl ?_
          refine rg_4 dX4_region_160 ?_
          refine ax_iconst (nI 1) dX4_region_163 (by decide) ?_
          refine ax_iaddn dX4_region_164 ?_
          refine rp_4 dX4_region_165 ?_
          refine ax_aload_n dX4_region_168 rfl ?_
          refine rg_6 dX4_region_169 ?_
          refine ax_bipush (nI 6) dX4_region_172 (by decide) ?_
          refine ax_iload dX4_region_174 rfl ?_
          refine ax_imuln dX4_region_176 ?_
          refine ax_iload_n dX4_region_177 rfl ?_
          refine rs_6 dX4_region_178 (by omega) ?_
          refine ax_aload_n dX4_region_179 rfl ?_
          refine rg_5 dX4_region_180 ?_
          refine ax_iload dX4_region_183 rfl ?_
          refine ax_iconst (nI 1) dX4_region_185 (by decide) ?_
          refine rs_5 dX4_region_186 (by omega) ?_
          refine ax_iload_n dX4_region_187 rfl ?_
          refine ax_bipush (-9) dX4_region_188 (by decide) ?_
          refine ax_icmp_eq 214 dX4_region_190 (by decide) (fun c190 => absurd c190 (nI_n9 (by omega))) (fun c190 => ?_)
          refine ax_aload_n dX4_region_193 rfl ?_
          refine rg_6 dX4_region_194 ?_
          refine ax_bipush (nI 6) dX4_region_197 (by decide) ?_
          refine ax_iload dX4_region_199 rfl ?_
          refine ax_imuln dX4_region_201 ?_
          refine ax_iconst (nI 1) dX4_region_202 (by decide) ?_
          refine ax_iaddn dX4_region_203 ?_
          refine ax_iload_n dX4_region_204 rfl ?_
          refine rs_6 dX4_region_205 (by omega) ?_
          refine ax_aload_n dX4_region_206 rfl ?_
          refine rg_5 dX4_region_207 ?_
          refine ax_iload dX4_region_210 rfl ?_
          refine ax_iconst (nI 2) dX4_region_212 (by decide) ?_
          refine rs_5 dX4_region_213 (by omega) ?_
          refine ax_iload_n dX4_region_214 rfl ?_
          refine ax_bipush (-9) dX4_region_215 (by decide) ?_
          refine ax_icmp_eq 241 dX4_region_217 (by decide) (fun c217 => ?_) (fun c217 => absurd c217 (fun z => z rfl))
          refine ax_iload dX4_region_241 rfl ?_
          refine ax_iretD dX4_region_243 rfl ⟨(Nat.le_refl _), (Nat.le_refl _)⟩ ?_ ?_
          · simp [rRg2, c4, c10, c17, c23, c43, c48, c53, c68, c80, c86, c95, c107, c113, c134, c146, c190, c217]
          · simp [rRg2, c4, c10, c17, c23, c43, c48, c53, c68, c80, c86, c95, c107, c113, c134, c146, c190, c217]
        · refine ax_bipush (-4) dX4_region_149 (by decide) ?_
          refine ax_iretD dX4_region_151 rfl ⟨(Nat.le_refl _), (Nat.le_refl _)⟩ ?_ ?_
          · simp [rRg2, c4, c10, c17, c23, c43, c48, c53, c68, c80, c86, c95, c107, c113, c134, c146]
          · simp [rRg2, c4, c10, c17, c23, c43, c48, c53, c68, c80, c86, c95, c107, c113, c134, c146]
      · refine ax_iconst (ax_b true) dX4_region_98 (by decide) ?_
        refine ax_goto 103 dX4_region_99 (by decide) ?_
        refine ax_istore dX4_region_103 rfl (by decide) ?_
        refine ax_iload dX4_region_105 rfl ?_
        refine ax_bne 125 dX4_region_107 (by decide) (fun c107 => ?_) (fun c107 => absurd c107 (by decide))
        refine ax_iconst (ax_b true) dX4_region_125 (by decide) ?_
        refine ax_goto 130 dX4_region_126 (by decide) ?_
        refine ax_istore dX4_region_130 rfl (by decide) ?_
        refine ax_iload dX4_region_132 rfl ?_
        refine ax_beq 140 dX4_region_134 (by decide) (fun c134 => absurd c134 (by decide)) (fun c134 => ?_)
        refine ax_bipush (-3) dX4_region_137 (by decide) ?_
        refine ax_iretD dX4_region_139 rfl ⟨(Nat.le_refl _), (Nat.le_refl _)⟩ ?_ ?_
        · simp [rRg2, c4, c10, c17, c23, c43, c48, c53, c68, c80, c86, c95, c107, c134]
        · simp [rRg2, c4, c10, c17, c23, c43, c48, c53, c68, c80, c86, c95, c107, c134]
    · refine ax_iconst (ax_b true) dX4_region_71 (by decide) ?_
      refine ax_goto 76 dX4_region_72 (by decide) ?_
      refine ax_istore dX4_region_76 rfl (by decide) ?_
      refine ax_iload dX4_region_78 rfl ?_
      refine ax_bne 98 dX4_region_80 (by decide) (fun c80 => ?_) (fun c80 => absurd c80 (by decide))
      refine ax_iconst (ax_b true) dX4_region_98 (by decide) ?_
      refine ax_goto 103 dX4_region_99 (by decide) ?_
      refine ax_istore dX4_region_103 rfl (by decide) ?_
      refine ax_iload dX4_region_105 rfl ?_
      refine ax_bne 125 dX4_region_107 (by decide) (fun c107 => ?_) (fun c107 => absurd c107 (by decide))
      refine ax_iconst (ax_b true) dX4_region_125 (by decide) ?_
      refine ax_goto 130 dX4_region_126 (by decide) ?_
      refine ax_istore dX4_region_130 rfl (by decide) ?_
      refine ax_iload dX4_region_132 rfl ?_
      refine ax_beq 140 dX4_region_134 (by decide) (fun c134 => absurd c134 (by decide)) (fun c134 => ?_)
      refine ax_bipush (-3) dX4_region_137 (by decide) ?_
      refine ax_iretD dX4_region_139 rfl ⟨(Nat.le_refl _), (Nat.le_refl _)⟩ ?_ ?_
      · simp [rRg2, c4, c10, c17, c23, c43, c48, c53, c68, c80, c107, c134]
      · simp [rRg2, c4, c10, c17, c23, c43, c48, c53, c68, c80, c107, c134]
theorem ok_region3 (hw : rf_ok ρ) {a b c3 : Nat} (ha : a < 6) (hb : b < 6) (hc : c3 < 6) : ax_Ok mX4_region yX4_region 3 0 0 [ax_r (80, 0), ax_i (nI a), ax_i (nI b), ax_i (nI c3)] (fh c ρ) (ax_D (ax_i (rRg3 ρ a b c3).1) (fh c (rRg3 ρ a b c3).2)) := by
  refine ax_Ok.of (by decide) rfl (fun q => by cases q) (Nat.le_of_ble_eq_true rfl) rfl ?_
  have h4 := rk_4 hw
  have isMa : (decide (0 ≤ nI a) && decide (nI a ≤ 5)) = true := isM_n ha
  have isMb : (decide (0 ≤ nI b) && decide (nI b ≤ 5)) = true := isM_n hb
  have isMc : (decide (0 ≤ nI c3) && decide (nI c3 ≤ 5)) = true := isM_n hc
  refine ax_iload_n dX4_region_0 rfl ?_
  refine ax_S1 cs_X4_108 dX4_region_1 (ok_isMachine _) (by decide) (Nat.le_refl _) (Nat.le_refl _) (Nat.le_of_ble_eq_true rfl) ?_
  refine ax_beq 39 dX4_region_4 (by decide) (fun c4 => absurd c4 (by rw [isMa]; simp)) (fun c4 => ?_)
  refine ax_iload_n dX4_region_7 rfl ?_
  refine ax_bipush (-9) dX4_region_8 (by decide) ?_
  refine ax_icmp_eq 20 dX4_region_10 (by decide) (fun c10 => absurd c10 (nI_n9 (by omega))) (fun c10 => ?_)
  refine ax_iload_n dX4_region_13 rfl ?_
  refine ax_S1 cs_X4_108 dX4_region_14 (ok_isMachine _) (by decide) (Nat.le_refl _) (Nat.le_refl _) (Nat.le_of_ble_eq_true rfl) ?_
  refine ax_beq 39 dX4_region_17 (by decide) (fun c17 => absurd c17 (by rw [isMb]; simp)) (fun c17 => ?_)
  refine ax_iload_n dX4_region_20 rfl ?_
  refine ax_bipush (-9) dX4_region_21 (by decide) ?_
  refine ax_icmp_eq 41 dX4_region_23 (by decide) (fun c23 => absurd c23 (nI_n9 (by omega))) (fun c23 => ?_)
  refine ax_iload_n dX4_region_26 rfl ?_
  refine ax_S1 cs_X4_108 dX4_region_27 (ok_isMachine _) (by decide) (Nat.le_refl _) (Nat.le_refl _) (Nat.le_of_ble_eq_true rfl) ?_
  refine ax_beq 39 dX4_region_30 (by decide) (fun c30 => absurd c30 (by rw [isMc]; simp)) (fun c30 => ?_)
  refine ax_iload_n dX4_region_33 rfl ?_
  refine ax_bipush (-9) dX4_region_34 (by decide) ?_
  refine ax_icmp_ne 41 dX4_region_36 (by decide) (fun c36 => ?_) (fun c36 => absurd c36 (nI_n9 (by omega)))
  refine ax_iload_n dX4_region_41 rfl ?_
  refine ax_iload_n dX4_region_42 rfl ?_
  refine ax_neq 71 dX4_region_43 (by decide) (by omega) (by omega) (fun c43 => ?_) (fun c43 => ?_)
  · refine ax_iconst (ax_b true) dX4_region_71 (by decide) ?_
    refine ax_goto 76 dX4_region_72 (by decide) ?_
    refine ax_istore dX4_region_76 rfl (by decide) ?_
    refine ax_iload dX4_region_78 rfl ?_
    refine ax_bne 98 dX4_region_80 (by decide) (fun c80 => ?_) (fun c80 => absurd c80 (by decide))
    refine ax_iconst (ax_b true) dX4_region_98 (by decide) ?_
    refine ax_goto 103 dX4_region_99 (by decide) ?_
    refine ax_istore dX4_region_103 rfl (by decide) ?_
    refine ax_iload dX4_region_105 rfl ?_
    refine ax_bne 125 dX4_region_107 (by decide) (fun c107 => ?_) (fun c107 => absurd c107 (by decide))
    refine ax_iconst (ax_b true) dX4_region_125 (by decide) ?_
    refine ax_goto 130 dX4_region_126 (by decide) ?_
    refine ax_istore dX4_region_130 rfl (by decide) ?_
    refine ax_iload dX4_region_132 rfl ?_
    refine ax_beq 140 dX4_region_134 (by decide) (fun c134 => absurd c134 (by decide)) (fun c134 => ?_)
    refine ax_bipush (-3) dX4_region_137 (by decide) ?_
    refine ax_iretD dX4_region_139 rfl ⟨(Nat.le_refl _), (Nat.le_refl _)⟩ ?_ ?_
    · simp [rRg3, c4, c10, c17, c23, c30, c36, c43, c80, c107, c134]
    · simp [rRg3, c4, c10, c17, c23, c30, c36, c43, c80, c107, c134]
  · refine ax_iload_n dX4_region_46 rfl ?_
    refine ax_iload_n dX4_region_47 rfl ?_
    refine ax_neq 71 dX4_region_48 (by decide) (by omega) (by omega) (fun c48 => ?_) (fun c48 => ?_)
    · refine ax_iconst (ax_b true) dX4_region_71 (by decide) ?_
      refine ax_goto 76 dX4_region_72 (by decide) ?_
      refine ax_istore dX4_region_76 rfl (by decide) ?_
      refine ax_iload dX4_region_78 rfl ?_
      refine ax_bne 98 dX4_region_80 (by decide) (fun c80 => ?_) (fun c80 => absurd c80 (by decide))
      refine ax_iconst (ax_b true) dX4_region_98 (by decide) ?_
      refine ax_goto 103 dX4_region_99 (by decide) ?_
      refine ax_istore dX4_region_103 rfl (by decide) ?_
      refine ax_iload dX4_region_105 rfl ?_
      refine ax_bne 125 dX4_region_107 (by decide) (fun c107 => ?_) (fun c107 => absurd c107 (by decide))
      refine ax_iconst (ax_b true) dX4_region_125 (by decide) ?_
      refine ax_goto 130 dX4_region_126 (by decide) ?_
      refine ax_istore dX4_region_130 rfl (by decide) ?_
      refine ax_iload dX4_region_132 rfl ?_
      refine ax_beq 140 dX4_region_134 (by decide) (fun c134 => absurd c134 (by decide)) (fun c134 => ?_)
      refine ax_bipush (-3) dX4_region_137 (by decide) ?_
      refine ax_iretD dX4_region_139 rfl ⟨(Nat.le_refl _), (Nat.le_refl _)⟩ ?_ ?_
      · simp [rRg3, c4, c10, c17, c23, c30, c36, c43, c48, c80, c107, c134]
      · simp [rRg3, c4, c10, c17, c23, c30, c36, c43, c48, c80, c107, c134]
    · refine ax_iload_n dX4_region_51 rfl ?_
      refine ax_iload_n dX4_region_52 rfl ?_
      refine ax_nne 62 dX4_region_53 (by decide) (by omega) (by omega) (fun c53 => ?_) (fun c53 => ?_)
      · refine ax_aload_n dX4_region_62 rfl ?_
        refine rg_1 dX4_region_63 ?_
        refine ax_iload_n dX4_region_66 rfl ?_
        refine rl_1 dX4_region_67 (by omega) ?_
        refine ax_bne 75 dX4_region_68 (by decide) (fun c68 => ?_) (fun c68 => ?_)
        · refine ax_iconst (ax_b false) dX4_region_75 (by decide) ?_
          refine ax_istore dX4_region_76 rfl (by decide) ?_
          refine ax_iload dX4_region_78 rfl ?_
          refine ax_bne 98 dX4_region_80 (by decide) (fun c80 => absurd c80 (by decide)) (fun c80 => ?_)
          refine ax_iload_n dX4_region_83 rfl ?_
          refine ax_bipush (-9) dX4_region_84 (by decide) ?_
          refine ax_icmp_eq 102 dX4_region_86 (by decide) (fun c86 => absurd c86 (nI_n9 (by omega))) (fun c86 => ?_)
          refine ax_aload_n dX4_region_89 rfl ?_
          refine rg_1 dX4_region_90 ?_
          refine ax_iload_n dX4_region_93 rfl ?_
          refine rl_1 dX4_region_94 (by omega) ?_
          refine ax_bne 102 dX4_region_95 (by decide) (fun c95 => ?_) (fun c95 => ?_)
          · refine ax_iconst (ax_b false) dX4_region_102 (by decide) ?_
            refine ax_istore dX4_region_103 rfl (by decide) ?_
            refine ax_iload dX4_region_105 rfl ?_
            refine ax_bne 125 dX4_region_107 (by decide) (fun c107 => absurd c107 (by decide)) (fun c107 => ?_)
            refine ax_iload_n dX4_region_110 rfl ?_
            refine ax_bipush (-9) dX4_region_111 (by decide) ?_
            refine ax_icmp_eq 129 dX4_region_113 (by decide) (fun c113 => absurd c113 (nI_n9 (by omega))) (fun c113 => ?_)
            refine ax_aload_n dX4_region_116 rfl ?_
            refine rg_1 dX4_region_117 ?_
            refine ax_iload_n dX4_region_120 rfl ?_
            refine rl_1 dX4_region_121 (by omega) ?_
            refine ax_bne 129 dX4_region_122 (by decide) (fun c122 => ?_) (fun c122 => ?_)
            · refine ax_iconst (ax_b false) dX4_region_129 (by decide) ?_
              refine ax_istore dX4_region_130 rfl (by decide) ?_
              refine ax_iload dX4_region_132 rfl ?_
              refine ax_beq 140 dX4_region_134 (by decide) (fun c134 => ?_) (fun c134 => absurd c134 (by decide))
              refine ax_aload_n dX4_region_140 rfl ?_
              refine rg_4 dX4_region_141 ?_
              refine ax_bipush (nI 6) dX4_region_144 (by decide) ?_
              refine ax_nne 152 dX4_region_146 (by decide) (by omega) (by omega) (fun c146 => ?_) (fun c146 => ?_)
              · refine ax_aload_n dX4_region_152 rfl ?_
                refine rg_4 dX4_region_153 ?_
                refine ax_istore dX4_region_156 rfl (by decide) ?_
                refine ax_aload_n dX4_region_158 rfl ?_
                refine ax_dup dX4_region_159 rfl ?_
                refine rg_4 dX4_region_160 ?_
                refine ax_iconst (nI 1) dX4_region_163 (by decide) ?_
                refine ax_iaddn dX4_region_164 ?_
                refine rp_4 dX4_region_165 ?_
                refine ax_aload_n dX4_region_168 rfl ?_
                refine rg_6 dX4_region_169 ?_
                refine ax_bipush (nI 6) dX4_region_172 (by decide) ?_
                refine ax_iload dX4_region_174 rfl ?_
                refine ax_imuln dX4_region_176 ?_
                refine ax_iload_n dX4_region_177 rfl ?_
                refine rs_6 dX4_region_178 (by omega) ?_
                refine ax_aload_n dX4_region_179 rfl ?_
                refine rg_5 dX4_region_180 ?_
                refine ax_iload dX4_region_183 rfl ?_
                refine ax_iconst (nI 1) dX4_region_185 (by decide) ?_
                refine rs_5 dX4_region_186 (by omega) ?_
                refine ax_iload_n dX4_region_187 rfl ?_
                refine ax_bipush (-9) dX4_region_188 (by decide) ?_
                refine ax_icmp_eq 214 dX4_region_190 (by decide) (fun c190 => absurd c190 (nI_n9 (by omega))) (fun c190 => ?_)
                refine ax_aload_n dX4_region_193 rfl ?_
                refine rg_6 dX4_region_194 ?_
                refine ax_bipush (nI 6) dX4_region_197 (by decide) ?_
                refine ax_iload dX4_region_199 rfl ?_
                refine ax_imuln dX4_region_201 ?_
                refine ax_iconst (nI 1) dX4_region_202 (by decide) ?_
                refine ax_iaddn dX4_region_203 ?_
                refine ax_iload_n dX4_region_204 rfl ?_
                refine rs_6 dX4_region_205 (by omega) ?_
                refine ax_aload_n dX4_region_206 rfl ?_
                refine rg_5 dX4_region_207 ?_
                refine ax_iload dX4_region_210 rfl ?_
                refine ax_iconst (nI 2) dX4_region_212 (by decide) ?_
                refine rs_5 dX4_region_213 (by omega) ?_
                refine ax_iload_n dX4_region_214 rfl ?_
                refine ax_bipush (-9) dX4_region_215 (by decide) ?_
                refine ax_icmp_eq 241 dX4_region_217 (by decide) (fun c217 => absurd c217 (nI_n9 (by omega))) (fun c217 => ?_)
                refine ax_aload_n dX4_region_220 rfl ?_
                refine rg_6 dX4_region_221 ?_
                refine ax_bipush (nI 6) dX4_region_224 (by decide) ?_
                refine ax_iload dX4_region_226 rfl ?_
                refine ax_imuln dX4_region_228 ?_
                refine ax_iconst (nI 2) dX4_region_229 (by decide) ?_
                refine ax_iaddn dX4_region_230 ?_
                refine ax_iload_n dX4_region_231 rfl ?_
                refine rs_6 dX4_region_232 (by omega) ?_
                refine ax_aload_n dX4_region_233 rfl ?_
                refine rg_5 dX4_region_234 ?_
                refine ax_iload dX4_region_237 rfl ?_
                refine ax_iconst (nI 3) dX4_region_239 (by decide) ?_
                refine rs_5 dX4_region_240 (by omega) ?_
                refine ax_iload dX4_region_241 rfl ?_
                refine ax_iretD dX4_region_243 rfl ⟨(Nat.le_refl _), (Nat.le_refl _)⟩ ?_ ?_
                · simp [rRg3, c4, c10, c17, c23, c30, c36, c43, c48, c53, c68, c80, c86, c95, c107, c113, c122, c134, c146, c190, c217]
                · simp [rRg3, c4, c10, c17, c23, c30, c36, c43, c48, c53, c68, c80, c86, c95, c107, c113, c122, c134, c146, c190, c217]
              · refine ax_bipush (-4) dX4_region_149 (by decide) ?_
                refine ax_iretD dX4_region_151 rfl ⟨(Nat.le_refl _), (Nat.le_refl _)⟩ ?_ ?_
                · simp [rRg3, c4, c10, c17, c23, c30, c36, c43, c48, c53, c68, c80, c86, c95, c107, c113, c122, c134, c146]
                · simp [rRg3, c4, c10, c17, c23, c30, c36, c43, c48, c53, c68, c80, c86, c95, c107, c113, c122, c134, c146]
            · refine ax_iconst (ax_b true) dX4_region_125 (by decide) ?_
              refine ax_goto 130 dX4_region_126 (by decide) ?_
              refine ax_istore dX4_region_130 rfl (by decide) ?_
              refine ax_iload dX4_region_132 rfl ?_
              refine ax_beq 140 dX4_region_134 (by decide) (fun c134 => absurd c134 (by decide)) (fun c134 => ?_)
              refine ax_bipush (-3) dX4_region_137 (by decide) ?_
              refine ax_iretD dX4_region_139 rfl ⟨(Nat.le_refl _), (Nat.le_refl _)⟩ ?_ ?_
              · simp [rRg3, c4, c10, c17, c23, c30, c36, c43, c48, c53, c68, c80, c86, c95, c107, c113, c122, c134]
              · simp [rRg3, c4, c10, c17, c23, c30, c36, c43, c48, c53, c68, c80, c86, c95, c107, c113, c122, c134]
          · refine ax_iconst (ax_b true) dX4_region_98 (by decide) ?_
            refine ax_goto 103 dX4_region_99 (by decide) ?_
            refine ax_istore dX4_region_103 rfl (by decide) ?_
            refine ax_iload dX4_region_105 rfl ?_
            refine ax_bne 125 dX4_region_107 (by decide) (fun c107 => ?_) (fun c107 => absurd c107 (by decide))
            refine ax_iconst (ax_b true) dX4_region_125 (by decide) ?_
            refine ax_goto 130 dX4_region_126 (by decide) ?_
            refine ax_istore dX4_region_130 rfl (by decide) ?_
            refine ax_iload dX4_region_132 rfl ?_
            refine ax_beq 140 dX4_region_134 (by decide) (fun c134 => absurd c134 (by decide)) (fun c134 => ?_)
            refine ax_bipush (-3) dX4_region_137 (by decide) ?_
            refine ax_iretD dX4_region_139 rfl ⟨(Nat.le_refl _), (Nat.le_refl _)⟩ ?_ ?_
            · simp [rRg3, c4, c10, c17, c23, c30, c36, c43, c48, c53, c68, c80, c86, c95, c107, c134]
            · simp [rRg3, c4, c10, c17, c23, c30, c36, c43, c48, c53, c68, c80, c86, c95, c107, c134]
        · refine ax_iconst (ax_b true) dX4_region_71 (by decide) ?_
          refine ax_goto 76 dX4_region_72 (by decide) ?_
          refine ax_istore dX4_region_76 rfl (by decide) ?_
          refine ax_iload dX4_region_78 rfl ?_
          refine ax_bne 98 dX4_region_80 (by decide) (fun c80 => ?_) (fun c80 => absurd c80 (by decide))
          refine ax_iconst (ax_b true) dX4_region_98 (by decide) ?_
          refine ax_goto 103 dX4_region_99 (by decide) ?_
          refine ax_istore dX4_region_103 rfl (by decide) ?_
          refine ax_iload dX4_region_105 rfl ?_
          refine ax_bne 125 dX4_region_107 (by decide) (fun c107 => ?_) (fun c107 => absurd c107 (by decide))
          refine ax_iconst (ax_b true) dX4_region_125 (by decide) ?_
          refine ax_goto 130 dX4_region_126 (by decide) ?_
          refine ax_istore dX4_region_130 rfl (by decide) ?_
          refine ax_iload dX4_region_132 rfl ?_
          refine ax_beq 140 dX4_region_134 (by decide) (fun c134 => absurd c134 (by decide)) (fun c134 => ?_)
          refine ax_bipush (-3) dX4_region_137 (by decide) ?_
          refine ax_iretD dX4_region_139 rfl ⟨(Nat.le_refl _), (Nat.le_refl _)⟩ ?_ ?_
          · simp [rRg3, c4, c10, c17, c23, c30, c36, c43, c48, c53, c68, c80, c107, c134]
          · simp [rRg3, c4, c10, c17, c23, c30, c36, c43, c48, c53, c68, c80, c107, c134]
      · refine ax_iload_n dX4_region_56 rfl ?_
        refine ax_bipush (-9) dX4_region_57 (by decide) ?_
        refine ax_icmp_ne 71 dX4_region_59 (by decide) (fun c59 => ?_) (fun c59 => absurd c59 (fun z => nI_n9 (by omega) z))
        refine ax_iconst (ax_b true) dX4_region_71 (by decide) ?_
        refine ax_goto 76 dX4_region_72 (by decide) ?_
        refine ax_istore dX4_region_76 rfl (by decide) ?_
        refine ax_iload dX4_region_78 rfl ?_
        refine ax_bne 98 dX4_region_80 (by decide) (fun c80 => ?_) (fun c80 => absurd c80 (by decide))
        refine ax_iconst (ax_b true) dX4_region_98 (by decide) ?_
        refine ax_goto 103 dX4_region_99 (by decide) ?_
        refine ax_istore dX4_region_103 rfl (by decide) ?_
        refine ax_iload dX4_region_105 rfl ?_
        refine ax_bne 125 dX4_region_107 (by decide) (fun c107 => ?_) (fun c107 => absurd c107 (by decide))
        refine ax_iconst (ax_b true) dX4_region_125 (by decide) ?_
        refine ax_goto 130 dX4_region_126 (by decide) ?_
        refine ax_istore dX4_region_130 rfl (by decide) ?_
        refine ax_iload dX4_region_132 rfl ?_
        refine ax_beq 140 dX4_region_134 (by decide) (fun c134 => absurd c134 (by decide)) (fun c134 => ?_)
        refine ax_bipush (-3) dX4_region_137 (by decide) ?_
        refine ax_iretD dX4_region_139 rfl ⟨(Nat.le_refl _), (Nat.le_refl _)⟩ ?_ ?_
        · simp [rRg3, c4, c10, c17, c23, c30, c36, c43, c48, c53, c59, c80, c107, c134]
        · simp [rRg3, c4, c10, c17, c23, c30, c36, c43, c48, c53, c59, c80, c107, c134]
theorem lp_isHit (hw : rf_ok ρ) {r : Nat} (hr : r < 6) : ∀ (m : Nat) (k : Nat) (b V : Bool), k + m = ρ.1 5 r → (b || (List.range' k m).any (fun k => ρ.2.1 2 (ρ.1 6 (6 * r + k)) && !ρ.2.1 1 (ρ.1 6 (6 * r + k)))) = V → ax_Z mX4_isHit 1 0 0 (ax_D (ax_i (ax_b V)) (fh c ρ)) 4 [some (ax_r (80, 0)), some (ax_i (nI r)), some (ax_i (ax_b b)), some (ax_i (nI k)), none] [] (fh c ρ) 0 0 := by
  intro m
  induction m with
  | zero =>
    intro k b V hk hV
    have h5 := rk_5 hw r
    refine ax_iload_n dX4_isHit_4 rfl ?_
    refine ax_aload_n dX4_isHit_5 rfl ?_
    refine rg_5 dX4_isHit_6 ?_
    refine ax_iload_n dX4_isHit_9 rfl ?_
    refine rl_5 dX4_isHit_10 (by first | omega | exact rk_6 hw _ | exact rk_11 hw _ | exact rk_18 hw _ | exact rk_19 hw _ | exact rk_27 hw _ | exact rk_N hw _ _) ?_
    refine ax_nge 63 dX4_isHit_11 (by decide) (by first | omega | exact rk_6 hw _ | exact rk_11 hw _ | exact rk_18 hw _ | exact rk_19 hw _ | exact rk_27 hw _ | exact rk_N hw _ _) (by first | omega | exact rk_6 hw _ | exact rk_11 hw _ | exact rk_18 hw _ | exact rk_19 hw _ | exact rk_27 hw _ | exact rk_N hw _ _) (fun c11 => ?_) (fun c11 => absurd c11 (by omega))
    refine ax_iload_n dX4_isHit_63 rfl ?_
    refine ax_bret dX4_isHit_64 rfl ⟨(Nat.le_refl _), (Nat.le_refl _)⟩ ?_ ?_
    · exact ls_a2 hV
    · rfl
  | succ m ih =>
    intro k b V hk hV
    have h5 := rk_5 hw r
    refine ax_iload_n dX4_isHit_4 rfl ?_
    refine ax_aload_n dX4_isHit_5 rfl ?_
    refine rg_5 dX4_isHit_6 ?_
    refine ax_iload_n dX4_isHit_9 rfl ?_
    refine rl_5 dX4_isHit_10 (by first | omega | exact rk_6 hw _ | exact rk_11 hw _ | exact rk_18 hw _ | exact rk_19 hw _ | exact rk_27 hw _ | exact rk_N hw _ _) ?_
    refine ax_nge 63 dX4_isHit_11 (by decide) (by first | omega | exact rk_6 hw _ | exact rk_11 hw _ | exact rk_18 hw _ | exact rk_19 hw _ | exact rk_27 hw _ | exact rk_N hw _ _) (by first | omega | exact rk_6 hw _ | exact rk_11 hw _ | exact rk_18 hw _ | exact rk_19 hw _ | exact rk_27 hw _ | exact rk_N hw _ _) (fun c11 => absurd c11 (by omega)) (fun c11 => ?_)
    refine ax_aload_n dX4_isHit_14 rfl ?_
    refine rg_6 dX4_isHit_15 ?_
    refine ax_bipush (nI 6) dX4_isHit_18 (by decide) ?_
    refine ax_iload_n dX4_isHit_20 rfl ?_
    refine ax_imuln dX4_isHit_21 ?_
    refine ax_iload_n dX4_isHit_22 rfl ?_
    refine ax_iaddn dX4_isHit_23 ?_
    refine rl_6 dX4_isHit_24 (by first | omega | exact rk_6 hw _ | exact rk_11 hw _ | exact rk_18 hw _ | exact rk_19 hw _ | exact rk_27 hw _ | exact rk_N hw _ _) ?_
    refine ax_istore dX4_isHit_25 rfl (by decide) ?_
    refine ax_iload_n dX4_isHit_27 rfl ?_
    refine ax_bne 51 dX4_isHit_28 (by decide) (fun c28 => ?_) (fun c28 => ?_)
    · refine ax_iconst (ax_b true) dX4_isHit_51 (by decide) ?_
      refine ax_goto 56 dX4_isHit_52 (by decide) ?_
      refine ax_istore_n dX4_isHit_56 rfl (by decide) ?_
      refine ax_iincn (n := 1) dX4_isHit_57 rfl (by decide) rfl ?_
      refine ax_goto 4 dX4_isHit_60 (by decide) ?_
      refine ax_fg [true, true, true, true, false] rfl ?_
      first | exact ih (k + 1) true V (by omega) (by simpa [c11, c28] using ls_a hV) | exact ih (k + 1) false V (by omega) (by simpa [c11, c28] using ls_a hV)
    · refine ax_aload_n dX4_isHit_31 rfl ?_
      refine rg_2 dX4_isHit_32 ?_
      refine ax_iload dX4_isHit_35 rfl ?_
      refine rl_2 dX4_isHit_37 (by first | omega | exact rk_6 hw _ | exact rk_11 hw _ | exact rk_18 hw _ | exact rk_19 hw _ | exact rk_27 hw _ | exact rk_N hw _ _) ?_
      refine ax_beq 55 dX4_isHit_38 (by decide) (fun c38 => ?_) (fun c38 => ?_)
      · refine ax_iconst (ax_b false) dX4_isHit_55 (by decide) ?_
        refine ax_istore_n dX4_isHit_56 rfl (by decide) ?_
        refine ax_iincn (n := 1) dX4_isHit_57 rfl (by decide) rfl ?_
        refine ax_goto 4 dX4_isHit_60 (by decide) ?_
        refine ax_fg [true, true, true, true, false] rfl ?_
        first | exact ih (k + 1) true V (by omega) (by simpa [c11, c28, c38] using ls_a hV) | exact ih (k + 1) false V (by omega) (by simpa [c11, c28, c38] using ls_a hV)
      · refine ax_aload_n dX4_isHit_41 rfl ?_
        refine rg_1 dX4_isHit_42 ?_
        refine ax_iload dX4_isHit_45 rfl ?_
        refine rl_1 dX4_isHit_47 (by first | omega | exact rk_6 hw _ | exact rk_11 hw _ | exact rk_18 hw _ | exact rk_19 hw _ | exact rk_27 hw _ | exact rk_N hw _ _) ?_
        refine ax_bne 55 dX4_isHit_48 (by decide) (fun c48 => ?_) (fun c48 => ?_)
        · refine ax_iconst (ax_b false) dX4_isHit_55 (by decide) ?_
          refine ax_istore_n dX4_isHit_56 rfl (by decide) ?_
          refine ax_iincn (n := 1) dX4_isHit_57 rfl (by decide) rfl ?_
          refine ax_goto 4 dX4_isHit_60 (by decide) ?_
          refine ax_fg [true, true, true, true, false] rfl ?_
          first | exact ih (k + 1) true V (by omega) (by simpa [c11, c28, c38, c48] using ls_a hV) | exact ih (k + 1) false V (by omega) (by simpa [c11, c28, c38, c48] using ls_a hV)
        · refine ax_iconst (ax_b true) dX4_isHit_51 (by decide) ?_
          refine ax_goto 56 dX4_isHit_52 (by decide) ?_
          refine ax_istore_n dX4_isHit_56 rfl (by decide) ?_
          refine ax_iincn (n := 1) dX4_isHit_57 rfl (by decide) rfl ?_
          refine ax_goto 4 dX4_isHit_60 (by decide) ?_
          refine ax_fg [true, true, true, true, false] rfl ?_
          first | exact ih (k + 1) true V (by omega) (by simpa [c11, c28, c38, c48] using ls_a hV) | exact ih (k + 1) false V (by omega) (by simpa [c11, c28, c38, c48] using ls_a hV)
theorem ok_isHit (hw : rf_ok ρ) {r : Nat} (hr : r < 6) : ax_Ok mX4_isHit yX4_isHit 1 0 0 [ax_r (80, 0), ax_i (nI r)] (fh c ρ) (ax_D (ax_i (ax_b (rHt ρ r))) (fh c ρ)) := by
  refine ax_Ok.of (by decide) rfl (fun q => by cases q) (Nat.le_of_ble_eq_true rfl) rfl ?_
  refine ax_iconst (ax_b false) dX4_isHit_0 (by decide) ?_
  refine ax_istore_n dX4_isHit_1 rfl (by decide) ?_
  refine ax_iconst (nI 0) dX4_isHit_2 (by decide) ?_
  refine ax_istore_n dX4_isHit_3 rfl (by decide) ?_
  exact lp_isHit hw hr (ρ.1 5 r) 0 false _ (Nat.zero_add _) (Bool.false_or _)
theorem lp_isRec (hw : rf_ok ρ) {t : Nat} (ht : t < 60) : ∀ (m : Nat) (i : Nat) (b V : Bool), i + m = 8 * t + ρ.1 14 t → (b || (List.range' i m).any (fun i => ρ.2.1 22 i && rHt ρ (ρ.1 18 i))) = V → ax_Z mX4_isRecovered 2 0 0 (ax_D (ax_i (ax_b V)) (fh c ρ)) 25 [some (ax_r (80, 0)), some (ax_i (nI t)), some (ax_i (ax_b b)), some (ax_i (nI i))] [] (fh c ρ) 0 0 := by
  intro m
  induction m with
  | zero =>
    intro i b V hk hV
    have h14 := rk_14 hw t
    refine ax_iload_n dX4_isRecovered_25 rfl ?_
    refine ax_bipush (nI 8) dX4_isRecovered_26 (by decide) ?_
    refine ax_iload_n dX4_isRecovered_28 rfl ?_
    refine ax_imuln dX4_isRecovered_29 ?_
    refine ax_aload_n dX4_isRecovered_30 rfl ?_
    refine rg_14 dX4_isRecovered_31 ?_
    refine ax_iload_n dX4_isRecovered_34 rfl ?_
    refine rl_14 dX4_isRecovered_35 (by first | omega | exact rk_18 hw _ | exact rk_19 hw _ | exact rk_N hw _ _) ?_
    refine ax_iaddn dX4_isRecovered_36 ?_
    refine ax_nge 78 dX4_isRecovered_37 (by decide) (by first | omega | exact rk_18 hw _ | exact rk_19 hw _ | exact rk_N hw _ _) (by first | omega | exact rk_18 hw _ | exact rk_19 hw _ | exact rk_N hw _ _) (fun c37 => ?_) (fun c37 => absurd c37 (by omega))
    refine ax_iload_n dX4_isRecovered_78 rfl ?_
    refine ax_bret dX4_isRecovered_79 rfl ⟨(Nat.le_refl _), (Nat.le_refl _)⟩ ?_ ?_
    · exact ls_a2 hV
    · rfl
  | succ m ih =>
    intro i b V hk hV
    have h14 := rk_14 hw t
    refine ax_iload_n dX4_isRecovered_25 rfl ?_
    refine ax_bipush (nI 8) dX4_isRecovered_26 (by decide) ?_
    refine ax_iload_n dX4_isRecovered_28 rfl ?_
    refine ax_imuln dX4_isRecovered_29 ?_
    refine ax_aload_n dX4_isRecovered_30 rfl ?_
    refine rg_14 dX4_isRecovered_31 ?_
    refine ax_iload_n dX4_isRecovered_34 rfl ?_
    refine rl_14 dX4_isRecovered_35 (by first | omega | exact rk_18 hw _ | exact rk_19 hw _ | exact rk_N hw _ _) ?_
    refine ax_iaddn dX4_isRecovered_36 ?_
    refine ax_nge 78 dX4_isRecovered_37 (by decide) (by first | omega | exact rk_18 hw _ | exact rk_19 hw _ | exact rk_N hw _ _) (by first | omega | exact rk_18 hw _ | exact rk_19 hw _ | exact rk_N hw _ _) (fun c37 => absurd c37 (by omega)) (fun c37 => ?_)
    refine ax_iload_n dX4_isRecovered_40 rfl ?_
    refine ax_bne 66 dX4_isRecovered_41 (by decide) (fun c41 => ?_) (fun c41 => ?_)
    · refine ax_iconst (ax_b true) dX4_isRecovered_66 (by decide) ?_
      refine ax_goto 71 dX4_isRecovered_67 (by decide) ?_
      refine ax_istore_n dX4_isRecovered_71 rfl (by decide) ?_
      refine ax_iincn (n := 1) dX4_isRecovered_72 rfl (by decide) rfl ?_
      refine ax_goto 25 dX4_isRecovered_75 (by decide) ?_
      first | exact ih (i + 1) true V (by omega) (by simpa [c37, c41] using ls_a hV) | exact ih (i + 1) false V (by omega) (by simpa [c37, c41] using ls_a hV)
    · refine ax_aload_n dX4_isRecovered_44 rfl ?_
      refine rg_22 dX4_isRecovered_45 ?_
      refine ax_iload_n dX4_isRecovered_48 rfl ?_
      refine rl_22 dX4_isRecovered_49 (by first | omega | exact rk_18 hw _ | exact rk_19 hw _ | exact rk_N hw _ _) ?_
      refine ax_beq 70 dX4_isRecovered_50 (by decide) (fun c50 => ?_) (fun c50 => ?_)
      · refine ax_iconst (ax_b false) dX4_isRecovered_70 (by decide) ?_
        refine ax_istore_n dX4_isRecovered_71 rfl (by decide) ?_
        refine ax_iincn (n := 1) dX4_isRecovered_72 rfl (by decide) rfl ?_
        refine ax_goto 25 dX4_isRecovered_75 (by decide) ?_
        first | exact ih (i + 1) true V (by omega) (by simpa [c37, c41, c50] using ls_a hV) | exact ih (i + 1) false V (by omega) (by simpa [c37, c41, c50] using ls_a hV)
      · refine ax_aload_n dX4_isRecovered_53 rfl ?_
        refine ax_aload_n dX4_isRecovered_54 rfl ?_
        refine rg_18 dX4_isRecovered_55 ?_
        refine ax_iload_n dX4_isRecovered_58 rfl ?_
        refine rl_18 dX4_isRecovered_59 (by first | omega | exact rk_18 hw _ | exact rk_19 hw _ | exact rk_N hw _ _) ?_
        refine ax_V1 cv_X4_215 dX4_isRecovered_60 fh_M rfl (ok_isHit hw (rk_18 hw _)) (by decide) (Nat.le_refl _) (Nat.le_refl _) (Nat.le_of_ble_eq_true rfl) ?_
        refine ax_beq 70 dX4_isRecovered_63 (by decide) (fun c63 => ?_) (fun c63 => ?_)
        · refine ax_iconst (ax_b false) dX4_isRecovered_70 (by decide) ?_
          refine ax_istore_n dX4_isRecovered_71 rfl (by decide) ?_
          refine ax_iincn (n := 1) dX4_isRecovered_72 rfl (by decide) rfl ?_
          refine ax_goto 25 dX4_isRecovered_75 (by decide) ?_
          first | exact ih (i + 1) true V (by omega) (by simpa [c37, c41, c50, c63] using ls_a hV) | exact ih (i + 1) false V (by omega) (by simpa [c37, c41, c50, c63] using ls_a hV)
        · refine ax_iconst (ax_b true) dX4_isRecovered_66 (by decide) ?_
          refine ax_goto 71 dX4_isRecovered_67 (by decide) ?_
          refine ax_istore_n dX4_isRecovered_71 rfl (by decide) ?_
          refine ax_iincn (n := 1) dX4_isRecovered_72 rfl (by decide) rfl ?_
          refine ax_goto 25 dX4_isRecovered_75 (by decide) ?_
          first | exact ih (i + 1) true V (by omega) (by simpa [c37, c41, c50, c63] using ls_a hV) | exact ih (i + 1) false V (by omega) (by simpa [c37, c41, c50, c63] using ls_a hV)
theorem ok_isRecovered (hw : rf_ok ρ) {t : Nat} (ht : t < 60) : ax_Ok mX4_isRecovered yX4_isRecovered 2 0 0 [ax_r (80, 0), ax_i (nI t)] (fh c ρ) (ax_D (ax_i (ax_b (rRc ρ t))) (fh c ρ)) := by
  refine ax_Ok.of (by decide) rfl (fun q => by cases q) (Nat.le_of_ble_eq_true rfl) rfl ?_
  refine ax_aload_n dX4_isRecovered_0 rfl ?_
  refine rg_1 dX4_isRecovered_1 ?_
  refine ax_aload_n dX4_isRecovered_4 rfl ?_
  refine rg_11 dX4_isRecovered_5 ?_
  refine ax_iload_n dX4_isRecovered_8 rfl ?_
  refine rl_11 dX4_isRecovered_9 (by first | omega | exact rk_11 hw _) ?_
  refine rl_1 dX4_isRecovered_10 (by first | omega | exact rk_11 hw _) ?_
  refine ax_bne 18 dX4_isRecovered_11 (by decide) (fun c11 => ?_) (fun c11 => ?_)
  · refine ax_iconst (ax_b false) dX4_isRecovered_18 (by decide) ?_
    refine ax_istore_n dX4_isRecovered_19 rfl (by decide) ?_
    refine ax_bipush (nI 8) dX4_isRecovered_20 (by decide) ?_
    refine ax_iload_n dX4_isRecovered_22 rfl ?_
    refine ax_imuln dX4_isRecovered_23 ?_
    refine ax_istore_n dX4_isRecovered_24 rfl (by decide) ?_
    first | exact lp_isRec hw ht (ρ.1 14 t) (8 * t) true _ rfl (by simp [rRc, c11]) | exact lp_isRec hw ht (ρ.1 14 t) (8 * t) false _ rfl (by simp [rRc, rI, c11])
  · refine ax_iconst (ax_b true) dX4_isRecovered_14 (by decide) ?_
    refine ax_goto 19 dX4_isRecovered_15 (by decide) ?_
    refine ax_istore_n dX4_isRecovered_19 rfl (by decide) ?_
    refine ax_bipush (nI 8) dX4_isRecovered_20 (by decide) ?_
    refine ax_iload_n dX4_isRecovered_22 rfl ?_
    refine ax_imuln dX4_isRecovered_23 ?_
    refine ax_istore_n dX4_isRecovered_24 rfl (by decide) ?_
    first | exact lp_isRec hw ht (ρ.1 14 t) (8 * t) true _ rfl (by simp [rRc, c11]) | exact lp_isRec hw ht (ρ.1 14 t) (8 * t) false _ rfl (by simp [rRc, rI, c11])
end REFM
