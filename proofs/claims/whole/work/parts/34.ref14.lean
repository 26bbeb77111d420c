def rKm (ρ : ax_R) (k : Nat) : ax_R := ru ρ 32 k 0
def rKa (ρ : ax_R) (t : Nat) : Bool := (rI ρ t).all fun i => decide (ρ.2.2 32 (8 * ρ.1 18 i + ρ.1 19 i) = ρ.2.2 20 i)
def rKb (ρ : ax_R) (i : Nat) : ax_R := ru ρ 32 (8 * ρ.1 18 i + ρ.1 19 i) (if ρ.2.1 22 i = true then ρ.2.2 23 i else ρ.2.2 32 (8 * ρ.1 18 i + ρ.1 19 i))
def rKt (p : Nat) : List Nat → ax_R → Option Nat × ax_R
  | [], ρ => (none, ρ)
  | t :: l, ρ => if ρ.1 16 t = p ∧ ρ.1 12 t = 7 then (if rKa ρ t = true then rKt p l ((rI ρ t).foldl rKb ρ) else (some t, ρ)) else rKt p l ρ
def rKp (T : Nat) : List Nat → ax_R → Option Nat × ax_R
  | [], ρ => (none, ρ)
  | p :: l, ρ => match (rKt p (List.range' 0 T) ρ).1 with
    | some t => (some t, (rKt p (List.range' 0 T) ρ).2)
    | none => rKp T l (rKt p (List.range' 0 T) ρ).2
def rCk (ρ : ax_R) : Option Nat × ax_R := rKp (ρ.1 10 0) (List.range' 1 (ρ.1 17 0)) ((List.range' 0 48).foldl rKm ρ)
theorem rKm_ok {ρ : ax_R} {k : Nat} (hw : rf_ok ρ) : rf_ok (rKm ρ k) := rf_ru hw (Or.inl (by decide))
theorem rKb_ok {ρ : ax_R} {k : Nat} (hw : rf_ok ρ) : rf_ok (rKb ρ k) := rf_ru hw (Or.inl (by decide))
theorem rKb_1 (ρ : ax_R) (k : Nat) : (rKb ρ k).1 = ρ.1 := rfl
theorem rKm_1 (ρ : ax_R) (k : Nat) : (rKm ρ k).1 = ρ.1 := rfl
theorem rKt_1 (p : Nat) : ∀ (l : List Nat) (ρ : ax_R), (rKt p l ρ).2.1 = ρ.1
  | [], _ => rfl
  | t :: l, ρ => by
    unfold rKt
    split
    · split
      · rw [rKt_1 p l, fl_1 rKb_1]
      · rfl
    · exact rKt_1 p l ρ
theorem rKt_ok (p : Nat) : ∀ (l : List Nat) (ρ : ax_R), rf_ok ρ → rf_ok (rKt p l ρ).2
  | [], _, h => h
  | t :: l, ρ, h => by
    unfold rKt
    split
    · split
      · exact rKt_ok p l _ (fl_ok (fun _ _ h => rKb_ok h) _ _ h)
      · exact h
    · exact rKt_ok p l ρ h
theorem ls_z0 {p : Nat → Bool} {k m : Nat} {B : Bool} (hp : p k = true) (hB : (List.range' k (m + 1)).all p = B) : (List.range' (k + 1) m).all p = B := by
  rw [← hB, List.range'_succ, List.all_cons, hp, Bool.true_and]
theorem ls_z1 {p : Nat → Bool} {k m : Nat} {B : Bool} (hp : p k = false) (hB : (List.range' k (m + 1)).all p = B) : B = false := by
  rw [← hB, List.range'_succ, List.all_cons, hp, Bool.false_and]
section REFM
variable {c : ax_H} {ρ : ax_R}
theorem lp_ck1 (hw : rf_ok ρ) {p t : Nat} {V : Option Nat × ax_R} (ht : t < 60) : ∀ (q i : Nat) (B : Bool), i + q = 8 * t + ρ.1 14 t → (List.range' i q).all (fun i => decide (ρ.2.2 32 (8 * ρ.1 18 i + ρ.1 19 i) = ρ.2.2 20 i)) = B → (B = false → (some t, ρ) = V) → (B = true → ax_Z mX4_check 1 0 0 (ax_D (ax_i (oI V.1)) (fh c V.2)) 120 [some (ax_r (80, 0)), some (ax_i (nI p)), some (ax_i (nI t)), none, none] [] (fh c ρ) 0 0) → ax_Z mX4_check 1 0 0 (ax_D (ax_i (oI V.1)) (fh c V.2)) 67 [some (ax_r (80, 0)), some (ax_i (nI p)), some (ax_i (nI t)), some (ax_i (nI i)), none] [] (fh c ρ) 0 0 := by
  intro q
  induction q with
  | zero =>
    intro i B hk hB hV K
    have h14 := rk_14 hw t
    have eB : B = true := by rw [← hB]; rfl
    refine ax_iload_n dX4_check_67 rfl ?_
    refine ax_bipush (nI 8) dX4_check_68 (by decide) ?_
    refine ax_iload_n dX4_check_70 rfl ?_
    refine ax_imuln dX4_check_71 ?_
    refine ax_aload_n dX4_check_72 rfl ?_
    refine rg_14 dX4_check_73 ?_
    refine ax_iload_n dX4_check_76 rfl ?_
    refine rl_14 dX4_check_77 (by omega) ?_
    refine ax_iaddn dX4_check_78 ?_
    refine ax_nge 120 dX4_check_79 (by decide) (by omega) (by omega) (fun c79 => ?_) (fun c79 => absurd c79 (by omega))
    refine ax_fg [true, true, true, false, false] rfl ?_
    exact K eB
  | succ q ih =>
    intro i B hk hB hV K
    have h14 := rk_14 hw t
    have h18 := rk_18 hw i
    have h19 := rk_19 hw i
    refine ax_iload_n dX4_check_67 rfl ?_
    refine ax_bipush (nI 8) dX4_check_68 (by decide) ?_
    refine ax_iload_n dX4_check_70 rfl ?_
    refine ax_imuln dX4_check_71 ?_
    refine ax_aload_n dX4_check_72 rfl ?_
    refine rg_14 dX4_check_73 ?_
    refine ax_iload_n dX4_check_76 rfl ?_
    refine rl_14 dX4_check_77 (by omega) ?_
    refine ax_iaddn dX4_check_78 ?_
    refine ax_nge 120 dX4_check_79 (by decide) (by omega) (by omega) (fun c79 => absurd c79 (by omega)) (fun c79 => ?_)
    refine ax_aload_n dX4_check_82 rfl ?_
    refine rg_32 dX4_check_83 ?_
    refine ax_bipush (nI 8) dX4_check_86 (by decide) ?_
    refine ax_aload_n dX4_check_88 rfl ?_
    refine rg_18 dX4_check_89 ?_
    refine ax_iload_n dX4_check_92 rfl ?_
    refine rl_18 dX4_check_93 (by omega) ?_
    refine ax_imuln dX4_check_94 ?_
    refine ax_aload_n dX4_check_95 rfl ?_
    refine rg_19 dX4_check_96 ?_
    refine ax_iload_n dX4_check_99 rfl ?_
    refine rl_19 dX4_check_100 (by omega) ?_
    refine ax_iaddn dX4_check_101 ?_
    refine rl_32 dX4_check_102 (by omega) ?_
    refine ax_aload_n dX4_check_103 rfl ?_
    refine rg_20 dX4_check_104 ?_
    refine ax_iload_n dX4_check_107 rfl ?_
    refine rl_20 dX4_check_108 (by omega) ?_
    refine ax_icmp_eq 114 dX4_check_109 (by decide) (fun c109 => ?_) (fun c109 => ?_)
    · refine ax_iincn (n := 1) dX4_check_114 rfl (by decide) rfl ?_
      refine ax_goto 67 dX4_check_117 (by decide) ?_
      exact ih (i + 1) B (by omega) (ls_z0 (by simp [c109]) hB) hV K
    · refine ax_iload_n dX4_check_112 rfl ?_
      refine ax_iretD dX4_check_113 rfl ⟨(Nat.le_refl _), (Nat.le_refl _)⟩ ?_ ?_
      · rw [← hV (ls_z1 (by simp [c109]) hB)]; rfl
      · rw [← hV (ls_z1 (by simp [c109]) hB)]
theorem lp_ck2 {p t N : Nat} {V : Option Nat × ax_R} {W : ax_R} (ht : t < 60) (K : ax_Z mX4_check 1 0 0 (ax_D (ax_i (oI V.1)) (fh c V.2)) 196 [some (ax_r (80, 0)), some (ax_i (nI p)), some (ax_i (nI t)), none, none] [] (fh c W) 0 0) : ∀ (q i : Nat) (ρ : ax_R), i + q = 8 * t + N → ρ.1 14 t = N → rf_ok ρ → (List.range' i q).foldl rKb ρ = W → ax_Z mX4_check 1 0 0 (ax_D (ax_i (oI V.1)) (fh c V.2)) 125 [some (ax_r (80, 0)), some (ax_i (nI p)), some (ax_i (nI t)), some (ax_i (nI i)), none] [] (fh c ρ) 0 0 := by
  intro q
  induction q with
  | zero =>
    intro i ρ hk hN hw hW
    have h14 := rk_14 hw t
    have e : ρ = W := hW
    subst e
    refine ax_iload_n dX4_check_125 rfl ?_
    refine ax_bipush (nI 8) dX4_check_126 (by decide) ?_
    refine ax_iload_n dX4_check_128 rfl ?_
    refine ax_imuln dX4_check_129 ?_
    refine ax_aload_n dX4_check_130 rfl ?_
    refine rg_14 dX4_check_131 ?_
    refine ax_iload_n dX4_check_134 rfl ?_
    refine rl_14 dX4_check_135 (by omega) ?_
    refine ax_iaddn dX4_check_136 ?_
    refine ax_nge 196 dX4_check_137 (by decide) (by omega) (by omega) (fun c137 => ?_) (fun c137 => absurd c137 (by omega))
    refine ax_fg [true, true, true, false, false] rfl ?_
    exact K
  | succ q ih =>
    intro i ρ hk hN hw hW
    have h14 := rk_14 hw t
    have h18 := rk_18 hw i
    have h19 := rk_19 hw i
    rw [List.range'_succ, List.foldl_cons] at hW
    refine ax_iload_n dX4_check_125 rfl ?_
    refine ax_bipush (nI 8) dX4_check_126 (by decide) ?_
    refine ax_iload_n dX4_check_128 rfl ?_
    refine ax_imuln dX4_check_129 ?_
    refine ax_aload_n dX4_check_130 rfl ?_
    refine rg_14 dX4_check_131 ?_
    refine ax_iload_n dX4_check_134 rfl ?_
    refine rl_14 dX4_check_135 (by omega) ?_
    refine ax_iaddn dX4_check_136 ?_
    refine ax_nge 196 dX4_check_137 (by decide) (by omega) (by omega) (fun c137 => absurd c137 (by omega)) (fun c137 => ?_)
    refine ax_bipush (nI 8) dX4_check_140 (by decide) ?_
    refine ax_aload_n dX4_check_142 rfl ?_
    refine rg_18 dX4_check_143 ?_
    refine ax_iload_n dX4_check_146 rfl ?_
    refine rl_18 dX4_check_147 (by omega) ?_
    refine ax_imuln dX4_check_148 ?_
    refine ax_aload_n dX4_check_149 rfl ?_
    refine rg_19 dX4_check_150 ?_
    refine ax_iload_n dX4_check_153 rfl ?_
    refine rl_19 dX4_check_154 (by omega) ?_
    refine ax_iaddn dX4_check_155 ?_
    refine ax_istore dX4_check_156 rfl (by decide) ?_
    refine ax_aload_n dX4_check_158 rfl ?_
    refine rg_32 dX4_check_159 ?_
    refine ax_iload dX4_check_162 rfl ?_
    refine ax_aload_n dX4_check_164 rfl ?_
    refine rg_22 dX4_check_165 ?_
    refine ax_iload_n dX4_check_168 rfl ?_
    refine rl_22 dX4_check_169 (by omega) ?_
    refine ax_beq 182 dX4_check_170 (by decide) (fun c170 => ?_) (fun c170 => ?_)
    · refine ax_aload_n dX4_check_182 rfl ?_
      refine rg_32 dX4_check_183 ?_
      refine ax_iload dX4_check_186 rfl ?_
      refine rl_32 dX4_check_188 (by omega) ?_
      refine rs_32 dX4_check_189 (by omega) ?_
      refine ax_iincn (n := 1) dX4_check_190 rfl (by decide) rfl ?_
      refine ax_goto 125 dX4_check_193 (by decide) ?_
      refine ax_fg [true, true, true, true, false] rfl ?_
      refine ax_hq (h2 := fh c (rKb ρ i)) (congrArg (fh c) (by simp [rKb, c170])) ?_
      exact ih (i + 1) (rKb ρ i) (by omega) hN (rKb_ok hw) hW
    · refine ax_aload_n dX4_check_173 rfl ?_
      refine rg_23 dX4_check_174 ?_
      refine ax_iload_n dX4_check_177 rfl ?_
      refine rl_23 dX4_check_178 (by omega) ?_
      refine ax_goto 189 dX4_check_179 (by decide) ?_
      refine rs_32 dX4_check_189 (by omega) ?_
      refine ax_iincn (n := 1) dX4_check_190 rfl (by decide) rfl ?_
      refine ax_goto 125 dX4_check_193 (by decide) ?_
      refine ax_fg [true, true, true, true, false] rfl ?_
      refine ax_hq (h2 := fh c (rKb ρ i)) (congrArg (fh c) (by simp [rKb, c170])) ?_
      exact ih (i + 1) (rKb ρ i) (by omega) hN (rKb_ok hw) hW
theorem lp_ck3 {p T : Nat} {V : Option Nat × ax_R} (hp : p < 2 ^ 31) : ∀ (q t : Nat) (ρ : ax_R) (W : Option Nat × ax_R), t + q = T → ρ.1 10 0 = T → rf_ok ρ → rKt p (List.range' t q) ρ = W → (∀ u, W.1 = some u → W = V) → (W.1 = none → ax_Z mX4_check 1 0 0 (ax_D (ax_i (oI V.1)) (fh c V.2)) 202 [some (ax_r (80, 0)), some (ax_i (nI p)), none, none, none] [] (fh c W.2) 0 0) → ax_Z mX4_check 1 0 0 (ax_D (ax_i (oI V.1)) (fh c V.2)) 33 [some (ax_r (80, 0)), some (ax_i (nI p)), some (ax_i (nI t)), none, none] [] (fh c ρ) 0 0 := by
  intro q
  induction q with
  | zero =>
    intro t ρ W hk hT hw hW hV K
    have h10 := rk_10 hw
    subst hW
    refine ax_iload_n dX4_check_33 rfl ?_
    refine ax_aload_n dX4_check_34 rfl ?_
    refine rg_10 dX4_check_35 ?_
    refine ax_nge 202 dX4_check_38 (by decide) (by omega) (by omega) (fun c38 => ?_) (fun c38 => absurd c38 (by omega))
    refine ax_fg [true, true, false, false, false] rfl ?_
    exact K rfl
  | succ q ih =>
    intro t ρ W hk hT hw hW hV K
    have h10 := rk_10 hw
    have ht : t < 60 := by omega
    rw [List.range'_succ] at hW
    refine ax_iload_n dX4_check_33 rfl ?_
    refine ax_aload_n dX4_check_34 rfl ?_
    refine rg_10 dX4_check_35 ?_
    refine ax_nge 202 dX4_check_38 (by decide) (by first | omega | exact rk_N hw _ _) (by first | omega | exact rk_N hw _ _) (fun c38 => absurd c38 (by omega)) (fun c38 => ?_)
    refine ax_aload_n dX4_check_41 rfl ?_
    refine rg_16 dX4_check_42 ?_
    refine ax_iload_n dX4_check_45 rfl ?_
    refine rl_16 dX4_check_46 (by first | omega | exact rk_N hw _ _) ?_
    refine ax_iload_n dX4_check_47 rfl ?_
    refine ax_nne 196 dX4_check_48 (by decide) (by first | omega | exact rk_N hw _ _) (by first | omega | exact rk_N hw _ _) (fun c48 => ?_) (fun c48 => ?_)
    · refine ax_iincn (n := 1) dX4_check_196 rfl (by decide) rfl ?_
      refine ax_goto 33 dX4_check_199 (by decide) ?_
      refine ax_fg [true, true, true, false, false] rfl ?_
      exact ih (t + 1) ρ W (by omega) hT hw (by rw [← hW, rKt, if_neg (by simp [c38, c48])]) hV K
    · refine ax_aload_n dX4_check_51 rfl ?_
      refine rg_12 dX4_check_52 ?_
      refine ax_iload_n dX4_check_55 rfl ?_
      refine rl_12 dX4_check_56 (by first | omega | exact rk_N hw _ _) ?_
      refine ax_bipush (nI 7) dX4_check_57 (by decide) ?_
      refine ax_nne 196 dX4_check_59 (by decide) (by first | omega | exact rk_N hw _ _) (by first | omega | exact rk_N hw _ _) (fun c59 => ?_) (fun c59 => ?_)
      · refine ax_iincn (n := 1) dX4_check_196 rfl (by decide) rfl ?_
        refine ax_goto 33 dX4_check_199 (by decide) ?_
        refine ax_fg [true, true, true, false, false] rfl ?_
        exact ih (t + 1) ρ W (by omega) hT hw (by rw [← hW, rKt, if_neg (by simp [c38, c48, c59])]) hV K
      · refine ax_bipush (nI 8) dX4_check_62 (by decide) ?_
        refine ax_iload_n dX4_check_64 rfl ?_
        refine ax_imuln dX4_check_65 ?_
        refine ax_istore_n dX4_check_66 rfl (by decide) ?_
        have e1 : rKt p (t :: List.range' (t + 1) q) ρ = (if rKa ρ t = true then rKt p (List.range' (t + 1) q) ((rI ρ t).foldl rKb ρ) else (some t, ρ)) := by rw [rKt, if_pos ⟨c48, c59⟩]
        rw [e1] at hW
        refine lp_ck1 hw ht (ρ.1 14 t) (8 * t) (rKa ρ t) rfl rfl (fun z => ?_) (fun z => ?_)
        · rw [if_neg (by simp [z])] at hW; rw [hW]; exact hV t (by rw [← hW])
        · rw [if_pos z] at hW
          have KK : ax_Z mX4_check 1 0 0 (ax_D (ax_i (oI V.1)) (fh c V.2)) 196 [some (ax_r (80, 0)), some (ax_i (nI p)), some (ax_i (nI t)), none, none] [] (fh c ((rI ρ t).foldl rKb ρ)) 0 0 := by
            refine ax_iincn (n := 1) dX4_check_196 rfl (by decide) rfl ?_
            refine ax_goto 33 dX4_check_199 (by decide) ?_
            exact ih (t + 1) _ W (by omega) (by rw [fl_1 rKb_1]; exact hT) (fl_ok (fun _ _ h => rKb_ok h) _ _ hw) hW hV K
          refine ax_bipush (nI 8) dX4_check_120 (by decide) ?_
          refine ax_iload_n dX4_check_122 rfl ?_
          refine ax_imuln dX4_check_123 ?_
          refine ax_istore_n dX4_check_124 rfl (by decide) ?_
          exact lp_ck2 ht KK (ρ.1 14 t) (8 * t) ρ rfl rfl hw rfl
theorem lp_ck4 {T N : Nat} {V : Option Nat × ax_R} (hN : N < 1000000) : ∀ (q p : Nat) (ρ : ax_R), p + q = N + 1 → ρ.1 17 0 = N → ρ.1 10 0 = T → rf_ok ρ → rKp T (List.range' p q) ρ = V → ax_Z mX4_check 1 0 0 (ax_D (ax_i (oI V.1)) (fh c V.2)) 23 [some (ax_r (80, 0)), some (ax_i (nI p)), none, none, none] [] (fh c ρ) 0 0 := by
  intro q
  induction q with
  | zero =>
    intro p ρ hk h17 hT hw hV
    subst hV
    refine ax_iload_n dX4_check_23 rfl ?_
    refine ax_aload_n dX4_check_24 rfl ?_
    refine rg_17 dX4_check_25 ?_
    refine ax_ngt 208 dX4_check_28 (by decide) (by omega) (by omega) (fun c28 => ?_) (fun c28 => absurd c28 (by omega))
    refine ax_bipush (-9) dX4_check_208 (by decide) ?_
    refine ax_iretD dX4_check_210 rfl ⟨(Nat.le_refl _), (Nat.le_refl _)⟩ ?_ ?_
    · rfl
    · rfl
  | succ q ih =>
    intro p ρ hk h17 hT hw hV
    rw [List.range'_succ] at hV
    have KK : (rKt p (List.range' 0 T) ρ).1 = none → ax_Z mX4_check 1 0 0 (ax_D (ax_i (oI V.1)) (fh c V.2)) 202 [some (ax_r (80, 0)), some (ax_i (nI p)), none, none, none] [] (fh c (rKt p (List.range' 0 T) ρ).2) 0 0 := by
      intro z
      refine ax_iincn (n := 1) dX4_check_202 rfl (by decide) rfl ?_
      refine ax_goto 23 dX4_check_205 (by decide) ?_
      exact ih (p + 1) _ (by omega) (by rw [rKt_1]; exact h17) (by rw [rKt_1]; exact hT) (rKt_ok p _ _ hw) (by rw [← hV, rKp, z])
    refine ax_iload_n dX4_check_23 rfl ?_
    refine ax_aload_n dX4_check_24 rfl ?_
    refine rg_17 dX4_check_25 ?_
    refine ax_ngt 208 dX4_check_28 (by decide) (by omega) (by omega) (fun c28 => absurd c28 (by omega)) (fun c28 => ?_)
    refine ax_iconst (nI 0) dX4_check_31 (by decide) ?_
    refine ax_istore_n dX4_check_32 rfl (by decide) ?_
    exact lp_ck3 (by omega) T 0 ρ (rKt p (List.range' 0 T) ρ) (Nat.zero_add _) hT hw rfl (fun u hu => by rw [← hV, rKp, hu]; exact Prod.ext hu rfl) KK
theorem lp_ck5 {T N : Nat} {V : Option Nat × ax_R} (hN : N < 1000000) : ∀ (q k : Nat) (ρ : ax_R), k + q = 48 → ρ.1 17 0 = N → ρ.1 10 0 = T → rf_ok ρ → rKp T (List.range' 1 N) ((List.range' k q).foldl rKm ρ) = V → ax_Z mX4_check 1 0 0 (ax_D (ax_i (oI V.1)) (fh c V.2)) 2 [some (ax_r (80, 0)), some (ax_i (nI k)), none, none, none] [] (fh c ρ) 0 0 := by
  intro q
  induction q with
  | zero =>
    intro k ρ hk h17 hT hw hV
    refine ax_iload_n dX4_check_2 rfl ?_
    refine ax_bipush (nI 48) dX4_check_3 (by decide) ?_
    refine ax_nge 21 dX4_check_5 (by decide) (by omega) (by omega) (fun c5 => ?_) (fun c5 => absurd c5 (by omega))
    refine ax_iconst (nI 1) dX4_check_21 (by decide) ?_
    refine ax_istore_n dX4_check_22 rfl (by decide) ?_
    exact lp_ck4 hN N 1 ρ (by omega) h17 hT hw hV
  | succ q ih =>
    intro k ρ hk h17 hT hw hV
    rw [List.range'_succ, List.foldl_cons] at hV
    refine ax_iload_n dX4_check_2 rfl ?_
    refine ax_bipush (nI 48) dX4_check_3 (by decide) ?_
    refine ax_nge 21 dX4_check_5 (by decide) (by omega) (by omega) (fun c5 => absurd c5 (by omega)) (fun c5 => ?_)
    refine ax_aload_n dX4_check_8 rfl ?_
    refine rg_32 dX4_check_9 ?_
    refine ax_iload_n dX4_check_12 rfl ?_
    refine ax_iconst (0) dX4_check_13 (by decide) ?_
    refine rs_32 dX4_check_14 (by omega) ?_
    refine ax_iincn (n := 1) dX4_check_15 rfl (by decide) rfl ?_
    refine ax_goto 2 dX4_check_18 (by decide) ?_
    exact ih (k + 1) (rKm ρ k) (by omega) h17 hT (rKm_ok hw) hV
theorem ok_check (hw : rf_ok ρ) : ax_Ok mX4_check yX4_check 1 0 0 [ax_r (80, 0)] (fh c ρ) (ax_D (ax_i (oI (rCk ρ).1)) (fh c (rCk ρ).2)) := by
  refine ax_Ok.of (by decide) rfl (fun q => by cases q) (Nat.le_of_ble_eq_true rfl) rfl ?_
  refine ax_iconst (nI 0) dX4_check_0 (by decide) ?_
  refine ax_istore_n dX4_check_1 rfl (by decide) ?_
  exact lp_ck5 (hw.1 17 0) 48 0 ρ rfl rfl rfl hw rfl
end REFM
def rZ : ax_R := (fun _ _ => 0, fun _ _ => false, fun _ _ => 0)
def rF0 : List ax_V := [ax_z, ax_z, ax_z, ax_i 0, ax_i 0, ax_z, ax_z, ax_z, ax_z, ax_z, ax_i 0, ax_z, ax_z, ax_z, ax_z, ax_z, ax_z, ax_i 0, ax_z, ax_z, ax_z, ax_z, ax_z, ax_z, ax_z, ax_i 0, ax_z, ax_z, ax_i 0, ax_i 0, ax_i 0, ax_z, ax_z]
def fhI (c : ax_H) (fs : List ax_V) (Q : List Nat) : ax_H := fun u => match u.1 with
  | 80 => (match u.2 with
    | 0 => some (ax_o 5 fs)
    | _ => none)
  | 81 => if u.2 ∈ Q then rf_a rZ u.2 else none
  | _ => c u
theorem fh_o {c : ax_H} {ρ : ax_R} {t i : Nat} (h0 : t ≠ 80) (h1 : t ≠ 81) : fh c ρ (t, i) = c (t, i) := by
  unfold fh
  split
  · rename_i h; exact absurd h h0
  · rename_i h; exact absurd h h1
  · rfl
theorem fhI_o {c : ax_H} {fs : List ax_V} {Q : List Nat} {t i : Nat} (h0 : t ≠ 80) (h1 : t ≠ 81) : fhI c fs Q (t, i) = c (t, i) := by
  unfold fhI
  split
  · rename_i h; exact absurd h h0
  · rename_i h; exact absurd h h1
  · rfl
theorem fhI_new {c : ax_H} {fs : List ax_V} {Q : List Nat} {k : Nat} {C : ax_C} (h : rf_a rZ k = some C) : ax_up (fhI c fs Q) (81, k) C = fhI c fs (k :: Q) := by
  funext u
  obtain ⟨t, i⟩ := u
  by_cases e : (t, i) = (81, k)
  · cases e
    rw [ax_up_s]
    show some C = if k ∈ k :: Q then rf_a rZ k else none
    rw [if_pos List.mem_cons_self, h]
  · rw [ax_up_n e]
    unfold fhI
    split
    · rfl
    · rename_i ht
      have ht : t = 81 := ht
      subst ht
      have hik : i ≠ k := fun q => e (by rw [q])
      simp [hik]
    · rfl
theorem fhI_put {c : ax_H} {fs gs : List ax_V} {Q : List Nat} : ax_up (fhI c fs Q) (80, 0) (ax_o 5 gs) = fhI c gs Q := by
  funext u
  obtain ⟨t, i⟩ := u
  by_cases e : (t, i) = (80, 0)
  · cases e
    rw [ax_up_s]
    rfl
  · rw [ax_up_n e]
    unfold fhI
    split
    · rename_i ht
      have ht : t = 80 := ht
      subst ht
      split
      · rename_i hi
        have hi : i = 0 := hi
        subst hi
        exact absurd rfl e
      · rfl
    · rfl
    · rfl
theorem fhI_all {c : ax_H} : fhI c (rf_f rZ) [32, 31, 27, 26, 24, 23, 22, 21, 20, 19, 18, 16, 15, 14, 13, 12, 11, 9, 8, 7, 6, 5, 2, 1, 0] = fh c rZ := by
  funext u
  obtain ⟨t, i⟩ := u
  by_cases h0 : t = 80
  · subst h0; rfl
  · by_cases h1 : t = 81
    · subst h1
      show (if i ∈ _ then rf_a rZ i else none) = rf_a rZ i
      split
      · rfl
      · rename_i hi
        unfold rf_a
        split <;> first | rfl | (exfalso; apply hi; decide)
    · rw [fh_o h0 h1, fhI_o h0 h1]
def rI1 (ρ : ax_R) (m : Nat) : ax_R := bu (bu ρ 0 m true) 1 m true
def rI2 (ρ : ax_R) (k : Nat) : ax_R := ru ρ 9 k (-9)
def rNew : ax_R := (List.range' 0 48).foldl rI2 ((List.range' 0 6).foldl rI1 rZ)
theorem hm_init {fs : List ax_V} {c : ax_H} {Q : List Nat} : fhI c fs Q (80, 0) = some (ax_o 5 fs) := rfl
theorem oi_w1 : Cond.methodLink "LockLookMemoryModel" 1 objectInit ∈ ax_T := List.mem_filter.mpr ⟨List.mem_append_right _ (List.mem_of_getElem? (i := 585) (by decide +kernel)), by decide +kernel⟩
theorem oi_w2 : Cond.instanceMethod objectInit ∈ ax_T := List.mem_filter.mpr ⟨List.mem_append_right _ (List.mem_of_getElem? (i := 22) (by decide +kernel)), by decide +kernel⟩
theorem oi_w3 : Cond.code objectInit ⟨#[0xb1]⟩ 1 none ∈ ax_T := List.mem_filter.mpr ⟨List.mem_append_right _ (List.mem_of_getElem? (i := 23) (by decide +kernel)), by decide +kernel⟩
theorem ac_i : Cond.arrayClass .int ∈ ax_T := List.mem_filter.mpr ⟨List.mem_append_right _ (List.mem_of_getElem? (i := 72) (by decide +kernel)), by decide +kernel⟩
theorem ac_z : Cond.arrayClass .boolean ∈ ax_T := List.mem_filter.mpr ⟨List.mem_append_right _ (List.mem_of_getElem? (i := 686) (by decide +kernel)), by decide +kernel⟩
theorem nn0 {n : Nat} (h : n < 2 ^ 31) : ¬ nI n < 0 := nI_pos h
section REFI
variable {c : ax_H}
theorem lp_in2 {V : ax_R} : ∀ (q k : Nat) (ρ : ax_R), k + q = 48 → (List.range' k q).foldl rI2 ρ = V → ax_Z mX4_init 2 25 7338 (ax_DV (fh c V)) 245 [some (ax_r (80, 0)), some (ax_i (nI k))] [] (fh c ρ) 25 7338 := by
  intro q
  induction q with
  | zero =>
    intro k ρ hk hV
    refine ax_iload_n dX4_init_245 rfl ?_
    refine ax_bipush (nI 48) dX4_init_246 (by decide) ?_
    refine ax_nge 265 dX4_init_248 (by decide) (by omega) (by omega) (fun c248 => ?_) (fun c248 => absurd c248 (by omega))
    refine ax_vretD dX4_init_265 rfl ⟨(Nat.le_refl _), (Nat.le_refl _)⟩ ?_
    exact congrArg (fh c) hV
  | succ q ih =>
    intro k ρ hk hV
    rw [List.range'_succ, List.foldl_cons] at hV
    refine ax_iload_n dX4_init_245 rfl ?_
    refine ax_bipush (nI 48) dX4_init_246 (by decide) ?_
    refine ax_nge 265 dX4_init_248 (by decide) (by omega) (by omega) (fun c248 => absurd c248 (by omega)) (fun c248 => ?_)
    refine ax_aload_n dX4_init_251 rfl ?_
    refine rg_9 dX4_init_252 ?_
    refine ax_iload_n dX4_init_255 rfl ?_
    refine ax_bipush (-9) dX4_init_256 (by decide) ?_
    refine rs_9 dX4_init_258 (by omega) ?_
    refine ax_iincn (n := 1) dX4_init_259 rfl (by decide) rfl ?_
    refine ax_goto 245 dX4_init_262 (by decide) ?_
    exact ih (k + 1) (rI2 ρ k) (by omega) hV
theorem lp_in1 {V : ax_R} : ∀ (q m : Nat) (ρ : ax_R), m + q = 6 → (List.range' 0 48).foldl rI2 ((List.range' m q).foldl rI1 ρ) = V → ax_Z mX4_init 2 25 7338 (ax_DV (fh c V)) 217 [some (ax_r (80, 0)), some (ax_i (nI m))] [] (fh c ρ) 25 7338 := by
  intro q
  induction q with
  | zero =>
    intro m ρ hk hV
    refine ax_iload_n dX4_init_217 rfl ?_
    refine ax_bipush (nI 6) dX4_init_218 (by decide) ?_
    refine ax_nge 243 dX4_init_220 (by decide) (by omega) (by omega) (fun c220 => ?_) (fun c220 => absurd c220 (by omega))
    refine ax_iconst (nI 0) dX4_init_243 (by decide) ?_
    refine ax_istore_n dX4_init_244 rfl (by decide) ?_
    exact lp_in2 48 0 ρ rfl hV
  | succ q ih =>
    intro m ρ hk hV
    rw [List.range'_succ, List.foldl_cons] at hV
    refine ax_iload_n dX4_init_217 rfl ?_
    refine ax_bipush (nI 6) dX4_init_218 (by decide) ?_
    refine ax_nge 243 dX4_init_220 (by decide) (by omega) (by omega) (fun c220 => absurd c220 (by omega)) (fun c220 => ?_)
    refine ax_aload_n dX4_init_223 rfl ?_
    refine rg_0 dX4_init_224 ?_
    refine ax_iload_n dX4_init_227 rfl ?_
    refine ax_iconst (ax_b true) dX4_init_228 (by decide) ?_
    refine rs_0 dX4_init_229 (by omega) ?_
    refine ax_aload_n dX4_init_230 rfl ?_
    refine rg_1 dX4_init_231 ?_
    refine ax_iload_n dX4_init_234 rfl ?_
    refine ax_iconst (ax_b true) dX4_init_235 (by decide) ?_
    refine rs_1 dX4_init_236 (by omega) ?_
    refine ax_iincn (n := 1) dX4_init_237 rfl (by decide) rfl ?_
    refine ax_goto 217 dX4_init_240 (by decide) ?_
    exact ih (m + 1) (rI1 ρ m) (by omega) hV
theorem ok_init : ax_Ok mX4_init yX4_init 2 25 7338 [ax_r (80, 0)] (fhI c rF0 []) (ax_DV (fh c rNew)) := by
  refine ax_Ok.of (by decide) rfl (fun _ => rfl) (Nat.le_of_ble_eq_true rfl) rfl ?_
  refine ax_aload_n dX4_init_0 rfl ?_
  refine ax_oinit dX4_init_1 oi_w1 oi_w2 oi_w3 (by decide) (Nat.le_of_ble_eq_true rfl) ?_
  refine ax_aload_n dX4_init_4 rfl ?_
  refine ax_bipush (nI 6) dX4_init_5 (by decide) ?_
  refine ax_newz (81, 0) 6 dX4_init_7 ac_z (nn0 (by decide)) (nI_clamp (by decide)) (by decide) rfl (by decide) (Nat.le_of_ble_eq_true rfl) (Nat.le_of_ble_eq_true rfl) ?_
  refine ax_hq (fhI_new (k := 0) rfl) ?_
  refine ax_putF (ci := 5) (k := 0) (T := TX4) (ty := .array .boolean) dX4_init_9 hm_init rfl (by decide) (Nat.le_of_ble_eq_true rfl) fl_X4_7 rfl rfl rfl (by decide +kernel) (fun _ => rfl) (fun _ => rfl) fhI_put ?_
  refine ax_aload_n dX4_init_12 rfl ?_
  refine ax_bipush (nI 6) dX4_init_13 (by decide) ?_
  refine ax_newz (81, 1) 6 dX4_init_15 ac_z (nn0 (by decide)) (nI_clamp (by decide)) (by decide) rfl (by decide) (Nat.le_of_ble_eq_true rfl) (Nat.le_of_ble_eq_true rfl) ?_
  refine ax_hq (fhI_new (k := 1) rfl) ?_
  refine ax_putF (ci := 5) (k := 1) (T := TX4) (ty := .array .boolean) dX4_init_17 hm_init rfl (by decide) (Nat.le_of_ble_eq_true rfl) fl_X4_13 rfl rfl rfl (by decide +kernel) (fun _ => rfl) (fun _ => rfl) fhI_put ?_
  refine ax_aload_n dX4_init_20 rfl ?_
  refine ax_bipush (nI 6) dX4_init_21 (by decide) ?_
  refine ax_newz (81, 2) 6 dX4_init_23 ac_z (nn0 (by decide)) (nI_clamp (by decide)) (by decide) rfl (by decide) (Nat.le_of_ble_eq_true rfl) (Nat.le_of_ble_eq_true rfl) ?_
  refine ax_hq (fhI_new (k := 2) rfl) ?_
  refine ax_putF (ci := 5) (k := 2) (T := TX4) (ty := .array .boolean) dX4_init_25 hm_init rfl (by decide) (Nat.le_of_ble_eq_true rfl) fl_X4_16 rfl rfl rfl (by decide +kernel) (fun _ => rfl) (fun _ => rfl) fhI_put ?_
  refine ax_aload_n dX4_init_28 rfl ?_
  refine ax_bipush (nI 6) dX4_init_29 (by decide) ?_
  refine ax_newi (81, 5) 6 dX4_init_31 ac_i (nn0 (by decide)) (nI_clamp (by decide)) (by decide) rfl (by decide) (Nat.le_of_ble_eq_true rfl) (Nat.le_of_ble_eq_true rfl) ?_
  refine ax_hq (fhI_new (k := 5) rfl) ?_
  refine ax_putF (ci := 5) (k := 5) (T := TX4) (ty := .array .int) dX4_init_33 hm_init rfl (by decide) (Nat.le_of_ble_eq_true rfl) fl_X4_19 rfl rfl rfl (by decide +kernel) (fun _ => rfl) (fun _ => rfl) fhI_put ?_
  refine ax_aload_n dX4_init_36 rfl ?_
  refine ax_bipush (nI 36) dX4_init_37 (by decide) ?_
  refine ax_newi (81, 6) 36 dX4_init_39 ac_i (nn0 (by decide)) (nI_clamp (by decide)) (by decide) rfl (by decide) (Nat.le_of_ble_eq_true rfl) (Nat.le_of_ble_eq_true rfl) ?_
  refine ax_hq (fhI_new (k := 6) rfl) ?_
  refine ax_putF (ci := 5) (k := 6) (T := TX4) (ty := .array .int) dX4_init_41 hm_init rfl (by decide) (Nat.le_of_ble_eq_true rfl) fl_X4_23 rfl rfl rfl (by decide +kernel) (fun _ => rfl) (fun _ => rfl) fhI_put ?_
  refine ax_aload_n dX4_init_44 rfl ?_
  refine ax_sipush (nI 288) dX4_init_45 (by decide) ?_
  refine ax_newi (81, 7) 288 dX4_init_48 ac_i (nn0 (by decide)) (nI_clamp (by decide)) (by decide) rfl (by decide) (Nat.le_of_ble_eq_true rfl) (Nat.le_of_ble_eq_true rfl) ?_
  refine ax_hq (fhI_new (k := 7) rfl) ?_
  refine ax_putF (ci := 5) (k := 7) (T := TX4) (ty := .array .int) dX4_init_50 hm_init rfl (by decide) (Nat.le_of_ble_eq_true rfl) fl_X4_26 rfl rfl rfl (by decide +kernel) (fun _ => rfl) (fun _ => rfl) fhI_put ?_
  refine ax_aload_n dX4_init_53 rfl ?_
  refine ax_sipush (nI 288) dX4_init_54 (by decide) ?_
  refine ax_newi (81, 8) 288 dX4_init_57 ac_i (nn0 (by decide)) (nI_clamp (by decide)) (by decide) rfl (by decide) (Nat.le_of_ble_eq_true rfl) (Nat.le_of_ble_eq_true rfl) ?_
  refine ax_hq (fhI_new (k := 8) rfl) ?_
  refine ax_putF (ci := 5) (k := 8) (T := TX4) (ty := .array .int) dX4_init_59 hm_init rfl (by decide) (Nat.le_of_ble_eq_true rfl) fl_X4_29 rfl rfl rfl (by decide +kernel) (fun _ => rfl) (fun _ => rfl) fhI_put ?_
  refine ax_aload_n dX4_init_62 rfl ?_
  refine ax_bipush (nI 48) dX4_init_63 (by decide) ?_
  refine ax_newi (81, 9) 48 dX4_init_65 ac_i (nn0 (by decide)) (nI_clamp (by decide)) (by decide) rfl (by decide) (Nat.le_of_ble_eq_true rfl) (Nat.le_of_ble_eq_true rfl) ?_
  refine ax_hq (fhI_new (k := 9) rfl) ?_
  refine ax_putF (ci := 5) (k := 9) (T := TX4) (ty := .array .int) dX4_init_67 hm_init rfl (by decide) (Nat.le_of_ble_eq_true rfl) fl_X4_32 rfl rfl rfl (by decide +kernel) (fun _ => rfl) (fun _ => rfl) fhI_put ?_
  refine ax_aload_n dX4_init_70 rfl ?_
  refine ax_bipush (nI 60) dX4_init_71 (by decide) ?_
  refine ax_newi (81, 11) 60 dX4_init_73 ac_i (nn0 (by decide)) (nI_clamp (by decide)) (by decide) rfl (by decide) (Nat.le_of_ble_eq_true rfl) (Nat.le_of_ble_eq_true rfl) ?_
  refine ax_hq (fhI_new (k := 11) rfl) ?_
  refine ax_putF (ci := 5) (k := 11) (T := TX4) (ty := .array .int) dX4_init_75 hm_init rfl (by decide) (Nat.le_of_ble_eq_true rfl) fl_X4_35 rfl rfl rfl (by decide +kernel) (fun _ => rfl) (fun _ => rfl) fhI_put ?_
  refine ax_aload_n dX4_init_78 rfl ?_
  refine ax_bipush (nI 60) dX4_init_79 (by decide) ?_
  refine ax_newi (81, 12) 60 dX4_init_81 ac_i (nn0 (by decide)) (nI_clamp (by decide)) (by decide) rfl (by decide) (Nat.le_of_ble_eq_true rfl) (Nat.le_of_ble_eq_true rfl) ?_
  refine ax_hq (fhI_new (k := 12) rfl) ?_
  refine ax_putF (ci := 5) (k := 12) (T := TX4) (ty := .array .int) dX4_init_83 hm_init rfl (by decide) (Nat.le_of_ble_eq_true rfl) fl_X4_38 rfl rfl rfl (by decide +kernel) (fun _ => rfl) (fun _ => rfl) fhI_put ?_
  refine ax_aload_n dX4_init_86 rfl ?_
  refine ax_bipush (nI 60) dX4_init_87 (by decide) ?_
  refine ax_newi (81, 13) 60 dX4_init_89 ac_i (nn0 (by decide)) (nI_clamp (by decide)) (by decide) rfl (by decide) (Nat.le_of_ble_eq_true rfl) (Nat.le_of_ble_eq_true rfl) ?_
  refine ax_hq (fhI_new (k := 13) rfl) ?_
  refine ax_putF (ci := 5) (k := 13) (T := TX4) (ty := .array .int) dX4_init_91 hm_init rfl (by decide) (Nat.le_of_ble_eq_true rfl) fl_X4_41 rfl rfl rfl (by decide +kernel) (fun _ => rfl) (fun _ => rfl) fhI_put ?_
  refine ax_aload_n dX4_init_94 rfl ?_
  refine ax_bipush (nI 60) dX4_init_95 (by decide) ?_
  refine ax_newi (81, 14) 60 dX4_init_97 ac_i (nn0 (by decide)) (nI_clamp (by decide)) (by decide) rfl (by decide) (Nat.le_of_ble_eq_true rfl) (Nat.le_of_ble_eq_true rfl) ?_
  refine ax_hq (fhI_new (k := 14) rfl) ?_
  refine ax_putF (ci := 5) (k := 14) (T := TX4) (ty := .array .int) dX4_init_99 hm_init rfl (by decide) (Nat.le_of_ble_eq_true rfl) fl_X4_44 rfl rfl rfl (by decide +kernel) (fun _ => rfl) (fun _ => rfl) fhI_put ?_
  refine ax_aload_n dX4_init_102 rfl ?_
  refine ax_bipush (nI 60) dX4_init_103 (by decide) ?_
  refine ax_newz (81, 15) 60 dX4_init_105 ac_z (nn0 (by decide)) (nI_clamp (by decide)) (by decide) rfl (by decide) (Nat.le_of_ble_eq_true rfl) (Nat.le_of_ble_eq_true rfl) ?_
  refine ax_hq (fhI_new (k := 15) rfl) ?_
  refine ax_putF (ci := 5) (k := 15) (T := TX4) (ty := .array .boolean) dX4_init_107 hm_init rfl (by decide) (Nat.le_of_ble_eq_true rfl) fl_X4_47 rfl rfl rfl (by decide +kernel) (fun _ => rfl) (fun _ => rfl) fhI_put ?_
  refine ax_aload_n dX4_init_110 rfl ?_
  refine ax_bipush (nI 60) dX4_init_111 (by decide) ?_
  refine ax_newi (81, 16) 60 dX4_init_113 ac_i (nn0 (by decide)) (nI_clamp (by decide)) (by decide) rfl (by decide) (Nat.le_of_ble_eq_true rfl) (Nat.le_of_ble_eq_true rfl) ?_
  refine ax_hq (fhI_new (k := 16) rfl) ?_
  refine ax_putF (ci := 5) (k := 16) (T := TX4) (ty := .array .int) dX4_init_115 hm_init rfl (by decide) (Nat.le_of_ble_eq_true rfl) fl_X4_50 rfl rfl rfl (by decide +kernel) (fun _ => rfl) (fun _ => rfl) fhI_put ?_
  refine ax_aload_n dX4_init_118 rfl ?_
  refine ax_sipush (nI 480) dX4_init_119 (by decide) ?_
  refine ax_newi (81, 18) 480 dX4_init_122 ac_i (nn0 (by decide)) (nI_clamp (by decide)) (by decide) rfl (by decide) (Nat.le_of_ble_eq_true rfl) (Nat.le_of_ble_eq_true rfl) ?_
  refine ax_hq (fhI_new (k := 18) rfl) ?_
  refine ax_putF (ci := 5) (k := 18) (T := TX4) (ty := .array .int) dX4_init_124 hm_init rfl (by decide) (Nat.le_of_ble_eq_true rfl) fl_X4_53 rfl rfl rfl (by decide +kernel) (fun _ => rfl) (fun _ => rfl) fhI_put ?_
  refine ax_aload_n dX4_init_127 rfl ?_
  refine ax_sipush (nI 480) dX4_init_128 (by decide) ?_
  refine ax_newi (81, 19) 480 dX4_init_131 ac_i (nn0 (by decide)) (nI_clamp (by decide)) (by decide) rfl (by decide) (Nat.le_of_ble_eq_true rfl) (Nat.le_of_ble_eq_true rfl) ?_
  refine ax_hq (fhI_new (k := 19) rfl) ?_
  refine ax_putF (ci := 5) (k := 19) (T := TX4) (ty := .array .int) dX4_init_133 hm_init rfl (by decide) (Nat.le_of_ble_eq_true rfl) fl_X4_56 rfl rfl rfl (by decide +kernel) (fun _ => rfl) (fun _ => rfl) fhI_put ?_
  refine ax_aload_n dX4_init_136 rfl ?_
  refine ax_sipush (nI 480) dX4_init_137 (by decide) ?_
  refine ax_newi (81, 20) 480 dX4_init_140 ac_i (nn0 (by decide)) (nI_clamp (by decide)) (by decide) rfl (by decide) (Nat.le_of_ble_eq_true rfl) (Nat.le_of_ble_eq_true rfl) ?_
  refine ax_hq (fhI_new (k := 20) rfl) ?_
  refine ax_putF (ci := 5) (k := 20) (T := TX4) (ty := .array .int) dX4_init_142 hm_init rfl (by decide) (Nat.le_of_ble_eq_true rfl) fl_X4_59 rfl rfl rfl (by decide +kernel) (fun _ => rfl) (fun _ => rfl) fhI_put ?_
  refine ax_aload_n dX4_init_145 rfl ?_
  refine ax_sipush (nI 480) dX4_init_146 (by decide) ?_
  refine ax_newi (81, 21) 480 dX4_init_149 ac_i (nn0 (by decide)) (nI_clamp (by decide)) (by decide) rfl (by decide) (Nat.le_of_ble_eq_true rfl) (Nat.le_of_ble_eq_true rfl) ?_
  refine ax_hq (fhI_new (k := 21) rfl) ?_
  refine ax_putF (ci := 5) (k := 21) (T := TX4) (ty := .array .int) dX4_init_151 hm_init rfl (by decide) (Nat.le_of_ble_eq_true rfl) fl_X4_62 rfl rfl rfl (by decide +kernel) (fun _ => rfl) (fun _ => rfl) fhI_put ?_
  refine ax_aload_n dX4_init_154 rfl ?_
  refine ax_sipush (nI 480) dX4_init_155 (by decide) ?_
  refine ax_newz (81, 22) 480 dX4_init_158 ac_z (nn0 (by decide)) (nI_clamp (by decide)) (by decide) rfl (by decide) (Nat.le_of_ble_eq_true rfl) (Nat.le_of_ble_eq_true rfl) ?_
  refine ax_hq (fhI_new (k := 22) rfl) ?_
  refine ax_putF (ci := 5) (k := 22) (T := TX4) (ty := .array .boolean) dX4_init_160 hm_init rfl (by decide) (Nat.le_of_ble_eq_true rfl) fl_X4_65 rfl rfl rfl (by decide +kernel) (fun _ => rfl) (fun _ => rfl) fhI_put ?_
  refine ax_aload_n dX4_init_163 rfl ?_
  refine ax_sipush (nI 480) dX4_init_164 (by decide) ?_
  refine ax_newi (81, 23) 480 dX4_init_167 ac_i (nn0 (by decide)) (nI_clamp (by decide)) (by decide) rfl (by decide) (Nat.le_of_ble_eq_true rfl) (Nat.le_of_ble_eq_true rfl) ?_
  refine ax_hq (fhI_new (k := 23) rfl) ?_
  refine ax_putF (ci := 5) (k := 23) (T := TX4) (ty := .array .int) dX4_init_169 hm_init rfl (by decide) (Nat.le_of_ble_eq_true rfl) fl_X4_68 rfl rfl rfl (by decide +kernel) (fun _ => rfl) (fun _ => rfl) fhI_put ?_
  refine ax_aload_n dX4_init_172 rfl ?_
  refine ax_sipush (nI 480) dX4_init_173 (by decide) ?_
  refine ax_newi (81, 24) 480 dX4_init_176 ac_i (nn0 (by decide)) (nI_clamp (by decide)) (by decide) rfl (by decide) (Nat.le_of_ble_eq_true rfl) (Nat.le_of_ble_eq_true rfl) ?_
  refine ax_hq (fhI_new (k := 24) rfl) ?_
  refine ax_putF (ci := 5) (k := 24) (T := TX4) (ty := .array .int) dX4_init_178 hm_init rfl (by decide) (Nat.le_of_ble_eq_true rfl) fl_X4_71 rfl rfl rfl (by decide +kernel) (fun _ => rfl) (fun _ => rfl) fhI_put ?_
  refine ax_aload_n dX4_init_181 rfl ?_
  refine ax_sipush (nI 1440) dX4_init_182 (by decide) ?_
  refine ax_newi (81, 26) 1440 dX4_init_185 ac_i (nn0 (by decide)) (nI_clamp (by decide)) (by decide) rfl (by decide) (Nat.le_of_ble_eq_true rfl) (Nat.le_of_ble_eq_true rfl) ?_
  refine ax_hq (fhI_new (k := 26) rfl) ?_
  refine ax_putF (ci := 5) (k := 26) (T := TX4) (ty := .array .int) dX4_init_187 hm_init rfl (by decide) (Nat.le_of_ble_eq_true rfl) fl_X4_74 rfl rfl rfl (by decide +kernel) (fun _ => rfl) (fun _ => rfl) fhI_put ?_
  refine ax_aload_n dX4_init_190 rfl ?_
  refine ax_sipush (nI 1440) dX4_init_191 (by decide) ?_
  refine ax_newi (81, 27) 1440 dX4_init_194 ac_i (nn0 (by decide)) (nI_clamp (by decide)) (by decide) rfl (by decide) (Nat.le_of_ble_eq_true rfl) (Nat.le_of_ble_eq_true rfl) ?_
  refine ax_hq (fhI_new (k := 27) rfl) ?_
  refine ax_putF (ci := 5) (k := 27) (T := TX4) (ty := .array .int) dX4_init_196 hm_init rfl (by decide) (Nat.le_of_ble_eq_true rfl) fl_X4_77 rfl rfl rfl (by decide +kernel) (fun _ => rfl) (fun _ => rfl) fhI_put ?_
  refine ax_aload_n dX4_init_199 rfl ?_
  refine ax_bipush (nI 6) dX4_init_200 (by decide) ?_
  refine ax_newi (81, 31) 6 dX4_init_202 ac_i (nn0 (by decide)) (nI_clamp (by decide)) (by decide) rfl (by decide) (Nat.le_of_ble_eq_true rfl) (Nat.le_of_ble_eq_true rfl) ?_
  refine ax_hq (fhI_new (k := 31) rfl) ?_
  refine ax_putF (ci := 5) (k := 31) (T := TX4) (ty := .array .int) dX4_init_204 hm_init rfl (by decide) (Nat.le_of_ble_eq_true rfl) fl_X4_80 rfl rfl rfl (by decide +kernel) (fun _ => rfl) (fun _ => rfl) fhI_put ?_
  refine ax_aload_n dX4_init_207 rfl ?_
  refine ax_bipush (nI 48) dX4_init_208 (by decide) ?_
  refine ax_newi (81, 32) 48 dX4_init_210 ac_i (nn0 (by decide)) (nI_clamp (by decide)) (by decide) rfl (by decide) (Nat.le_of_ble_eq_true rfl) (Nat.le_of_ble_eq_true rfl) ?_
  refine ax_hq (fhI_new (k := 32) rfl) ?_
  refine ax_putF (ci := 5) (k := 32) (T := TX4) (ty := .array .int) dX4_init_212 hm_init rfl (by decide) (Nat.le_of_ble_eq_true rfl) fl_X4_83 rfl rfl rfl (by decide +kernel) (fun _ => rfl) (fun _ => rfl) fhI_put ?_
  refine ax_hq (h2 := fh c rZ) ?_ ?_
  · exact fhI_all
  refine ax_iconst (nI 0) dX4_init_215 (by decide) ?_
  refine ax_istore_n dX4_init_216 rfl (by decide) ?_
  exact lp_in1 6 0 rZ rfl rfl
end REFI
