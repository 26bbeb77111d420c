def rV1 (ρ : ax_R) (i r : Nat) : Bool := (List.range' 0 (ρ.1 5 r)).any fun k => rO ρ r k && decide (ρ.1 24 i / 2 ^ k % 2 = 1)
def rV2 (ρ : ax_R) (i r : Nat) : Bool := (List.range' 0 (ρ.1 25 0)).any fun k => decide (ρ.2.2 26 k = nI i) && rO ρ r (ρ.1 27 k)
def rVn (ρ : ax_R) (i r n : Nat) : Nat := if (if rV1 ρ i r = true then 3 else n) < 3 ∧ rV2 ρ i r = true then 2 else (if rV1 ρ i r = true then 3 else n)
def rVs (ρ : ax_R) (t r : Nat) (s : Bool × Nat) (i : Nat) : Bool × Nat := if ρ.1 18 i = r ∧ ρ.2.1 22 i = true then (s.1 && decide (ρ.2.2 9 (8 * r + ρ.1 19 i) = nI t), rVn ρ i r s.2) else s
def rVf (s : Bool × Nat) : Nat := if s.2 = 0 then (if s.1 = true then 1 else 0) else s.2
def rVo (ρ : ax_R) (t r : Nat) : Nat := rVf ((rI ρ t).foldl (rVs ρ t r) (decide (oI (rL ρ r)[0]? = ρ.2.2 31 r), 0))
theorem rVn_le {ρ : ax_R} {i r n : Nat} (h : n ≤ 3) : rVn ρ i r n ≤ 3 := by
  have h2 : (if rV1 ρ i r = true then 3 else n) ≤ 3 := by split <;> omega
  unfold rVn
  generalize (if rV1 ρ i r = true then 3 else n) = x at h2
  split <;> omega
theorem ls_y0 {p : Nat → Bool} {k m : Nat} {B : Bool} (hp : p k = false) (hB : (List.range' k (m + 1)).any p = B) : (List.range' (k + 1) m).any p = B := by
  rw [← hB, List.range'_succ, List.any_cons, hp, Bool.false_or]
theorem ls_y1 {p : Nat → Bool} {k m : Nat} {B : Bool} (hp : p k = true) (hB : (List.range' k (m + 1)).any p = B) : B = true := by
  rw [← hB, List.range'_succ, List.any_cons, hp, Bool.true_or]
theorem if_s {c : Prop} [Decidable c] {α : Type} {x : α} : (if c then x else x) = x := by split <;> rfl
theorem shrk {a k : Nat} (ha : a < 64) (hk : k < 6) : nI a >>> (nI k &&& 31) = nI (a / 2 ^ k) := by
  refine pk_shrN (by omega) _ k ?_
  match k, hk with
  | 0, _ => decide
  | 1, _ => decide
  | 2, _ => decide
  | 3, _ => decide
  | 4, _ => decide
  | 5, _ => decide
theorem ls_g {α : Type} {f : α → Nat → α} {k m : Nat} {s V : α} (hV : (List.range' k (m + 1)).foldl f s = V) : (List.range' (k + 1) m).foldl f (f s k) = V := by
  rw [← hV, List.range'_succ, List.foldl_cons]
section REFM
variable {c : ax_H} {ρ : ax_R}
theorem lp_vote2 (hw : rf_ok ρ) {t r i V N : Nat} {a : Bool} (ht : t < 60) (hr : r < 6) (hi : i < 480) (K : ax_Z mX4_vote 4 0 0 (ax_D (ax_i (nI V)) (fh c ρ)) 210 [some (ax_r (80, 0)), some (ax_i (nI t)), some (ax_i (nI r)), some (ax_i (ax_b a)), some (ax_i (nI N)), some (ax_i (nI i)), none] [] (fh c ρ) 0 0) : ∀ (q k n : Nat) (B : Bool), k + q = ρ.1 25 0 → n ≤ 3 → (List.range' k q).any (fun k => decide (ρ.2.2 26 k = nI i) && rO ρ r (ρ.1 27 k)) = B → (if n < 3 ∧ B = true then 2 else n) = N → ax_Z mX4_vote 4 0 0 (ax_D (ax_i (nI V)) (fh c ρ)) 154 [some (ax_r (80, 0)), some (ax_i (nI t)), some (ax_i (nI r)), some (ax_i (ax_b a)), some (ax_i (nI n)), some (ax_i (nI i)), some (ax_i (nI k))] [] (fh c ρ) 0 0 := by
  intro q
  induction q with
  | zero =>
    intro k n B hk hn hB hN
    have h25 := rk_25 hw
    have eB : B = false := by rw [← hB]; rfl
    have e : n = N := by rw [← hN, if_neg (by simp [eB])]
    subst e
    refine ax_iload dX4_vote_154 rfl ?_
    refine ax_aload_n dX4_vote_156 rfl ?_
    refine rg_25 dX4_vote_157 ?_
    refine ax_nge 210 dX4_vote_160 (by decide) (by omega) (by omega) (fun c160 => ?_) (fun c160 => absurd c160 (by omega))
    refine ax_fg [true, true, true, true, true, true, false] rfl ?_
    exact K
  | succ q ih =>
    intro k n B hk hn hB hN
    have h25 := rk_25 hw
    refine ax_iload dX4_vote_154 rfl ?_
    refine ax_aload_n dX4_vote_156 rfl ?_
    refine rg_25 dX4_vote_157 ?_
    refine ax_nge 210 dX4_vote_160 (by decide) (by omega) (by omega) (fun c160 => absurd c160 (by omega)) (fun c160 => ?_)
    refine ax_iload dX4_vote_163 rfl ?_
    refine ax_iconst (nI 3) dX4_vote_165 (by decide) ?_
    refine ax_nge 210 dX4_vote_166 (by decide) (by omega) (by omega) (fun c166 => ?_) (fun c166 => ?_)
    · refine ax_fg [true, true, true, true, true, true, false] rfl ?_
      have e : n = N := by rw [← hN, if_neg (by omega)]
      subst e
      exact K
    · refine ax_aload_n dX4_vote_169 rfl ?_
      refine rg_26 dX4_vote_170 ?_
      refine ax_iload dX4_vote_173 rfl ?_
      refine rl_26 dX4_vote_175 (by omega) ?_
      refine ax_iload dX4_vote_176 rfl ?_
      refine ax_icmp_ne 200 dX4_vote_178 (by decide) (fun c178 => ?_) (fun c178 => ?_)
      · refine ax_iload dX4_vote_200 rfl ?_
        refine ax_istore dX4_vote_202 rfl (by decide) ?_
        refine ax_iincn (n := 1) dX4_vote_204 rfl (by decide) rfl ?_
        refine ax_goto 154 dX4_vote_207 (by decide) ?_
        exact ih (k + 1) n B (by omega) hn (ls_y0 (by simp [c178]) hB) hN
      · refine ax_aload_n dX4_vote_181 rfl ?_
        refine ax_iload_n dX4_vote_182 rfl ?_
        refine ax_aload_n dX4_vote_183 rfl ?_
        refine rg_27 dX4_vote_184 ?_
        refine ax_iload dX4_vote_187 rfl ?_
        refine rl_27 dX4_vote_189 (by omega) ?_
        refine ax_V2 cv_X4_96 dX4_vote_190 fh_M rfl (ok_isOn hw hr (rk_27 hw _)) (by decide) (Nat.le_refl _) (Nat.le_refl _) (Nat.le_of_ble_eq_true rfl) ?_
        refine ax_beq 200 dX4_vote_193 (by decide) (fun c193 => ?_) (fun c193 => ?_)
        · refine ax_iload dX4_vote_200 rfl ?_
          refine ax_istore dX4_vote_202 rfl (by decide) ?_
          refine ax_iincn (n := 1) dX4_vote_204 rfl (by decide) rfl ?_
          refine ax_goto 154 dX4_vote_207 (by decide) ?_
          first | exact ih (k + 1) n B (by omega) hn (ls_y0 (by simp [c178, c193]) hB) hN | exact ih (k + 1) 2 _ (by omega) (by decide) rfl (by rw [if_s, ← hN, ls_y1 (by simp [c178, c193]) hB, if_pos ⟨by omega, rfl⟩])
        · refine ax_iconst (nI 2) dX4_vote_196 (by decide) ?_
          refine ax_goto 202 dX4_vote_197 (by decide) ?_
          refine ax_istore dX4_vote_202 rfl (by decide) ?_
          refine ax_iincn (n := 1) dX4_vote_204 rfl (by decide) rfl ?_
          refine ax_goto 154 dX4_vote_207 (by decide) ?_
          first | exact ih (k + 1) n B (by omega) hn (ls_y0 (by simp [c178, c193]) hB) hN | exact ih (k + 1) 2 _ (by omega) (by decide) rfl (by rw [if_s, ← hN, ls_y1 (by simp [c178, c193]) hB, if_pos ⟨by omega, rfl⟩])
theorem lp_vote1 (hw : rf_ok ρ) {t r i V N : Nat} {a : Bool} (ht : t < 60) (hr : r < 6) (hi : i < 480) (K : ax_Z mX4_vote 4 0 0 (ax_D (ax_i (nI V)) (fh c ρ)) 151 [some (ax_r (80, 0)), some (ax_i (nI t)), some (ax_i (nI r)), some (ax_i (ax_b a)), some (ax_i (nI N)), some (ax_i (nI i)), none] [] (fh c ρ) 0 0) : ∀ (q k n : Nat) (B : Bool), k + q = ρ.1 5 r → (List.range' k q).any (fun k => rO ρ r k && decide (ρ.1 24 i / 2 ^ k % 2 = 1)) = B → (if B = true then 3 else n) = N → ax_Z mX4_vote 4 0 0 (ax_D (ax_i (nI V)) (fh c ρ)) 100 [some (ax_r (80, 0)), some (ax_i (nI t)), some (ax_i (nI r)), some (ax_i (ax_b a)), some (ax_i (nI n)), some (ax_i (nI i)), some (ax_i (nI k))] [] (fh c ρ) 0 0 := by
  intro q
  induction q with
  | zero =>
    intro k n B hk hB hN
    have h5 := rk_5 hw r
    have eB : B = false := by rw [← hB]; rfl
    have e : n = N := by rw [← hN, if_neg (by simp [eB])]
    subst e
    refine ax_iload dX4_vote_100 rfl ?_
    refine ax_aload_n dX4_vote_102 rfl ?_
    refine rg_5 dX4_vote_103 ?_
    refine ax_iload_n dX4_vote_106 rfl ?_
    refine rl_5 dX4_vote_107 (by omega) ?_
    refine ax_nge 151 dX4_vote_108 (by decide) (by omega) (by omega) (fun c108 => ?_) (fun c108 => absurd c108 (by omega))
    refine ax_fg [true, true, true, true, true, true, false] rfl ?_
    exact K
  | succ q ih =>
    intro k n B hk hB hN
    have h5 := rk_5 hw r
    have h24 := rk_24 hw i
    refine ax_iload dX4_vote_100 rfl ?_
    refine ax_aload_n dX4_vote_102 rfl ?_
    refine rg_5 dX4_vote_103 ?_
    refine ax_iload_n dX4_vote_106 rfl ?_
    refine rl_5 dX4_vote_107 (by omega) ?_
    refine ax_nge 151 dX4_vote_108 (by decide) (by omega) (by omega) (fun c108 => absurd c108 (by omega)) (fun c108 => ?_)
    refine ax_aload_n dX4_vote_111 rfl ?_
    refine ax_iload_n dX4_vote_112 rfl ?_
    refine ax_iload dX4_vote_113 rfl ?_
    refine ax_V2 cv_X4_96 dX4_vote_115 fh_M rfl (ok_isOn hw hr (by omega)) (by decide) (Nat.le_refl _) (Nat.le_refl _) (Nat.le_of_ble_eq_true rfl) ?_
    refine ax_beq 141 dX4_vote_118 (by decide) (fun c118 => ?_) (fun c118 => ?_)
    · refine ax_iload dX4_vote_141 rfl ?_
      refine ax_istore dX4_vote_143 rfl (by decide) ?_
      refine ax_iincn (n := 1) dX4_vote_145 rfl (by decide) rfl ?_
      refine ax_goto 100 dX4_vote_148 (by decide) ?_
      exact ih (k + 1) n B (by omega) (ls_y0 (by simp [c118]) hB) hN
    · refine ax_aload_n dX4_vote_121 rfl ?_
      refine rg_24 dX4_vote_122 ?_
      refine ax_iload dX4_vote_125 rfl ?_
      refine rl_24 dX4_vote_127 (by omega) ?_
      refine ax_iload dX4_vote_128 rfl ?_
      refine ax_ishr (nI (ρ.1 24 i / 2 ^ k)) dX4_vote_130 (shrk h24 (by omega)) ?_
      refine ax_iconst (nI 1) dX4_vote_131 (by decide) ?_
      refine ax_iand (nI (ρ.1 24 i / 2 ^ k % 2)) dX4_vote_132 (pk_andN (n := ρ.1 24 i / 2 ^ k) (Nat.lt_of_le_of_lt (Nat.div_le_self _ _) (by omega)) 1 (by decide)) ?_
      refine ax_iconst (nI 1) dX4_vote_133 (by decide) ?_
      refine ax_nne 141 dX4_vote_134 (by decide) (by omega) (by omega) (fun c134 => ?_) (fun c134 => ?_)
      · refine ax_iload dX4_vote_141 rfl ?_
        refine ax_istore dX4_vote_143 rfl (by decide) ?_
        refine ax_iincn (n := 1) dX4_vote_145 rfl (by decide) rfl ?_
        refine ax_goto 100 dX4_vote_148 (by decide) ?_
        first | exact ih (k + 1) n B (by omega) (ls_y0 (by simp [c118, c134]) hB) hN | exact ih (k + 1) 3 _ (by omega) rfl (by rw [← hN, ls_y1 (by simp [c118, c134]) hB, if_pos rfl, if_s])
      · refine ax_iconst (nI 3) dX4_vote_137 (by decide) ?_
        refine ax_goto 143 dX4_vote_138 (by decide) ?_
        refine ax_istore dX4_vote_143 rfl (by decide) ?_
        refine ax_iincn (n := 1) dX4_vote_145 rfl (by decide) rfl ?_
        refine ax_goto 100 dX4_vote_148 (by decide) ?_
        first | exact ih (k + 1) n B (by omega) (ls_y0 (by simp [c118, c134]) hB) hN | exact ih (k + 1) 3 _ (by omega) rfl (by rw [← hN, ls_y1 (by simp [c118, c134]) hB, if_pos rfl, if_s])
theorem lp_vote (hw : rf_ok ρ) {t r V : Nat} (ht : t < 60) (hr : r < 6) : ∀ (q i n : Nat) (a : Bool), i + q = 8 * t + ρ.1 14 t → n ≤ 3 → rVf ((List.range' i q).foldl (rVs ρ t r) (a, n)) = V → ax_Z mX4_vote 4 0 0 (ax_D (ax_i (nI V)) (fh c ρ)) 29 [some (ax_r (80, 0)), some (ax_i (nI t)), some (ax_i (nI r)), some (ax_i (ax_b a)), some (ax_i (nI n)), some (ax_i (nI i)), none] [] (fh c ρ) 0 0 := by
  intro q
  induction q with
  | zero =>
    intro i n a hk hn hV
    have h14 := rk_14 hw t
    have hV : rVf (a, n) = V := hV
    refine ax_iload dX4_vote_29 rfl ?_
    refine ax_bipush (nI 8) dX4_vote_31 (by decide) ?_
    refine ax_iload_n dX4_vote_33 rfl ?_
    refine ax_imuln dX4_vote_34 ?_
    refine ax_aload_n dX4_vote_35 rfl ?_
    refine rg_14 dX4_vote_36 ?_
    refine ax_iload_n dX4_vote_39 rfl ?_
    refine rl_14 dX4_vote_40 (by omega) ?_
    refine ax_iaddn dX4_vote_41 ?_
    refine ax_nge 216 dX4_vote_42 (by decide) (by omega) (by omega) (fun c42 => ?_) (fun c42 => absurd c42 (by omega))
    refine ax_iload dX4_vote_216 rfl ?_
    refine ax_if_le 226 dX4_vote_218 (by decide) (fun c218 => ?_) (fun c218 => ?_)
    · have c218 : n = 0 := by have h9 := (nI_leI (b := 0) (show n < 2 ^ 31 by omega) (by decide)).mp c218; omega
      refine ax_iload_n dX4_vote_226 rfl ?_
      refine ax_beq 234 dX4_vote_227 (by decide) (fun c227 => ?_) (fun c227 => ?_)
      · refine ax_iconst (nI 0) dX4_vote_234 (by decide) ?_
        refine ax_iretD dX4_vote_235 rfl ⟨(Nat.le_refl _), (Nat.le_refl _)⟩ ?_ ?_
        · rw [← hV]; simp [rVf, c42, c218, c227]
        · rfl
      · refine ax_iconst (nI 1) dX4_vote_230 (by decide) ?_
        refine ax_goto 235 dX4_vote_231 (by decide) ?_
        refine ax_iretD dX4_vote_235 rfl ⟨(Nat.le_refl _), (Nat.le_refl _)⟩ ?_ ?_
        · rw [← hV]; simp [rVf, c42, c218, c227]
        · rfl
    · have c218 : ¬ n = 0 := fun z => c218 (by rw [z]; decide)
      refine ax_iload dX4_vote_221 rfl ?_
      refine ax_goto 235 dX4_vote_223 (by decide) ?_
      refine ax_iretD dX4_vote_235 rfl ⟨(Nat.le_refl _), (Nat.le_refl _)⟩ ?_ ?_
      · rw [← hV]; simp [rVf, c42, c218]
      · rfl
  | succ q ih =>
    intro i n a hk hn hV
    have h14 := rk_14 hw t
    have h19 := rk_19 hw i
    rw [List.range'_succ, List.foldl_cons] at hV
    refine ax_iload dX4_vote_29 rfl ?_
    refine ax_bipush (nI 8) dX4_vote_31 (by decide) ?_
    refine ax_iload_n dX4_vote_33 rfl ?_
    refine ax_imuln dX4_vote_34 ?_
    refine ax_aload_n dX4_vote_35 rfl ?_
    refine rg_14 dX4_vote_36 ?_
    refine ax_iload_n dX4_vote_39 rfl ?_
    refine rl_14 dX4_vote_40 (by first | omega | exact rk_N hw _ _) ?_
    refine ax_iaddn dX4_vote_41 ?_
    refine ax_nge 216 dX4_vote_42 (by decide) (by first | omega | exact rk_N hw _ _) (by first | omega | exact rk_N hw _ _) (fun c42 => absurd c42 (by omega)) (fun c42 => ?_)
    refine ax_aload_n dX4_vote_45 rfl ?_
    refine rg_18 dX4_vote_46 ?_
    refine ax_iload dX4_vote_49 rfl ?_
    refine rl_18 dX4_vote_51 (by first | omega | exact rk_N hw _ _) ?_
    refine ax_iload_n dX4_vote_52 rfl ?_
    refine ax_nne 210 dX4_vote_53 (by decide) (by first | omega | exact rk_N hw _ _) (by first | omega | exact rk_N hw _ _) (fun c53 => ?_) (fun c53 => ?_)
    · refine ax_iincn (n := 1) dX4_vote_210 rfl (by decide) rfl ?_
      refine ax_goto 29 dX4_vote_213 (by decide) ?_
      refine ax_fg [true, true, true, true, true, true, false] rfl ?_
      exact ih (i + 1) n a (by omega) hn (by simpa [rVs, c42, c53] using hV)
    · refine ax_aload_n dX4_vote_56 rfl ?_
      refine rg_22 dX4_vote_57 ?_
      refine ax_iload dX4_vote_60 rfl ?_
      refine rl_22 dX4_vote_62 (by first | omega | exact rk_N hw _ _) ?_
      refine ax_beq 210 dX4_vote_63 (by decide) (fun c63 => ?_) (fun c63 => ?_)
      · refine ax_iincn (n := 1) dX4_vote_210 rfl (by decide) rfl ?_
        refine ax_goto 29 dX4_vote_213 (by decide) ?_
        refine ax_fg [true, true, true, true, true, true, false] rfl ?_
        exact ih (i + 1) n a (by omega) hn (by simpa [rVs, c42, c53, c63] using hV)
      · refine ax_iload_n dX4_vote_66 rfl ?_
        refine ax_beq 95 dX4_vote_67 (by decide) (fun c67 => ?_) (fun c67 => ?_)
        · refine ax_iconst (ax_b false) dX4_vote_95 (by decide) ?_
          refine ax_istore_n dX4_vote_96 rfl (by decide) ?_
          refine ax_iconst (nI 0) dX4_vote_97 (by decide) ?_
          refine ax_istore dX4_vote_98 rfl (by decide) ?_
          have K2 : ax_Z mX4_vote 4 0 0 (ax_D (ax_i (nI V)) (fh c ρ)) 210 [some (ax_r (80, 0)), some (ax_i (nI t)), some (ax_i (nI r)), some (ax_i (ax_b false)), some (ax_i (nI (rVn ρ i r n))), some (ax_i (nI i)), none] [] (fh c ρ) 0 0 := by
            refine ax_iincn (n := 1) dX4_vote_210 rfl (by decide) rfl ?_
            refine ax_goto 29 dX4_vote_213 (by decide) ?_
            exact ih (i + 1) (rVn ρ i r n) false (by omega) (rVn_le hn) (by simpa [rVs, c42, c53, c63, c67] using hV)
          have K1 : ax_Z mX4_vote 4 0 0 (ax_D (ax_i (nI V)) (fh c ρ)) 151 [some (ax_r (80, 0)), some (ax_i (nI t)), some (ax_i (nI r)), some (ax_i (ax_b false)), some (ax_i (nI (if rV1 ρ i r = true then 3 else n))), some (ax_i (nI i)), none] [] (fh c ρ) 0 0 := by
            refine ax_iconst (nI 0) dX4_vote_151 (by decide) ?_
            refine ax_istore dX4_vote_152 rfl (by decide) ?_
            exact lp_vote2 hw ht hr (by omega) (N := rVn ρ i r n) K2 (ρ.1 25 0) 0 _ (rV2 ρ i r) (Nat.zero_add _) (by split <;> omega) rfl rfl
          exact lp_vote1 hw ht hr (by omega) K1 (ρ.1 5 r) 0 n (rV1 ρ i r) (Nat.zero_add _) rfl rfl
        · refine ax_aload_n dX4_vote_70 rfl ?_
          refine rg_9 dX4_vote_71 ?_
          refine ax_bipush (nI 8) dX4_vote_74 (by decide) ?_
          refine ax_iload_n dX4_vote_76 rfl ?_
          refine ax_imuln dX4_vote_77 ?_
          refine ax_aload_n dX4_vote_78 rfl ?_
          refine rg_19 dX4_vote_79 ?_
          refine ax_iload dX4_vote_82 rfl ?_
          refine rl_19 dX4_vote_84 (by first | omega | exact rk_N hw _ _) ?_
          refine ax_iaddn dX4_vote_85 ?_
          refine rl_9 dX4_vote_86 (by first | omega | exact rk_N hw _ _) ?_
          refine ax_iload_n dX4_vote_87 rfl ?_
          refine ax_icmp_ne 95 dX4_vote_88 (by decide) (fun c88 => ?_) (fun c88 => ?_)
          · refine ax_iconst (ax_b false) dX4_vote_95 (by decide) ?_
            refine ax_istore_n dX4_vote_96 rfl (by decide) ?_
            refine ax_iconst (nI 0) dX4_vote_97 (by decide) ?_
            refine ax_istore dX4_vote_98 rfl (by decide) ?_
            have K2 : ax_Z mX4_vote 4 0 0 (ax_D (ax_i (nI V)) (fh c ρ)) 210 [some (ax_r (80, 0)), some (ax_i (nI t)), some (ax_i (nI r)), some (ax_i (ax_b false)), some (ax_i (nI (rVn ρ i r n))), some (ax_i (nI i)), none] [] (fh c ρ) 0 0 := by
              refine ax_iincn (n := 1) dX4_vote_210 rfl (by decide) rfl ?_
              refine ax_goto 29 dX4_vote_213 (by decide) ?_
              exact ih (i + 1) (rVn ρ i r n) false (by omega) (rVn_le hn) (by simpa [rVs, c42, c53, c63, c67, c88] using hV)
            have K1 : ax_Z mX4_vote 4 0 0 (ax_D (ax_i (nI V)) (fh c ρ)) 151 [some (ax_r (80, 0)), some (ax_i (nI t)), some (ax_i (nI r)), some (ax_i (ax_b false)), some (ax_i (nI (if rV1 ρ i r = true then 3 else n))), some (ax_i (nI i)), none] [] (fh c ρ) 0 0 := by
              refine ax_iconst (nI 0) dX4_vote_151 (by decide) ?_
              refine ax_istore dX4_vote_152 rfl (by decide) ?_
              exact lp_vote2 hw ht hr (by omega) (N := rVn ρ i r n) K2 (ρ.1 25 0) 0 _ (rV2 ρ i r) (Nat.zero_add _) (by split <;> omega) rfl rfl
            exact lp_vote1 hw ht hr (by omega) K1 (ρ.1 5 r) 0 n (rV1 ρ i r) (Nat.zero_add _) rfl rfl
          · refine ax_iconst (ax_b true) dX4_vote_91 (by decide) ?_
            refine ax_goto 96 dX4_vote_92 (by decide) ?_
            refine ax_istore_n dX4_vote_96 rfl (by decide) ?_
            refine ax_iconst (nI 0) dX4_vote_97 (by decide) ?_
            refine ax_istore dX4_vote_98 rfl (by decide) ?_
            have K2 : ax_Z mX4_vote 4 0 0 (ax_D (ax_i (nI V)) (fh c ρ)) 210 [some (ax_r (80, 0)), some (ax_i (nI t)), some (ax_i (nI r)), some (ax_i (ax_b true)), some (ax_i (nI (rVn ρ i r n))), some (ax_i (nI i)), none] [] (fh c ρ) 0 0 := by
              refine ax_iincn (n := 1) dX4_vote_210 rfl (by decide) rfl ?_
              refine ax_goto 29 dX4_vote_213 (by decide) ?_
              exact ih (i + 1) (rVn ρ i r n) true (by omega) (rVn_le hn) (by simpa [rVs, c42, c53, c63, c67, c88] using hV)
            have K1 : ax_Z mX4_vote 4 0 0 (ax_D (ax_i (nI V)) (fh c ρ)) 151 [some (ax_r (80, 0)), some (ax_i (nI t)), some (ax_i (nI r)), some (ax_i (ax_b true)), some (ax_i (nI (if rV1 ρ i r = true then 3 else n))), some (ax_i (nI i)), none] [] (fh c ρ) 0 0 := by
              refine ax_iconst (nI 0) dX4_vote_151 (by decide) ?_
              refine ax_istore dX4_vote_152 rfl (by decide) ?_
              exact lp_vote2 hw ht hr (by omega) (N := rVn ρ i r n) K2 (ρ.1 25 0) 0 _ (rV2 ρ i r) (Nat.zero_add _) (by split <;> omega) rfl rfl
            exact lp_vote1 hw ht hr (by omega) K1 (ρ.1 5 r) 0 n (rV1 ρ i r) (Nat.zero_add _) rfl rfl
theorem ok_vote (hw : rf_ok ρ) {t r : Nat} (ht : t < 60) (hr : r < 6) : ax_Ok mX4_vote yX4_vote 4 0 0 [ax_r (80, 0), ax_i (nI t), ax_i (nI r)] (fh c ρ) (ax_D (ax_i (nI (rVo ρ t r))) (fh c ρ)) := by
  refine ax_Ok.of (by decide) rfl (fun q => by cases q) (Nat.le_of_ble_eq_true rfl) rfl ?_
  refine ax_aload_n dX4_vote_0 rfl ?_
  refine ax_iload_n dX4_vote_1 rfl ?_
  refine ax_V1 cv_X4_124 dX4_vote_2 fh_M rfl (ok_primary hw hr) (by decide) (Nat.le_refl _) (Nat.le_refl _) (Nat.le_of_ble_eq_true rfl) ?_
  refine ax_aload_n dX4_vote_5 rfl ?_
  refine rg_31 dX4_vote_6 ?_
  refine ax_iload_n dX4_vote_9 rfl ?_
  refine rl_31 dX4_vote_10 (by omega) ?_
  refine ax_icmp_ne 18 dX4_vote_11 (by decide) (fun c11 => ?_) (fun c11 => ?_)
  · refine ax_iconst (ax_b false) dX4_vote_18 (by decide) ?_
    refine ax_istore_n dX4_vote_19 rfl (by decide) ?_
    refine ax_iconst (nI 0) dX4_vote_20 (by decide) ?_
    refine ax_istore dX4_vote_21 rfl (by decide) ?_
    refine ax_bipush (nI 8) dX4_vote_23 (by decide) ?_
    refine ax_iload_n dX4_vote_25 rfl ?_
    refine ax_imuln dX4_vote_26 ?_
    refine ax_istore dX4_vote_27 rfl (by decide) ?_
    first | exact lp_vote hw ht hr (ρ.1 14 t) (8 * t) 0 true rfl (by decide) (by simp [rVo, rI, c11]) | exact lp_vote hw ht hr (ρ.1 14 t) (8 * t) 0 false rfl (by decide) (by simp [rVo, rI, c11])
  · refine ax_iconst (ax_b true) dX4_vote_14 (by decide) ?_
    refine ax_goto 19 dX4_vote_15 (by decide) ?_
    refine ax_istore_n dX4_vote_19 rfl (by decide) ?_
    refine ax_iconst (nI 0) dX4_vote_20 (by decide) ?_
    refine ax_istore dX4_vote_21 rfl (by decide) ?_
    refine ax_bipush (nI 8) dX4_vote_23 (by decide) ?_
    refine ax_iload_n dX4_vote_25 rfl ?_
    refine ax_imuln dX4_vote_26 ?_
    refine ax_istore dX4_vote_27 rfl (by decide) ?_
    first | exact lp_vote hw ht hr (ρ.1 14 t) (8 * t) 0 true rfl (by decide) (by simp [rVo, rI, c11]) | exact lp_vote hw ht hr (ρ.1 14 t) (8 * t) 0 false rfl (by decide) (by simp [rVo, rI, c11])
end REFM
