/-- the item and the place of a transaction's next act -/
def rAi (ρ : ax_R) (t : Nat) : Option (Nat × Int32) :=
  if ρ.1 12 t = 3 then ((rB ρ t)[ρ.1 13 t]?).map (fun q => (q.1, nI q.2)) else
  if ρ.1 12 t = 5 then (rFr ρ t).map (fun k => ((ρ.2.2 26 k).toNatClampNeg, nI (ρ.1 27 k))) else
  if ρ.1 12 t = 6 then (rFl ρ t).map (fun i => (i, oI (rL ρ (ρ.1 18 i))[0]?)) else
  (rNt ρ t (ρ.1 13 t) (!decide (ρ.1 12 t = 2))).map (fun i => (i, oI (rL ρ (ρ.1 18 i))[0]?))
theorem rFr_at {ρ : ax_R} {t k : Nat} (hw : rf_ok ρ) (h : rFr ρ t = some k) : ∃ j, j < 480 ∧ ρ.2.2 26 k = nI j ∧ j / 8 = t ∧ k < ρ.1 25 0 := by
  have h1 := List.find?_some h
  have h2 := List.mem_range'_1.mp (List.mem_of_find?_eq_some h)
  simp only [Bool.and_eq_true, decide_eq_true_eq] at h1
  obtain ⟨j, hj, e⟩ := (rk_26 hw k).resolve_left h1.1
  have h3 := h1.2
  rw [e, nI_clamp (by omega)] at h3
  exact ⟨j, hj, e, h3, by omega⟩
def rActX (ρ : ax_R) (t i p : Nat) : ax_R := match ρ.1 12 t with
  | 1 => if ρ.2.2 9 (8 * ρ.1 18 i + ρ.1 19 i) ≠ -9 ∨ ρ.1 8 (8 * (6 * ρ.1 18 i + p) + ρ.1 19 i) ≠ ρ.1 21 i then nu ρ 12 t 6 else ru ρ 9 (8 * ρ.1 18 i + ρ.1 19 i) (nI t)
  | 2 => if ρ.2.2 9 (8 * ρ.1 18 i + ρ.1 19 i) ≠ -9 ∨ ρ.1 8 (8 * (6 * ρ.1 18 i + p) + ρ.1 19 i) ≠ ρ.1 21 i then nu ρ 12 t 6 else ρ
  | 3 => nu (nu (ru ρ 26 (ρ.1 25 0) (nI i)) 27 (ρ.1 25 0) p) 25 0 (ρ.1 25 0 + 1)
  | 4 => bu (ru (nu (rG ρ i p true) 24 i (ρ.1 24 i ||| 2 ^ p)) 9 (8 * ρ.1 18 i + ρ.1 19 i) (-9)) 15 t true
  | 5 => ru (nu (rG ρ i p false) 24 i (ρ.1 24 i ||| 2 ^ p)) 26 ((rFr ρ t).getD 0) (-9)
  | _ => ru ρ 9 (8 * ρ.1 18 i + ρ.1 19 i) (-9)
def rAct (ρ : ax_R) (t i p : Nat) : ax_R := rSt 9 (nu (rActX ρ t i p) 13 t ((rActX ρ t i p).1 13 t + 1)) t
theorem rG_1 {ρ : ax_R} {i p k j : Nat} {b : Bool} (h : k ≠ 8) : (rG ρ i p b).1 k j = ρ.1 k j := by
  unfold rG
  split
  · rw [nu_n h]; rfl
  · rfl
theorem rG_21 {ρ : ax_R} {i p : Nat} {b : Bool} : (rG ρ i p b).2.1 = ρ.2.1 := by
  unfold rG
  split <;> rfl
theorem rG_22 {ρ : ax_R} {i p k j : Nat} {b : Bool} (h : k ≠ 7) : (rG ρ i p b).2.2 k j = ρ.2.2 k j := by
  unfold rG
  split
  · simp [nu, ru, h]
  · rfl
theorem rG_ok {ρ : ax_R} (hw : rf_ok ρ) {i p : Nat} {b : Bool} (hv : ρ.1 21 i + 1 < 1000000) : rf_ok (rG ρ i p b) := by
  unfold rG
  split
  · exact rf_nu (rf_ru hw (Or.inl (by decide))) hv (by exact trivial)
  · exact hw
theorem rFr_eq {ρ ρ2 : ax_R} {t : Nat} (h1 : ρ2.1 25 0 = ρ.1 25 0) (h2 : ∀ k, ρ2.2.2 26 k = ρ.2.2 26 k) : rFr ρ2 t = rFr ρ t := by
  unfold rFr
  rw [h1]
  simp only [h2]
theorem or64 {a p : Nat} (ha : a < 64) (hp : p < 6) : a ||| 2 ^ p < 64 := by
  have h2 : 2 ^ p < 2 ^ 6 := Nat.pow_lt_pow_right (by decide) hp
  exact Nat.or_lt_two_pow (n := 6) ha h2
theorem rActX_ok {ρ : ax_R} (hw : rf_ok ρ) {t i p : Nat} (hi : i < 480) (hp : p < 6) (hv : ρ.1 21 i + 1 < 1000000) (hrec : ρ.1 12 t = 3 → ρ.1 25 0 < 1440) : rf_ok (rActX ρ t i p) := by
  have h24 := or64 (rk_24 hw i) hp
  unfold rActX
  split
  · split
    · exact rf_nu hw (by omega) (by exact trivial)
    · exact rf_ru hw (Or.inl (by decide))
  · split
    · exact rf_nu hw (by omega) (by exact trivial)
    · exact hw
  · rename_i h
    have := hrec h
    exact rf_nu (rf_nu (rf_ru hw (Or.inr (Or.inr ⟨i, hi, rfl⟩))) (by omega) (by exact hp)) (by omega) (by show _ ≤ 1440; omega)
  · exact rf_bu (rf_ru (rf_nu (rG_ok hw hv) (by omega) (by exact h24)) (Or.inl (by decide)))
  · exact rf_ru (rf_nu (rG_ok hw hv) (by omega) (by exact h24)) (Or.inr (Or.inl rfl))
  · exact rf_ru hw (Or.inl (by decide))
theorem rActX_1 {ρ : ax_R} {t i p k j : Nat} (h1 : k ≠ 12) (h2 : k ≠ 27) (h3 : k ≠ 25) (h4 : k ≠ 8) (h5 : k ≠ 24) : (rActX ρ t i p).1 k j = ρ.1 k j := by
  unfold rActX
  split
  · split
    · exact nu_n h1
    · rfl
  · split
    · exact nu_n h1
    · rfl
  · rw [nu_n h3, nu_n h2]; rfl
  · show (nu (rG ρ i p true) 24 i _).1 k j = _
    rw [nu_n h5, rG_1 h4]
  · show (nu (rG ρ i p false) 24 i _).1 k j = _
    rw [nu_n h5, rG_1 h4]
  · rfl
theorem rActX_12 {ρ : ax_R} {t i p : Nat} (h8 : ρ.1 12 t ≤ 8) : (rActX ρ t i p).1 12 t ≤ 8 := by
  unfold rActX
  split
  · split
    · rw [nu_s]; decide
    · exact h8
  · split
    · rw [nu_s]; decide
    · exact h8
  · rw [nu_n (by decide), nu_n (by decide)]; exact h8
  · show (nu (rG ρ i p true) 24 i (ρ.1 24 i ||| 2 ^ p)).1 12 t ≤ 8
    rw [nu_n (by decide), rG_1 (by decide)]; exact h8
  · show (nu (rG ρ i p false) 24 i (ρ.1 24 i ||| 2 ^ p)).1 12 t ≤ 8
    rw [nu_n (by decide), rG_1 (by decide)]; exact h8
  · exact h8
section REFM
variable {c : ax_H} {ρ : ax_R}
theorem ok_actItem3 (hw : rf_ok ρ) {t : Nat} (ht : t < 60) {i k : Nat} (hp : ρ.1 12 t = 3) (hq : (rB ρ t)[ρ.1 13 t]? = some (i, k)) : ax_Ok mX4_actItem yX4_actItem 5 0 0 [ax_r (80, 0), ax_i (nI t)] (fh c ρ) (ax_D (ax_i (nI i)) (fh c (ru (rOvS ρ t) 30 0 (nI k)))) := by
  refine ax_Ok.of (by decide) rfl (fun q => by cases q) (Nat.le_of_ble_eq_true rfl) rfl ?_
  refine ax_aload_n dX4_actItem_0 rfl ?_
  refine rg_12 dX4_actItem_1 ?_
  refine ax_iload_n dX4_actItem_4 rfl ?_
  refine rl_12 dX4_actItem_5 (by first | omega | exact rk_N hw _ _) ?_
  refine ax_istore_n dX4_actItem_6 rfl (by decide) ?_
  refine ax_iload_n dX4_actItem_7 rfl ?_
  refine ax_iconst (nI 3) dX4_actItem_8 (by decide) ?_
  refine ax_nne 37 dX4_actItem_9 (by decide) (by first | omega | exact rk_N hw _ _) (by first | omega | exact rk_N hw _ _) (fun c9 => absurd c9 (fun z => z hp)) (fun c9 => ?_)
  refine ax_aload_n dX4_actItem_12 rfl ?_
  refine ax_iload_n dX4_actItem_13 rfl ?_
  refine ax_aload_n dX4_actItem_14 rfl ?_
  refine rg_13 dX4_actItem_15 ?_
  refine ax_iload_n dX4_actItem_18 rfl ?_
  refine rl_13 dX4_actItem_19 (by first | omega | exact rk_N hw _ _) ?_
  refine ax_V2 cv_X4_177 dX4_actItem_20 fh_M rfl (ok_seekBackup hw ht (rk_N hw _ _)) (by decide) (Nat.le_refl _) (Nat.le_refl _) (Nat.le_of_ble_eq_true rfl) ?_
  rw [hq]
  refine ax_istore_n dX4_actItem_23 rfl (by decide) ?_
  refine ax_aload_n dX4_actItem_24 rfl ?_
  refine ax_aload_n dX4_actItem_25 rfl ?_
  refine rg_29 dX4_actItem_26 ?_
  refine rp_30 dX4_actItem_29 ?_
  refine ax_aload_n dX4_actItem_32 rfl ?_
  refine rg_28 dX4_actItem_33 ?_
  refine ax_iretD dX4_actItem_36 rfl ⟨(Nat.le_refl _), (Nat.le_refl _)⟩ ?_ ?_
  · simp [rSk, nu, ru]
  · simp [rOvS, hp, hq]; rfl
theorem ok_actItem5 (hw : rf_ok ρ) {t : Nat} (ht : t < 60) {i k : Nat} (hp : ρ.1 12 t = 5) (hq : rFr ρ t = some k) (ej : ρ.2.2 26 k = nI i) : ax_Ok mX4_actItem yX4_actItem 5 0 0 [ax_r (80, 0), ax_i (nI t)] (fh c ρ) (ax_D (ax_i (nI i)) (fh c (ru (rOvS ρ t) 30 0 (nI (ρ.1 27 k))))) := by
  refine ax_Ok.of (by decide) rfl (fun q => by cases q) (Nat.le_of_ble_eq_true rfl) rfl ?_
  have hk := rFr_lt hw hq
  refine ax_aload_n dX4_actItem_0 rfl ?_
  refine rg_12 dX4_actItem_1 ?_
  refine ax_iload_n dX4_actItem_4 rfl ?_
  refine rl_12 dX4_actItem_5 (by first | omega | exact rk_N hw _ _) ?_
  refine ax_istore_n dX4_actItem_6 rfl (by decide) ?_
  refine ax_iload_n dX4_actItem_7 rfl ?_
  refine ax_iconst (nI 3) dX4_actItem_8 (by decide) ?_
  refine ax_nne 37 dX4_actItem_9 (by decide) (by first | omega | exact rk_N hw _ _) (by first | omega | exact rk_N hw _ _) (fun c9 => ?_) (fun c9 => absurd c9 (by omega))
  refine ax_iload_n dX4_actItem_37 rfl ?_
  refine ax_iconst (nI 5) dX4_actItem_38 (by decide) ?_
  refine ax_nne 65 dX4_actItem_39 (by decide) (by first | omega | exact rk_N hw _ _) (by first | omega | exact rk_N hw _ _) (fun c39 => absurd c39 (fun z => z hp)) (fun c39 => ?_)
  refine ax_aload_n dX4_actItem_42 rfl ?_
  refine ax_iload_n dX4_actItem_43 rfl ?_
  refine ax_V1 cv_X4_180 dX4_actItem_44 fh_M rfl (ok_firstRecord hw (by first | omega | exact rk_6 hw _ | exact rk_11 hw _ | exact rk_18 hw _ | exact rk_19 hw _ | exact rk_27 hw _ | exact rk_N hw _ _)) (by decide) (Nat.le_refl _) (Nat.le_refl _) (Nat.le_of_ble_eq_true rfl) ?_
  rw [hq, show oI (some k) = nI k from rfl]
  refine ax_istore_n dX4_actItem_47 rfl (by decide) ?_
  refine ax_aload_n dX4_actItem_48 rfl ?_
  refine ax_aload_n dX4_actItem_49 rfl ?_
  refine rg_27 dX4_actItem_50 ?_
  refine ax_iload_n dX4_actItem_53 rfl ?_
  refine rl_27 dX4_actItem_54 (by omega) ?_
  refine rp_30 dX4_actItem_55 ?_
  refine ax_aload_n dX4_actItem_58 rfl ?_
  refine rg_26 dX4_actItem_59 ?_
  refine ax_iload_n dX4_actItem_62 rfl ?_
  refine rl_26 dX4_actItem_63 (by omega) ?_
  refine ax_iretD dX4_actItem_64 rfl ⟨(Nat.le_refl _), (Nat.le_refl _)⟩ ?_ ?_
  · exact ej
  · rw [rOvS, if_neg (by omega)]
theorem ok_actItem6 (hw : rf_ok ρ) {t : Nat} (ht : t < 60) {i : Nat} (hp : ρ.1 12 t = 6) (hq : rFl ρ t = some i) : ax_Ok mX4_actItem yX4_actItem 5 0 0 [ax_r (80, 0), ax_i (nI t)] (fh c ρ) (ax_D (ax_i (nI i)) (fh c (ru (rOvS ρ t) 30 0 (oI (rL ρ (ρ.1 18 i))[0]?)))) := by
  refine ax_Ok.of (by decide) rfl (fun q => by cases q) (Nat.le_of_ble_eq_true rfl) rfl ?_
  have hi := rFl_lt hw ht hq
  refine ax_aload_n dX4_actItem_0 rfl ?_
  refine rg_12 dX4_actItem_1 ?_
  refine ax_iload_n dX4_actItem_4 rfl ?_
  refine rl_12 dX4_actItem_5 (by first | omega | exact rk_N hw _ _) ?_
  refine ax_istore_n dX4_actItem_6 rfl (by decide) ?_
  refine ax_iload_n dX4_actItem_7 rfl ?_
  refine ax_iconst (nI 3) dX4_actItem_8 (by decide) ?_
  refine ax_nne 37 dX4_actItem_9 (by decide) (by first | omega | exact rk_N hw _ _) (by first | omega | exact rk_N hw _ _) (fun c9 => ?_) (fun c9 => absurd c9 (by omega))
  refine ax_iload_n dX4_actItem_37 rfl ?_
  refine ax_iconst (nI 5) dX4_actItem_38 (by decide) ?_
  refine ax_nne 65 dX4_actItem_39 (by decide) (by first | omega | exact rk_N hw _ _) (by first | omega | exact rk_N hw _ _) (fun c39 => ?_) (fun c39 => absurd c39 (by omega))
  refine ax_iload_n dX4_actItem_65 rfl ?_
  refine ax_bipush (nI 6) dX4_actItem_66 (by decide) ?_
  refine ax_nne 79 dX4_actItem_68 (by decide) (by first | omega | exact rk_N hw _ _) (by first | omega | exact rk_N hw _ _) (fun c68 => absurd c68 (fun z => z hp)) (fun c68 => ?_)
  refine ax_aload_n dX4_actItem_71 rfl ?_
  refine ax_iload_n dX4_actItem_72 rfl ?_
  refine ax_V1 cv_X4_183 dX4_actItem_73 fh_M rfl (ok_firstLocked hw (by first | omega | exact rk_6 hw _ | exact rk_11 hw _ | exact rk_18 hw _ | exact rk_19 hw _ | exact rk_27 hw _ | exact rk_N hw _ _)) (by decide) (Nat.le_refl _) (Nat.le_refl _) (Nat.le_of_ble_eq_true rfl) ?_
  refine ax_goto 100 dX4_actItem_76 (by decide) ?_
  rw [hq, show oI (some i) = nI i from rfl]
  refine ax_istore_n dX4_actItem_100 rfl (by decide) ?_
  refine ax_aload_n dX4_actItem_101 rfl ?_
  refine ax_aload_n dX4_actItem_102 rfl ?_
  refine ax_aload_n dX4_actItem_103 rfl ?_
  refine rg_18 dX4_actItem_104 ?_
  refine ax_iload_n dX4_actItem_107 rfl ?_
  refine rl_18 dX4_actItem_108 (by first | omega | exact rk_N hw _ _) ?_
  refine ax_V1 cv_X4_124 dX4_actItem_109 fh_M rfl (ok_primary hw (rk_18 hw _)) (by decide) (Nat.le_refl _) (Nat.le_refl _) (Nat.le_of_ble_eq_true rfl) ?_
  refine rp_30 dX4_actItem_112 ?_
  refine ax_iload_n dX4_actItem_115 rfl ?_
  refine ax_iretD dX4_actItem_116 rfl ⟨(Nat.le_refl _), (Nat.le_refl _)⟩ ?_ ?_
  · rfl
  · rw [rOvS, if_neg (by omega)]
theorem ok_actItem2 (hw : rf_ok ρ) {t : Nat} (ht : t < 60) {i : Nat} (hp : ρ.1 12 t = 2) (hq : rNt ρ t (ρ.1 13 t) false = some i) : ax_Ok mX4_actItem yX4_actItem 5 0 0 [ax_r (80, 0), ax_i (nI t)] (fh c ρ) (ax_D (ax_i (nI i)) (fh c (ru (rOvS ρ t) 30 0 (oI (rL ρ (ρ.1 18 i))[0]?)))) := by
  refine ax_Ok.of (by decide) rfl (fun q => by cases q) (Nat.le_of_ble_eq_true rfl) rfl ?_
  have hi := rNt_lt hw ht hq
  refine ax_aload_n dX4_actItem_0 rfl ?_
  refine rg_12 dX4_actItem_1 ?_
  refine ax_iload_n dX4_actItem_4 rfl ?_
  refine rl_12 dX4_actItem_5 (by first | omega | exact rk_N hw _ _) ?_
  refine ax_istore_n dX4_actItem_6 rfl (by decide) ?_
  refine ax_iload_n dX4_actItem_7 rfl ?_
  refine ax_iconst (nI 3) dX4_actItem_8 (by decide) ?_
  refine ax_nne 37 dX4_actItem_9 (by decide) (by first | omega | exact rk_N hw _ _) (by first | omega | exact rk_N hw _ _) (fun c9 => ?_) (fun c9 => absurd c9 (by omega))
  refine ax_iload_n dX4_actItem_37 rfl ?_
  refine ax_iconst (nI 5) dX4_actItem_38 (by decide) ?_
  refine ax_nne 65 dX4_actItem_39 (by decide) (by first | omega | exact rk_N hw _ _) (by first | omega | exact rk_N hw _ _) (fun c39 => ?_) (fun c39 => absurd c39 (by omega))
  refine ax_iload_n dX4_actItem_65 rfl ?_
  refine ax_bipush (nI 6) dX4_actItem_66 (by decide) ?_
  refine ax_nne 79 dX4_actItem_68 (by decide) (by first | omega | exact rk_N hw _ _) (by first | omega | exact rk_N hw _ _) (fun c68 => ?_) (fun c68 => absurd c68 (by omega))
  refine ax_aload_n dX4_actItem_79 rfl ?_
  refine ax_iload_n dX4_actItem_80 rfl ?_
  refine ax_aload_n dX4_actItem_81 rfl ?_
  refine rg_13 dX4_actItem_82 ?_
  refine ax_iload_n dX4_actItem_85 rfl ?_
  refine rl_13 dX4_actItem_86 (by first | omega | exact rk_N hw _ _) ?_
  refine ax_iload_n dX4_actItem_87 rfl ?_
  refine ax_iconst (nI 2) dX4_actItem_88 (by decide) ?_
  refine ax_neq 96 dX4_actItem_89 (by decide) (by first | omega | exact rk_N hw _ _) (by first | omega | exact rk_N hw _ _) (fun c89 => ?_) (fun c89 => absurd c89 (fun z => z hp))
  refine ax_iconst (ax_b false) dX4_actItem_96 (by decide) ?_
  refine ax_V3 cv_X4_173 dX4_actItem_97 fh_M rfl (ok_nth hw (by first | omega | exact rk_6 hw _ | exact rk_11 hw _ | exact rk_18 hw _ | exact rk_19 hw _ | exact rk_27 hw _ | exact rk_N hw _ _) (by first | omega | exact rk_6 hw _ | exact rk_11 hw _ | exact rk_18 hw _ | exact rk_19 hw _ | exact rk_27 hw _ | exact rk_N hw _ _)) (by decide) (Nat.le_refl _) (Nat.le_refl _) (Nat.le_of_ble_eq_true rfl) ?_
  rw [hq, show oI (some i) = nI i from rfl]
  refine ax_istore_n dX4_actItem_100 rfl (by decide) ?_
  refine ax_aload_n dX4_actItem_101 rfl ?_
  refine ax_aload_n dX4_actItem_102 rfl ?_
  refine ax_aload_n dX4_actItem_103 rfl ?_
  refine rg_18 dX4_actItem_104 ?_
  refine ax_iload_n dX4_actItem_107 rfl ?_
  refine rl_18 dX4_actItem_108 (by first | omega | exact rk_N hw _ _) ?_
  refine ax_V1 cv_X4_124 dX4_actItem_109 fh_M rfl (ok_primary hw (rk_18 hw _)) (by decide) (Nat.le_refl _) (Nat.le_refl _) (Nat.le_of_ble_eq_true rfl) ?_
  refine rp_30 dX4_actItem_112 ?_
  refine ax_iload_n dX4_actItem_115 rfl ?_
  refine ax_iretD dX4_actItem_116 rfl ⟨(Nat.le_refl _), (Nat.le_refl _)⟩ ?_ ?_
  · rfl
  · rw [rOvS, if_neg (by omega)]
theorem ok_actItem1 (hw : rf_ok ρ) {t : Nat} (ht : t < 60) {i : Nat} (hp : ρ.1 12 t ≠ 2 ∧ ρ.1 12 t ≠ 3 ∧ ρ.1 12 t ≠ 5 ∧ ρ.1 12 t ≠ 6) (hq : rNt ρ t (ρ.1 13 t) true = some i) : ax_Ok mX4_actItem yX4_actItem 5 0 0 [ax_r (80, 0), ax_i (nI t)] (fh c ρ) (ax_D (ax_i (nI i)) (fh c (ru (rOvS ρ t) 30 0 (oI (rL ρ (ρ.1 18 i))[0]?)))) := by
  refine ax_Ok.of (by decide) rfl (fun q => by cases q) (Nat.le_of_ble_eq_true rfl) rfl ?_
  have hi := rNt_lt hw ht hq
  refine ax_aload_n dX4_actItem_0 rfl ?_
  refine rg_12 dX4_actItem_1 ?_
  refine ax_iload_n dX4_actItem_4 rfl ?_
  refine rl_12 dX4_actItem_5 (by first | omega | exact rk_N hw _ _) ?_
  refine ax_istore_n dX4_actItem_6 rfl (by decide) ?_
  refine ax_iload_n dX4_actItem_7 rfl ?_
  refine ax_iconst (nI 3) dX4_actItem_8 (by decide) ?_
  refine ax_nne 37 dX4_actItem_9 (by decide) (by first | omega | exact rk_N hw _ _) (by first | omega | exact rk_N hw _ _) (fun c9 => ?_) (fun c9 => absurd c9 (by omega))
  refine ax_iload_n dX4_actItem_37 rfl ?_
  refine ax_iconst (nI 5) dX4_actItem_38 (by decide) ?_
  refine ax_nne 65 dX4_actItem_39 (by decide) (by first | omega | exact rk_N hw _ _) (by first | omega | exact rk_N hw _ _) (fun c39 => ?_) (fun c39 => absurd c39 (by omega))
  refine ax_iload_n dX4_actItem_65 rfl ?_
  refine ax_bipush (nI 6) dX4_actItem_66 (by decide) ?_
  refine ax_nne 79 dX4_actItem_68 (by decide) (by first | omega | exact rk_N hw _ _) (by first | omega | exact rk_N hw _ _) (fun c68 => ?_) (fun c68 => absurd c68 (by omega))
  refine ax_aload_n dX4_actItem_79 rfl ?_
  refine ax_iload_n dX4_actItem_80 rfl ?_
  refine ax_aload_n dX4_actItem_81 rfl ?_
  refine rg_13 dX4_actItem_82 ?_
  refine ax_iload_n dX4_actItem_85 rfl ?_
  refine rl_13 dX4_actItem_86 (by first | omega | exact rk_N hw _ _) ?_
  refine ax_iload_n dX4_actItem_87 rfl ?_
  refine ax_iconst (nI 2) dX4_actItem_88 (by decide) ?_
  refine ax_neq 96 dX4_actItem_89 (by decide) (by first | omega | exact rk_N hw _ _) (by first | omega | exact rk_N hw _ _) (fun c89 => absurd c89 (by omega)) (fun c89 => ?_)
  refine ax_iconst (ax_b true) dX4_actItem_92 (by decide) ?_
  refine ax_goto 97 dX4_actItem_93 (by decide) ?_
  refine ax_V3 cv_X4_173 dX4_actItem_97 fh_M rfl (ok_nth hw (by first | omega | exact rk_6 hw _ | exact rk_11 hw _ | exact rk_18 hw _ | exact rk_19 hw _ | exact rk_27 hw _ | exact rk_N hw _ _) (by first | omega | exact rk_6 hw _ | exact rk_11 hw _ | exact rk_18 hw _ | exact rk_19 hw _ | exact rk_27 hw _ | exact rk_N hw _ _)) (by decide) (Nat.le_refl _) (Nat.le_refl _) (Nat.le_of_ble_eq_true rfl) ?_
  rw [hq, show oI (some i) = nI i from rfl]
  refine ax_istore_n dX4_actItem_100 rfl (by decide) ?_
  refine ax_aload_n dX4_actItem_101 rfl ?_
  refine ax_aload_n dX4_actItem_102 rfl ?_
  refine ax_aload_n dX4_actItem_103 rfl ?_
  refine rg_18 dX4_actItem_104 ?_
  refine ax_iload_n dX4_actItem_107 rfl ?_
  refine rl_18 dX4_actItem_108 (by first | omega | exact rk_N hw _ _) ?_
  refine ax_V1 cv_X4_124 dX4_actItem_109 fh_M rfl (ok_primary hw (rk_18 hw _)) (by decide) (Nat.le_refl _) (Nat.le_refl _) (Nat.le_of_ble_eq_true rfl) ?_
  refine rp_30 dX4_actItem_112 ?_
  refine ax_iload_n dX4_actItem_115 rfl ?_
  refine ax_iretD dX4_actItem_116 rfl ⟨(Nat.le_refl _), (Nat.le_refl _)⟩ ?_ ?_
  · rfl
  · rw [rOvS, if_neg (by omega)]
theorem ok_actItem (hw : rf_ok ρ) {t i : Nat} {x : Int32} (ht : t < 60) (h : rAi ρ t = some (i, x)) : ax_Ok mX4_actItem yX4_actItem 5 0 0 [ax_r (80, 0), ax_i (nI t)] (fh c ρ) (ax_D (ax_i (nI i)) (fh c (ru (rOvS ρ t) 30 0 x))) := by
  unfold rAi at h
  split at h
  · rename_i hp
    obtain ⟨⟨i1, k1⟩, hq, e⟩ := Option.map_eq_some_iff.mp h
    cases e
    exact ok_actItem3 hw ht hp hq
  · split at h
    · rename_i hp
      obtain ⟨k, hq, e⟩ := Option.map_eq_some_iff.mp h
      cases e
      obtain ⟨j, hj, ej, -⟩ := rFr_at hw hq
      rw [ej, nI_clamp (by omega)]
      exact ok_actItem5 hw ht hp hq ej
    · split at h
      · rename_i hp
        obtain ⟨i1, hq, e⟩ := Option.map_eq_some_iff.mp h
        cases e
        exact ok_actItem6 hw ht hp hq
      · rename_i h3 h5 h6
        obtain ⟨i1, hq, e⟩ := Option.map_eq_some_iff.mp h
        cases e
        by_cases h2 : ρ.1 12 t = 2
        · rw [h2] at hq
          exact ok_actItem2 hw ht h2 hq
        · rw [show (!decide (ρ.1 12 t = 2)) = true by simp [h2]] at hq
          exact ok_actItem1 hw ht ⟨h2, h3, h5, h6⟩ hq
theorem ok_act (hw : rf_ok ρ) {t i p : Nat} (ht : t < 60) (hi : i < 480) (hp : p < 6) (h16 : 1 ≤ ρ.1 12 t ∧ ρ.1 12 t ≤ 6) (hn : ρ.1 13 t + 1 < 1000000) (hv : ρ.1 21 i + 1 < 1000000) (hpl : ρ.1 17 0 + 1 < 1000000) (hrec : ρ.1 12 t = 3 → ρ.1 25 0 < 1440) (hfr : ρ.1 12 t = 5 → ∃ k, rFr ρ t = some k) : ax_Ok mX4_act yX4_act 7 0 0 [ax_r (80, 0), ax_i (nI t), ax_i (nI i), ax_i (nI p)] (fh c ρ) (ax_DV (fh c (rAct ρ t i p))) := by
  refine ax_Ok.of (by decide) rfl (fun q => by cases q) (Nat.le_of_ble_eq_true rfl) rfl ?_
  have h18 := rk_18 hw i
  have h19 := rk_19 hw i
  have h24 : ρ.1 24 i ||| 2 ^ p < 64 := or64 (rk_24 hw i) hp
  have h25 := rk_25 hw
  have hX := rActX_ok (t := t) hw hi hp hv hrec
  have e13 : (rActX ρ t i p).1 13 t = ρ.1 13 t := rActX_1 (by decide) (by decide) (by decide) (by decide) (by decide)
  have e17 : (rActX ρ t i p).1 17 0 = ρ.1 17 0 := rActX_1 (by decide) (by decide) (by decide) (by decide) (by decide)
  have h12x := rActX_12 (i := i) (p := p) (show ρ.1 12 t ≤ 8 by omega)
  have hcases : ρ.1 12 t = 1 ∨ ρ.1 12 t = 2 ∨ ρ.1 12 t = 3 ∨ ρ.1 12 t = 4 ∨ ρ.1 12 t = 5 ∨ ρ.1 12 t = 6 := by omega
  rcases hcases with hph | hph | hph | hph | hph | hph
  · skip
    refine ax_bipush (nI 8) dX4_act_0 (by decide) ?_
    refine ax_aload_n dX4_act_2 rfl ?_
    refine rg_18 dX4_act_3 ?_
    refine ax_iload_n dX4_act_6 rfl ?_
    refine rl_18 dX4_act_7 (by first | omega | exact rk_N hw _ _) ?_
    refine ax_imuln dX4_act_8 ?_
    refine ax_aload_n dX4_act_9 rfl ?_
    refine rg_19 dX4_act_10 ?_
    refine ax_iload_n dX4_act_13 rfl ?_
    refine rl_19 dX4_act_14 (by first | omega | exact rk_N hw _ _) ?_
    refine ax_iaddn dX4_act_15 ?_
    refine ax_istore dX4_act_16 rfl (by decide) ?_
    refine ax_aload_n dX4_act_18 rfl ?_
    refine rg_8 dX4_act_19 ?_
    refine ax_bipush (nI 8) dX4_act_22 (by decide) ?_
    refine ax_bipush (nI 6) dX4_act_24 (by decide) ?_
    refine ax_aload_n dX4_act_26 rfl ?_
    refine rg_18 dX4_act_27 ?_
    refine ax_iload_n dX4_act_30 rfl ?_
    refine rl_18 dX4_act_31 (by first | omega | exact rk_N hw _ _) ?_
    refine ax_imuln dX4_act_32 ?_
    refine ax_iload_n dX4_act_33 rfl ?_
    refine ax_iaddn dX4_act_34 ?_
    refine ax_imuln dX4_act_35 ?_
    refine ax_aload_n dX4_act_36 rfl ?_
    refine rg_19 dX4_act_37 ?_
    refine ax_iload_n dX4_act_40 rfl ?_
    refine rl_19 dX4_act_41 (by first | omega | exact rk_N hw _ _) ?_
    refine ax_iaddn dX4_act_42 ?_
    refine rl_8 dX4_act_43 (by first | omega | exact rk_N hw _ _) ?_
    refine ax_aload_n dX4_act_44 rfl ?_
    refine rg_21 dX4_act_45 ?_
    refine ax_iload_n dX4_act_48 rfl ?_
    refine rl_21 dX4_act_49 (by first | omega | exact rk_N hw _ _) ?_
    refine ax_neq 57 dX4_act_50 (by decide) (by first | omega | exact rk_N hw _ _) (by first | omega | exact rk_N hw _ _) (fun c50 => ?_) (fun c50 => ?_)
    · refine ax_iconst (ax_b false) dX4_act_57 (by decide) ?_
      refine ax_istore dX4_act_58 rfl (by decide) ?_
      refine ax_aload_n dX4_act_60 rfl ?_
      refine rg_12 dX4_act_61 ?_
      refine ax_iload_n dX4_act_64 rfl ?_
      refine rl_12 dX4_act_65 (by first | omega | exact rk_N hw _ _) ?_
      · refine ax_tin 100 dX4_act_66 (by rw [hph]; decide) (by rw [hph]; decide) (by rw [hph]; rfl) (by decide) ?_
        refine ax_aload_n dX4_act_100 rfl ?_
        refine rg_9 dX4_act_101 ?_
        refine ax_iload dX4_act_104 rfl ?_
        refine rl_9 dX4_act_106 (by first | omega | exact rk_N hw _ _) ?_
        refine ax_bipush (-9) dX4_act_107 (by decide) ?_
        refine ax_icmp_ne 117 dX4_act_109 (by decide) (fun c109 => ?_) (fun c109 => ?_)
        · refine ax_aload_n dX4_act_117 rfl ?_
          refine rg_12 dX4_act_118 ?_
          refine ax_iload_n dX4_act_121 rfl ?_
          refine ax_bipush (nI 6) dX4_act_122 (by decide) ?_
          refine rs_12 dX4_act_124 (by first | omega | exact rk_N hw _ _) ?_
          refine ax_goto 281 dX4_act_125 (by decide) ?_
          refine ax_hq (h2 := fh c (rActX ρ t i p)) (congrArg (fh c) (by first | contradiction | (simp [rActX, hph, c50, c109]; done) | (simp [rActX, hph, ru_1, bu_1, nu_n, nu_s, rG_1, c50, c109]; done))) ?_
          refine ax_aload_n dX4_act_281 rfl ?_
          refine rg_13 dX4_act_282 ?_
          refine ax_iload_n dX4_act_285 rfl ?_
          refine ax_dup2 dX4_act_286 rfl rfl ?_
          refine rl_13 dX4_act_287 (by omega) ?_
          refine ax_iconst (nI 1) dX4_act_288 (by decide) ?_
          refine ax_iaddn dX4_act_289 ?_
          refine rs_13 dX4_act_290 (by first | omega | exact rk_N hw _ _) ?_
          refine ax_aload_n dX4_act_291 rfl ?_
          refine ax_iload_n dX4_act_292 rfl ?_
          refine ax_V1v cv_X4_192 dX4_act_293 fh_M rfl (ok_settle (rf_nu hX (by rw [e13]; exact hn) (by exact trivial)) ht (by rw [nu_n (by decide), e17]; exact hpl) (by rw [nu_n (by decide)]; exact h12x)) (by decide) (Nat.le_refl _) (Nat.le_refl _) (Nat.le_of_ble_eq_true rfl) ?_
          refine ax_vretD dX4_act_296 rfl ⟨(Nat.le_refl _), (Nat.le_refl _)⟩ ?_
          rfl
        · refine ax_iload dX4_act_112 rfl ?_
          refine ax_beq 128 dX4_act_114 (by decide) (fun c114 => ?_) (fun c114 => ?_)
          · refine ax_aload_n dX4_act_128 rfl ?_
            refine rg_9 dX4_act_129 ?_
            refine ax_iload dX4_act_132 rfl ?_
            refine ax_iload_n dX4_act_134 rfl ?_
            refine rs_9 dX4_act_135 (by first | omega | exact rk_N hw _ _) ?_
            refine ax_goto 281 dX4_act_136 (by decide) ?_
            refine ax_hq (h2 := fh c (rActX ρ t i p)) (congrArg (fh c) (by first | contradiction | (simp [rActX, hph, c50, c109, c114]; done) | (simp [rActX, hph, ru_1, bu_1, nu_n, nu_s, rG_1, c50, c109, c114]; done))) ?_
            refine ax_aload_n dX4_act_281 rfl ?_
            refine rg_13 dX4_act_282 ?_
            refine ax_iload_n dX4_act_285 rfl ?_
            refine ax_dup2 dX4_act_286 rfl rfl ?_
            refine rl_13 dX4_act_287 (by omega) ?_
            refine ax_iconst (nI 1) dX4_act_288 (by decide) ?_
            refine ax_iaddn dX4_act_289 ?_
            refine rs_13 dX4_act_290 (by first | omega | exact rk_N hw _ _) ?_
            refine ax_aload_n dX4_act_291 rfl ?_
            refine ax_iload_n dX4_act_292 rfl ?_
            refine ax_V1v cv_X4_192 dX4_act_293 fh_M rfl (ok_settle (rf_nu hX (by rw [e13]; exact hn) (by exact trivial)) ht (by rw [nu_n (by decide), e17]; exact hpl) (by rw [nu_n (by decide)]; exact h12x)) (by decide) (Nat.le_refl _) (Nat.le_refl _) (Nat.le_of_ble_eq_true rfl) ?_
            refine ax_vretD dX4_act_296 rfl ⟨(Nat.le_refl _), (Nat.le_refl _)⟩ ?_
            rfl
          · refine ax_aload_n dX4_act_117 rfl ?_
            refine rg_12 dX4_act_118 ?_
            refine ax_iload_n dX4_act_121 rfl ?_
            refine ax_bipush (nI 6) dX4_act_122 (by decide) ?_
            refine rs_12 dX4_act_124 (by first | omega | exact rk_N hw _ _) ?_
            refine ax_goto 281 dX4_act_125 (by decide) ?_
            refine ax_hq (h2 := fh c (rActX ρ t i p)) (congrArg (fh c) (by first | contradiction | (simp [rActX, hph, c50, c109, c114]; done) | (simp [rActX, hph, ru_1, bu_1, nu_n, nu_s, rG_1, c50, c109, c114]; done))) ?_
            refine ax_aload_n dX4_act_281 rfl ?_
            refine rg_13 dX4_act_282 ?_
            refine ax_iload_n dX4_act_285 rfl ?_
            refine ax_dup2 dX4_act_286 rfl rfl ?_
            refine rl_13 dX4_act_287 (by omega) ?_
            refine ax_iconst (nI 1) dX4_act_288 (by decide) ?_
            refine ax_iaddn dX4_act_289 ?_
            refine rs_13 dX4_act_290 (by first | omega | exact rk_N hw _ _) ?_
            refine ax_aload_n dX4_act_291 rfl ?_
            refine ax_iload_n dX4_act_292 rfl ?_
            refine ax_V1v cv_X4_192 dX4_act_293 fh_M rfl (ok_settle (rf_nu hX (by rw [e13]; exact hn) (by exact trivial)) ht (by rw [nu_n (by decide), e17]; exact hpl) (by rw [nu_n (by decide)]; exact h12x)) (by decide) (Nat.le_refl _) (Nat.le_refl _) (Nat.le_of_ble_eq_true rfl) ?_
            refine ax_vretD dX4_act_296 rfl ⟨(Nat.le_refl _), (Nat.le_refl _)⟩ ?_
            rfl
    · refine ax_iconst (ax_b true) dX4_act_53 (by decide) ?_
      refine ax_goto 58 dX4_act_54 (by decide) ?_
      refine ax_istore dX4_act_58 rfl (by decide) ?_
      refine ax_aload_n dX4_act_60 rfl ?_
      refine rg_12 dX4_act_61 ?_
      refine ax_iload_n dX4_act_64 rfl ?_
      refine rl_12 dX4_act_65 (by first | omega | exact rk_N hw _ _) ?_
      · refine ax_tin 100 dX4_act_66 (by rw [hph]; decide) (by rw [hph]; decide) (by rw [hph]; rfl) (by decide) ?_
        refine ax_aload_n dX4_act_100 rfl ?_
        refine rg_9 dX4_act_101 ?_
        refine ax_iload dX4_act_104 rfl ?_
        refine rl_9 dX4_act_106 (by first | omega | exact rk_N hw _ _) ?_
        refine ax_bipush (-9) dX4_act_107 (by decide) ?_
        refine ax_icmp_ne 117 dX4_act_109 (by decide) (fun c109 => ?_) (fun c109 => ?_)
        · refine ax_aload_n dX4_act_117 rfl ?_
          refine rg_12 dX4_act_118 ?_
          refine ax_iload_n dX4_act_121 rfl ?_
          refine ax_bipush (nI 6) dX4_act_122 (by decide) ?_
          refine rs_12 dX4_act_124 (by first | omega | exact rk_N hw _ _) ?_
          refine ax_goto 281 dX4_act_125 (by decide) ?_
          refine ax_hq (h2 := fh c (rActX ρ t i p)) (congrArg (fh c) (by first | contradiction | (simp [rActX, hph, c50, c109]; done) | (simp [rActX, hph, ru_1, bu_1, nu_n, nu_s, rG_1, c50, c109]; done))) ?_
          refine ax_aload_n dX4_act_281 rfl ?_
          refine rg_13 dX4_act_282 ?_
          refine ax_iload_n dX4_act_285 rfl ?_
          refine ax_dup2 dX4_act_286 rfl rfl ?_
          refine rl_13 dX4_act_287 (by omega) ?_
          refine ax_iconst (nI 1) dX4_act_288 (by decide) ?_
          refine ax_iaddn dX4_act_289 ?_
          refine rs_13 dX4_act_290 (by first | omega | exact rk_N hw _ _) ?_
          refine ax_aload_n dX4_act_291 rfl ?_
          refine ax_iload_n dX4_act_292 rfl ?_
          refine ax_V1v cv_X4_192 dX4_act_293 fh_M rfl (ok_settle (rf_nu hX (by rw [e13]; exact hn) (by exact trivial)) ht (by rw [nu_n (by decide), e17]; exact hpl) (by rw [nu_n (by decide)]; exact h12x)) (by decide) (Nat.le_refl _) (Nat.le_refl _) (Nat.le_of_ble_eq_true rfl) ?_
          refine ax_vretD dX4_act_296 rfl ⟨(Nat.le_refl _), (Nat.le_refl _)⟩ ?_
          rfl
        · refine ax_iload dX4_act_112 rfl ?_
          refine ax_beq 128 dX4_act_114 (by decide) (fun c114 => ?_) (fun c114 => ?_)
          · refine ax_aload_n dX4_act_128 rfl ?_
            refine rg_9 dX4_act_129 ?_
            refine ax_iload dX4_act_132 rfl ?_
            refine ax_iload_n dX4_act_134 rfl ?_
            refine rs_9 dX4_act_135 (by first | omega | exact rk_N hw _ _) ?_
            refine ax_goto 281 dX4_act_136 (by decide) ?_
            refine ax_hq (h2 := fh c (rActX ρ t i p)) (congrArg (fh c) (by first | contradiction | (simp [rActX, hph, c50, c109, c114]; done) | (simp [rActX, hph, ru_1, bu_1, nu_n, nu_s, rG_1, c50, c109, c114]; done))) ?_
            refine ax_aload_n dX4_act_281 rfl ?_
            refine rg_13 dX4_act_282 ?_
            refine ax_iload_n dX4_act_285 rfl ?_
            refine ax_dup2 dX4_act_286 rfl rfl ?_
            refine rl_13 dX4_act_287 (by omega) ?_
            refine ax_iconst (nI 1) dX4_act_288 (by decide) ?_
            refine ax_iaddn dX4_act_289 ?_
            refine rs_13 dX4_act_290 (by first | omega | exact rk_N hw _ _) ?_
            refine ax_aload_n dX4_act_291 rfl ?_
            refine ax_iload_n dX4_act_292 rfl ?_
            refine ax_V1v cv_X4_192 dX4_act_293 fh_M rfl (ok_settle (rf_nu hX (by rw [e13]; exact hn) (by exact trivial)) ht (by rw [nu_n (by decide), e17]; exact hpl) (by rw [nu_n (by decide)]; exact h12x)) (by decide) (Nat.le_refl _) (Nat.le_refl _) (Nat.le_of_ble_eq_true rfl) ?_
            refine ax_vretD dX4_act_296 rfl ⟨(Nat.le_refl _), (Nat.le_refl _)⟩ ?_
            rfl
          · refine ax_aload_n dX4_act_117 rfl ?_
            refine rg_12 dX4_act_118 ?_
            refine ax_iload_n dX4_act_121 rfl ?_
            refine ax_bipush (nI 6) dX4_act_122 (by decide) ?_
            refine rs_12 dX4_act_124 (by first | omega | exact rk_N hw _ _) ?_
            refine ax_goto 281 dX4_act_125 (by decide) ?_
            refine ax_hq (h2 := fh c (rActX ρ t i p)) (congrArg (fh c) (by first | contradiction | (simp [rActX, hph, c50, c109, c114]; done) | (simp [rActX, hph, ru_1, bu_1, nu_n, nu_s, rG_1, c50, c109, c114]; done))) ?_
            refine ax_aload_n dX4_act_281 rfl ?_
            refine rg_13 dX4_act_282 ?_
            refine ax_iload_n dX4_act_285 rfl ?_
            refine ax_dup2 dX4_act_286 rfl rfl ?_
            refine rl_13 dX4_act_287 (by omega) ?_
            refine ax_iconst (nI 1) dX4_act_288 (by decide) ?_
            refine ax_iaddn dX4_act_289 ?_
            refine rs_13 dX4_act_290 (by first | omega | exact rk_N hw _ _) ?_
            refine ax_aload_n dX4_act_291 rfl ?_
            refine ax_iload_n dX4_act_292 rfl ?_
            refine ax_V1v cv_X4_192 dX4_act_293 fh_M rfl (ok_settle (rf_nu hX (by rw [e13]; exact hn) (by exact trivial)) ht (by rw [nu_n (by decide), e17]; exact hpl) (by rw [nu_n (by decide)]; exact h12x)) (by decide) (Nat.le_refl _) (Nat.le_refl _) (Nat.le_of_ble_eq_true rfl) ?_
            refine ax_vretD dX4_act_296 rfl ⟨(Nat.le_refl _), (Nat.le_refl _)⟩ ?_
            rfl
  · skip
    refine ax_bipush (nI 8) dX4_act_0 (by decide) ?_
    refine ax_aload_n dX4_act_2 rfl ?_
    refine rg_18 dX4_act_3 ?_
    refine ax_iload_n dX4_act_6 rfl ?_
    refine rl_18 dX4_act_7 (by first | omega | exact rk_N hw _ _) ?_
    refine ax_imuln dX4_act_8 ?_
    refine ax_aload_n dX4_act_9 rfl ?_
    refine rg_19 dX4_act_10 ?_
    refine ax_iload_n dX4_act_13 rfl ?_
    refine rl_19 dX4_act_14 (by first | omega | exact rk_N hw _ _) ?_
    refine ax_iaddn dX4_act_15 ?_
    refine ax_istore dX4_act_16 rfl (by decide) ?_
    refine ax_aload_n dX4_act_18 rfl ?_
    refine rg_8 dX4_act_19 ?_
    refine ax_bipush (nI 8) dX4_act_22 (by decide) ?_
    refine ax_bipush (nI 6) dX4_act_24 (by decide) ?_
    refine ax_aload_n dX4_act_26 rfl ?_
    refine rg_18 dX4_act_27 ?_
    refine ax_iload_n dX4_act_30 rfl ?_
    refine rl_18 dX4_act_31 (by first | omega | exact rk_N hw _ _) ?_
    refine ax_imuln dX4_act_32 ?_
    refine ax_iload_n dX4_act_33 rfl ?_
    refine ax_iaddn dX4_act_34 ?_
    refine ax_imuln dX4_act_35 ?_
    refine ax_aload_n dX4_act_36 rfl ?_
    refine rg_19 dX4_act_37 ?_
    refine ax_iload_n dX4_act_40 rfl ?_
    refine rl_19 dX4_act_41 (by first | omega | exact rk_N hw _ _) ?_
    refine ax_iaddn dX4_act_42 ?_
    refine rl_8 dX4_act_43 (by first | omega | exact rk_N hw _ _) ?_
    refine ax_aload_n dX4_act_44 rfl ?_
    refine rg_21 dX4_act_45 ?_
    refine ax_iload_n dX4_act_48 rfl ?_
    refine rl_21 dX4_act_49 (by first | omega | exact rk_N hw _ _) ?_
    refine ax_neq 57 dX4_act_50 (by decide) (by first | omega | exact rk_N hw _ _) (by first | omega | exact rk_N hw _ _) (fun c50 => ?_) (fun c50 => ?_)
    · refine ax_iconst (ax_b false) dX4_act_57 (by decide) ?_
      refine ax_istore dX4_act_58 rfl (by decide) ?_
      refine ax_aload_n dX4_act_60 rfl ?_
      refine rg_12 dX4_act_61 ?_
      refine ax_iload_n dX4_act_64 rfl ?_
      refine rl_12 dX4_act_65 (by first | omega | exact rk_N hw _ _) ?_
      · refine ax_tin 139 dX4_act_66 (by rw [hph]; decide) (by rw [hph]; decide) (by rw [hph]; rfl) (by decide) ?_
        refine ax_aload_n dX4_act_139 rfl ?_
        refine rg_9 dX4_act_140 ?_
        refine ax_iload dX4_act_143 rfl ?_
        refine rl_9 dX4_act_145 (by first | omega | exact rk_N hw _ _) ?_
        refine ax_bipush (-9) dX4_act_146 (by decide) ?_
        refine ax_icmp_ne 156 dX4_act_148 (by decide) (fun c148 => ?_) (fun c148 => ?_)
        · refine ax_aload_n dX4_act_156 rfl ?_
          refine rg_12 dX4_act_157 ?_
          refine ax_iload_n dX4_act_160 rfl ?_
          refine ax_bipush (nI 6) dX4_act_161 (by decide) ?_
          refine rs_12 dX4_act_163 (by first | omega | exact rk_N hw _ _) ?_
          refine ax_goto 281 dX4_act_164 (by decide) ?_
          refine ax_hq (h2 := fh c (rActX ρ t i p)) (congrArg (fh c) (by first | contradiction | (simp [rActX, hph, c50, c148]; done) | (simp [rActX, hph, ru_1, bu_1, nu_n, nu_s, rG_1, c50, c148]; done))) ?_
          refine ax_aload_n dX4_act_281 rfl ?_
          refine rg_13 dX4_act_282 ?_
          refine ax_iload_n dX4_act_285 rfl ?_
          refine ax_dup2 dX4_act_286 rfl rfl ?_
          refine rl_13 dX4_act_287 (by omega) ?_
          refine ax_iconst (nI 1) dX4_act_288 (by decide) ?_
          refine ax_iaddn dX4_act_289 ?_
          refine rs_13 dX4_act_290 (by first | omega | exact rk_N hw _ _) ?_
          refine ax_aload_n dX4_act_291 rfl ?_
          refine ax_iload_n dX4_act_292 rfl ?_
          refine ax_V1v cv_X4_192 dX4_act_293 fh_M rfl (ok_settle (rf_nu hX (by rw [e13]; exact hn) (by exact trivial)) ht (by rw [nu_n (by decide), e17]; exact hpl) (by rw [nu_n (by decide)]; exact h12x)) (by decide) (Nat.le_refl _) (Nat.le_refl _) (Nat.le_of_ble_eq_true rfl) ?_
          refine ax_vretD dX4_act_296 rfl ⟨(Nat.le_refl _), (Nat.le_refl _)⟩ ?_
          rfl
        · refine ax_iload dX4_act_151 rfl ?_
          refine ax_beq 281 dX4_act_153 (by decide) (fun c153 => ?_) (fun c153 => ?_)
          · refine ax_hq (h2 := fh c (rActX ρ t i p)) (congrArg (fh c) (by first | contradiction | (simp [rActX, hph, c50, c148, c153]; done) | (simp [rActX, hph, ru_1, bu_1, nu_n, nu_s, rG_1, c50, c148, c153]; done))) ?_
            refine ax_aload_n dX4_act_281 rfl ?_
            refine rg_13 dX4_act_282 ?_
            refine ax_iload_n dX4_act_285 rfl ?_
            refine ax_dup2 dX4_act_286 rfl rfl ?_
            refine rl_13 dX4_act_287 (by omega) ?_
            refine ax_iconst (nI 1) dX4_act_288 (by decide) ?_
            refine ax_iaddn dX4_act_289 ?_
            refine rs_13 dX4_act_290 (by first | omega | exact rk_N hw _ _) ?_
            refine ax_aload_n dX4_act_291 rfl ?_
            refine ax_iload_n dX4_act_292 rfl ?_
            refine ax_V1v cv_X4_192 dX4_act_293 fh_M rfl (ok_settle (rf_nu hX (by rw [e13]; exact hn) (by exact trivial)) ht (by rw [nu_n (by decide), e17]; exact hpl) (by rw [nu_n (by decide)]; exact h12x)) (by decide) (Nat.le_refl _) (Nat.le_refl _) (Nat.le_of_ble_eq_true rfl) ?_
            refine ax_vretD dX4_act_296 rfl ⟨(Nat.le_refl _), (Nat.le_refl _)⟩ ?_
            rfl
          · refine ax_aload_n dX4_act_156 rfl ?_
            refine rg_12 dX4_act_157 ?_
            refine ax_iload_n dX4_act_160 rfl ?_
            refine ax_bipush (nI 6) dX4_act_161 (by decide) ?_
            refine rs_12 dX4_act_163 (by first | omega | exact rk_N hw _ _) ?_
            refine ax_goto 281 dX4_act_164 (by decide) ?_
            refine ax_hq (h2 := fh c (rActX ρ t i p)) (congrArg (fh c) (by first | contradiction | (simp [rActX, hph, c50, c148, c153]; done) | (simp [rActX, hph, ru_1, bu_1, nu_n, nu_s, rG_1, c50, c148, c153]; done))) ?_
            refine ax_aload_n dX4_act_281 rfl ?_
            refine rg_13 dX4_act_282 ?_
            refine ax_iload_n dX4_act_285 rfl ?_
            refine ax_dup2 dX4_act_286 rfl rfl ?_
            refine rl_13 dX4_act_287 (by omega) ?_
            refine ax_iconst (nI 1) dX4_act_288 (by decide) ?_
            refine ax_iaddn dX4_act_289 ?_
            refine rs_13 dX4_act_290 (by first | omega | exact rk_N hw _ _) ?_
            refine ax_aload_n dX4_act_291 rfl ?_
            refine ax_iload_n dX4_act_292 rfl ?_
            refine ax_V1v cv_X4_192 dX4_act_293 fh_M rfl (ok_settle (rf_nu hX (by rw [e13]; exact hn) (by exact trivial)) ht (by rw [nu_n (by decide), e17]; exact hpl) (by rw [nu_n (by decide)]; exact h12x)) (by decide) (Nat.le_refl _) (Nat.le_refl _) (Nat.le_of_ble_eq_true rfl) ?_
            refine ax_vretD dX4_act_296 rfl ⟨(Nat.le_refl _), (Nat.le_refl _)⟩ ?_
            rfl
    · refine ax_iconst (ax_b true) dX4_act_53 (by decide) ?_
      refine ax_goto 58 dX4_act_54 (by decide) ?_
      refine ax_istore dX4_act_58 rfl (by decide) ?_
      refine ax_aload_n dX4_act_60 rfl ?_
      refine rg_12 dX4_act_61 ?_
      refine ax_iload_n dX4_act_64 rfl ?_
      refine rl_12 dX4_act_65 (by first | omega | exact rk_N hw _ _) ?_
      · refine ax_tin 139 dX4_act_66 (by rw [hph]; decide) (by rw [hph]; decide) (by rw [hph]; rfl) (by decide) ?_
        refine ax_aload_n dX4_act_139 rfl ?_
        refine rg_9 dX4_act_140 ?_
        refine ax_iload dX4_act_143 rfl ?_
        refine rl_9 dX4_act_145 (by first | omega | exact rk_N hw _ _) ?_
        refine ax_bipush (-9) dX4_act_146 (by decide) ?_
        refine ax_icmp_ne 156 dX4_act_148 (by decide) (fun c148 => ?_) (fun c148 => ?_)
        · refine ax_aload_n dX4_act_156 rfl ?_
          refine rg_12 dX4_act_157 ?_
          refine ax_iload_n dX4_act_160 rfl ?_
          refine ax_bipush (nI 6) dX4_act_161 (by decide) ?_
          refine rs_12 dX4_act_163 (by first | omega | exact rk_N hw _ _) ?_
          refine ax_goto 281 dX4_act_164 (by decide) ?_
          refine ax_hq (h2 := fh c (rActX ρ t i p)) (congrArg (fh c) (by first | contradiction | (simp [rActX, hph, c50, c148]; done) | (simp [rActX, hph, ru_1, bu_1, nu_n, nu_s, rG_1, c50, c148]; done))) ?_
          refine ax_aload_n dX4_act_281 rfl ?_
          refine rg_13 dX4_act_282 ?_
          refine ax_iload_n dX4_act_285 rfl ?_
          refine ax_dup2 dX4_act_286 rfl rfl ?_
          refine rl_13 dX4_act_287 (by omega) ?_
          refine ax_iconst (nI 1) dX4_act_288 (by decide) ?_
          refine ax_iaddn dX4_act_289 ?_
          refine rs_13 dX4_act_290 (by first | omega | exact rk_N hw _ _) ?_
          refine ax_aload_n dX4_act_291 rfl ?_
          refine ax_iload_n dX4_act_292 rfl ?_
          refine ax_V1v cv_X4_192 dX4_act_293 fh_M rfl (ok_settle (rf_nu hX (by rw [e13]; exact hn) (by exact trivial)) ht (by rw [nu_n (by decide), e17]; exact hpl) (by rw [nu_n (by decide)]; exact h12x)) (by decide) (Nat.le_refl _) (Nat.le_refl _) (Nat.le_of_ble_eq_true rfl) ?_
          refine ax_vretD dX4_act_296 rfl ⟨(Nat.le_refl _), (Nat.le_refl _)⟩ ?_
          rfl
        · refine ax_iload dX4_act_151 rfl ?_
          refine ax_beq 281 dX4_act_153 (by decide) (fun c153 => ?_) (fun c153 => ?_)
          · refine ax_hq (h2 := fh c (rActX ρ t i p)) (congrArg (fh c) (by first | contradiction | (simp [rActX, hph, c50, c148, c153]; done) | (simp [rActX, hph, ru_1, bu_1, nu_n, nu_s, rG_1, c50, c148, c153]; done))) ?_
            refine ax_aload_n dX4_act_281 rfl ?_
            refine rg_13 dX4_act_282 ?_
            refine ax_iload_n dX4_act_285 rfl ?_
            refine ax_dup2 dX4_act_286 rfl rfl ?_
            refine rl_13 dX4_act_287 (by omega) ?_
            refine ax_iconst (nI 1) dX4_act_288 (by decide) ?_
            refine ax_iaddn dX4_act_289 ?_
            refine rs_13 dX4_act_290 (by first | omega | exact rk_N hw _ _) ?_
            refine ax_aload_n dX4_act_291 rfl ?_
            refine ax_iload_n dX4_act_292 rfl ?_
            refine ax_V1v cv_X4_192 dX4_act_293 fh_M rfl (ok_settle (rf_nu hX (by rw [e13]; exact hn) (by exact trivial)) ht (by rw [nu_n (by decide), e17]; exact hpl) (by rw [nu_n (by decide)]; exact h12x)) (by decide) (Nat.le_refl _) (Nat.le_refl _) (Nat.le_of_ble_eq_true rfl) ?_
            refine ax_vretD dX4_act_296 rfl ⟨(Nat.le_refl _), (Nat.le_refl _)⟩ ?_
            rfl
          · refine ax_aload_n dX4_act_156 rfl ?_
            refine rg_12 dX4_act_157 ?_
            refine ax_iload_n dX4_act_160 rfl ?_
            refine ax_bipush (nI 6) dX4_act_161 (by decide) ?_
            refine rs_12 dX4_act_163 (by first | omega | exact rk_N hw _ _) ?_
            refine ax_goto 281 dX4_act_164 (by decide) ?_
            refine ax_hq (h2 := fh c (rActX ρ t i p)) (congrArg (fh c) (by first | contradiction | (simp [rActX, hph, c50, c148, c153]; done) | (simp [rActX, hph, ru_1, bu_1, nu_n, nu_s, rG_1, c50, c148, c153]; done))) ?_
            refine ax_aload_n dX4_act_281 rfl ?_
            refine rg_13 dX4_act_282 ?_
            refine ax_iload_n dX4_act_285 rfl ?_
            refine ax_dup2 dX4_act_286 rfl rfl ?_
            refine rl_13 dX4_act_287 (by omega) ?_
            refine ax_iconst (nI 1) dX4_act_288 (by decide) ?_
            refine ax_iaddn dX4_act_289 ?_
            refine rs_13 dX4_act_290 (by first | omega | exact rk_N hw _ _) ?_
            refine ax_aload_n dX4_act_291 rfl ?_
            refine ax_iload_n dX4_act_292 rfl ?_
            refine ax_V1v cv_X4_192 dX4_act_293 fh_M rfl (ok_settle (rf_nu hX (by rw [e13]; exact hn) (by exact trivial)) ht (by rw [nu_n (by decide), e17]; exact hpl) (by rw [nu_n (by decide)]; exact h12x)) (by decide) (Nat.le_refl _) (Nat.le_refl _) (Nat.le_of_ble_eq_true rfl) ?_
            refine ax_vretD dX4_act_296 rfl ⟨(Nat.le_refl _), (Nat.le_refl _)⟩ ?_
            rfl
  · have hrec := hrec hph
    refine ax_bipush (nI 8) dX4_act_0 (by decide) ?_
    refine ax_aload_n dX4_act_2 rfl ?_
    refine rg_18 dX4_act_3 ?_
    refine ax_iload_n dX4_act_6 rfl ?_
    refine rl_18 dX4_act_7 (by first | omega | exact rk_N hw _ _) ?_
    refine ax_imuln dX4_act_8 ?_
    refine ax_aload_n dX4_act_9 rfl ?_
    refine rg_19 dX4_act_10 ?_
    refine ax_iload_n dX4_act_13 rfl ?_
    refine rl_19 dX4_act_14 (by first | omega | exact rk_N hw _ _) ?_
    refine ax_iaddn dX4_act_15 ?_
    refine ax_istore dX4_act_16 rfl (by decide) ?_
    refine ax_aload_n dX4_act_18 rfl ?_
    refine rg_8 dX4_act_19 ?_
    refine ax_bipush (nI 8) dX4_act_22 (by decide) ?_
    refine ax_bipush (nI 6) dX4_act_24 (by decide) ?_
    refine ax_aload_n dX4_act_26 rfl ?_
    refine rg_18 dX4_act_27 ?_
    refine ax_iload_n dX4_act_30 rfl ?_
    refine rl_18 dX4_act_31 (by first | omega | exact rk_N hw _ _) ?_
    refine ax_imuln dX4_act_32 ?_
    refine ax_iload_n dX4_act_33 rfl ?_
    refine ax_iaddn dX4_act_34 ?_
    refine ax_imuln dX4_act_35 ?_
    refine ax_aload_n dX4_act_36 rfl ?_
    refine rg_19 dX4_act_37 ?_
    refine ax_iload_n dX4_act_40 rfl ?_
    refine rl_19 dX4_act_41 (by first | omega | exact rk_N hw _ _) ?_
    refine ax_iaddn dX4_act_42 ?_
    refine rl_8 dX4_act_43 (by first | omega | exact rk_N hw _ _) ?_
    refine ax_aload_n dX4_act_44 rfl ?_
    refine rg_21 dX4_act_45 ?_
    refine ax_iload_n dX4_act_48 rfl ?_
    refine rl_21 dX4_act_49 (by first | omega | exact rk_N hw _ _) ?_
    refine ax_neq 57 dX4_act_50 (by decide) (by first | omega | exact rk_N hw _ _) (by first | omega | exact rk_N hw _ _) (fun c50 => ?_) (fun c50 => ?_)
    · refine ax_iconst (ax_b false) dX4_act_57 (by decide) ?_
      refine ax_istore dX4_act_58 rfl (by decide) ?_
      refine ax_aload_n dX4_act_60 rfl ?_
      refine rg_12 dX4_act_61 ?_
      refine ax_iload_n dX4_act_64 rfl ?_
      refine rl_12 dX4_act_65 (by first | omega | exact rk_N hw _ _) ?_
      · refine ax_tin 167 dX4_act_66 (by rw [hph]; decide) (by rw [hph]; decide) (by rw [hph]; rfl) (by decide) ?_
        refine ax_aload_n dX4_act_167 rfl ?_
        refine rg_26 dX4_act_168 ?_
        refine ax_aload_n dX4_act_171 rfl ?_
        refine rg_25 dX4_act_172 ?_
        refine ax_iload_n dX4_act_175 rfl ?_
        refine rs_26 dX4_act_176 (by first | omega | exact rk_N hw _ _) ?_
        refine ax_aload_n dX4_act_177 rfl ?_
        refine rg_27 dX4_act_178 ?_
        refine ax_aload_n dX4_act_181 rfl ?_
        refine rg_25 dX4_act_182 ?_
        refine ax_iload_n dX4_act_185 rfl ?_
        refine rs_27 dX4_act_186 (by exact hrec) ?_
        refine ax_aload_n dX4_act_187 rfl ?_
        refine ax_dup dX4_act_188 rfl ?_
        refine rg_25 dX4_act_189 ?_
        refine ax_iconst (nI 1) dX4_act_192 (by decide) ?_
        refine ax_iaddn dX4_act_193 ?_
        refine rp_25 dX4_act_194 ?_
        refine ax_goto 281 dX4_act_197 (by decide) ?_
        refine ax_hq (h2 := fh c (rActX ρ t i p)) (congrArg (fh c) (by first | contradiction | (simp [rActX, hph, c50]; done) | (simp [rActX, hph, ru_1, bu_1, nu_n, nu_s, rG_1, c50]; done))) ?_
        refine ax_aload_n dX4_act_281 rfl ?_
        refine rg_13 dX4_act_282 ?_
        refine ax_iload_n dX4_act_285 rfl ?_
        refine ax_dup2 dX4_act_286 rfl rfl ?_
        refine rl_13 dX4_act_287 (by omega) ?_
        refine ax_iconst (nI 1) dX4_act_288 (by decide) ?_
        refine ax_iaddn dX4_act_289 ?_
        refine rs_13 dX4_act_290 (by first | omega | exact rk_N hw _ _) ?_
        refine ax_aload_n dX4_act_291 rfl ?_
        refine ax_iload_n dX4_act_292 rfl ?_
        refine ax_V1v cv_X4_192 dX4_act_293 fh_M rfl (ok_settle (rf_nu hX (by rw [e13]; exact hn) (by exact trivial)) ht (by rw [nu_n (by decide), e17]; exact hpl) (by rw [nu_n (by decide)]; exact h12x)) (by decide) (Nat.le_refl _) (Nat.le_refl _) (Nat.le_of_ble_eq_true rfl) ?_
        refine ax_vretD dX4_act_296 rfl ⟨(Nat.le_refl _), (Nat.le_refl _)⟩ ?_
        rfl
    · refine ax_iconst (ax_b true) dX4_act_53 (by decide) ?_
      refine ax_goto 58 dX4_act_54 (by decide) ?_
      refine ax_istore dX4_act_58 rfl (by decide) ?_
      refine ax_aload_n dX4_act_60 rfl ?_
      refine rg_12 dX4_act_61 ?_
      refine ax_iload_n dX4_act_64 rfl ?_
      refine rl_12 dX4_act_65 (by first | omega | exact rk_N hw _ _) ?_
      · refine ax_tin 167 dX4_act_66 (by rw [hph]; decide) (by rw [hph]; decide) (by rw [hph]; rfl) (by decide) ?_
        refine ax_aload_n dX4_act_167 rfl ?_
        refine rg_26 dX4_act_168 ?_
        refine ax_aload_n dX4_act_171 rfl ?_
        refine rg_25 dX4_act_172 ?_
        refine ax_iload_n dX4_act_175 rfl ?_
        refine rs_26 dX4_act_176 (by first | omega | exact rk_N hw _ _) ?_
        refine ax_aload_n dX4_act_177 rfl ?_
        refine rg_27 dX4_act_178 ?_
        refine ax_aload_n dX4_act_181 rfl ?_
        refine rg_25 dX4_act_182 ?_
        refine ax_iload_n dX4_act_185 rfl ?_
        refine rs_27 dX4_act_186 (by exact hrec) ?_
        refine ax_aload_n dX4_act_187 rfl ?_
        refine ax_dup dX4_act_188 rfl ?_
        refine rg_25 dX4_act_189 ?_
        refine ax_iconst (nI 1) dX4_act_192 (by decide) ?_
        refine ax_iaddn dX4_act_193 ?_
        refine rp_25 dX4_act_194 ?_
        refine ax_goto 281 dX4_act_197 (by decide) ?_
        refine ax_hq (h2 := fh c (rActX ρ t i p)) (congrArg (fh c) (by first | contradiction | (simp [rActX, hph, c50]; done) | (simp [rActX, hph, ru_1, bu_1, nu_n, nu_s, rG_1, c50]; done))) ?_
        refine ax_aload_n dX4_act_281 rfl ?_
        refine rg_13 dX4_act_282 ?_
        refine ax_iload_n dX4_act_285 rfl ?_
        refine ax_dup2 dX4_act_286 rfl rfl ?_
        refine rl_13 dX4_act_287 (by omega) ?_
        refine ax_iconst (nI 1) dX4_act_288 (by decide) ?_
        refine ax_iaddn dX4_act_289 ?_
        refine rs_13 dX4_act_290 (by first | omega | exact rk_N hw _ _) ?_
        refine ax_aload_n dX4_act_291 rfl ?_
        refine ax_iload_n dX4_act_292 rfl ?_
        refine ax_V1v cv_X4_192 dX4_act_293 fh_M rfl (ok_settle (rf_nu hX (by rw [e13]; exact hn) (by exact trivial)) ht (by rw [nu_n (by decide), e17]; exact hpl) (by rw [nu_n (by decide)]; exact h12x)) (by decide) (Nat.le_refl _) (Nat.le_refl _) (Nat.le_of_ble_eq_true rfl) ?_
        refine ax_vretD dX4_act_296 rfl ⟨(Nat.le_refl _), (Nat.le_refl _)⟩ ?_
        rfl
  · skip
    refine ax_bipush (nI 8) dX4_act_0 (by decide) ?_
    refine ax_aload_n dX4_act_2 rfl ?_
    refine rg_18 dX4_act_3 ?_
    refine ax_iload_n dX4_act_6 rfl ?_
    refine rl_18 dX4_act_7 (by first | omega | exact rk_N hw _ _) ?_
    refine ax_imuln dX4_act_8 ?_
    refine ax_aload_n dX4_act_9 rfl ?_
    refine rg_19 dX4_act_10 ?_
    refine ax_iload_n dX4_act_13 rfl ?_
    refine rl_19 dX4_act_14 (by first | omega | exact rk_N hw _ _) ?_
    refine ax_iaddn dX4_act_15 ?_
    refine ax_istore dX4_act_16 rfl (by decide) ?_
    refine ax_aload_n dX4_act_18 rfl ?_
    refine rg_8 dX4_act_19 ?_
    refine ax_bipush (nI 8) dX4_act_22 (by decide) ?_
    refine ax_bipush (nI 6) dX4_act_24 (by decide) ?_
    refine ax_aload_n dX4_act_26 rfl ?_
    refine rg_18 dX4_act_27 ?_
    refine ax_iload_n dX4_act_30 rfl ?_
    refine rl_18 dX4_act_31 (by first | omega | exact rk_N hw _ _) ?_
    refine ax_imuln dX4_act_32 ?_
    refine ax_iload_n dX4_act_33 rfl ?_
    refine ax_iaddn dX4_act_34 ?_
    refine ax_imuln dX4_act_35 ?_
    refine ax_aload_n dX4_act_36 rfl ?_
    refine rg_19 dX4_act_37 ?_
    refine ax_iload_n dX4_act_40 rfl ?_
    refine rl_19 dX4_act_41 (by first | omega | exact rk_N hw _ _) ?_
    refine ax_iaddn dX4_act_42 ?_
    refine rl_8 dX4_act_43 (by first | omega | exact rk_N hw _ _) ?_
    refine ax_aload_n dX4_act_44 rfl ?_
    refine rg_21 dX4_act_45 ?_
    refine ax_iload_n dX4_act_48 rfl ?_
    refine rl_21 dX4_act_49 (by first | omega | exact rk_N hw _ _) ?_
    refine ax_neq 57 dX4_act_50 (by decide) (by first | omega | exact rk_N hw _ _) (by first | omega | exact rk_N hw _ _) (fun c50 => ?_) (fun c50 => ?_)
    · refine ax_iconst (ax_b false) dX4_act_57 (by decide) ?_
      refine ax_istore dX4_act_58 rfl (by decide) ?_
      refine ax_aload_n dX4_act_60 rfl ?_
      refine rg_12 dX4_act_61 ?_
      refine ax_iload_n dX4_act_64 rfl ?_
      refine rl_12 dX4_act_65 (by first | omega | exact rk_N hw _ _) ?_
      · refine ax_tin 200 dX4_act_66 (by rw [hph]; decide) (by rw [hph]; decide) (by rw [hph]; rfl) (by decide) ?_
        refine ax_aload_n dX4_act_200 rfl ?_
        refine ax_iload_n dX4_act_201 rfl ?_
        refine ax_iload_n dX4_act_202 rfl ?_
        refine ax_iconst (ax_b true) dX4_act_203 (by decide) ?_
        refine ax_V3v cv_X4_199 dX4_act_204 fh_M rfl (ok_give hw hi hp) (by decide) (Nat.le_refl _) (Nat.le_refl _) (Nat.le_of_ble_eq_true rfl) ?_
        refine ax_aload_n dX4_act_207 rfl ?_
        refine rg_24 dX4_act_208 ?_
        refine ax_iload_n dX4_act_211 rfl ?_
        refine ax_dup2 dX4_act_212 rfl rfl ?_
        refine rl_24 dX4_act_213 (by first | omega | exact rk_N hw _ _) ?_
        refine ax_iconst (nI 1) dX4_act_214 (by decide) ?_
        refine ax_iload_n dX4_act_215 rfl ?_
        refine ax_ishl (nI (2 ^ p)) dX4_act_216 (nI_sh hp) ?_
        refine ax_ior (_) dX4_act_217 (nI_or _ _) ?_
        refine rs_24 dX4_act_218 (by first | omega | exact rk_N hw _ _) ?_
        refine ax_aload_n dX4_act_219 rfl ?_
        refine rg_9 dX4_act_220 ?_
        refine ax_iload dX4_act_223 rfl ?_
        refine ax_bipush (-9) dX4_act_225 (by decide) ?_
        refine rs_9 dX4_act_227 (by first | omega | exact rk_N hw _ _) ?_
        refine ax_aload_n dX4_act_228 rfl ?_
        refine rg_15 dX4_act_229 ?_
        refine ax_iload_n dX4_act_232 rfl ?_
        refine ax_iconst (ax_b true) dX4_act_233 (by decide) ?_
        refine rs_15 dX4_act_234 (by first | omega | exact rk_N hw _ _) ?_
        refine ax_goto 281 dX4_act_235 (by decide) ?_
        refine ax_hq (h2 := fh c (rActX ρ t i p)) (congrArg (fh c) (by first | contradiction | (simp [rActX, hph, c50]; done) | (simp [rActX, hph, ru_1, bu_1, nu_n, nu_s, rG_1, c50]; done))) ?_
        refine ax_aload_n dX4_act_281 rfl ?_
        refine rg_13 dX4_act_282 ?_
        refine ax_iload_n dX4_act_285 rfl ?_
        refine ax_dup2 dX4_act_286 rfl rfl ?_
        refine rl_13 dX4_act_287 (by omega) ?_
        refine ax_iconst (nI 1) dX4_act_288 (by decide) ?_
        refine ax_iaddn dX4_act_289 ?_
        refine rs_13 dX4_act_290 (by first | omega | exact rk_N hw _ _) ?_
        refine ax_aload_n dX4_act_291 rfl ?_
        refine ax_iload_n dX4_act_292 rfl ?_
        refine ax_V1v cv_X4_192 dX4_act_293 fh_M rfl (ok_settle (rf_nu hX (by rw [e13]; exact hn) (by exact trivial)) ht (by rw [nu_n (by decide), e17]; exact hpl) (by rw [nu_n (by decide)]; exact h12x)) (by decide) (Nat.le_refl _) (Nat.le_refl _) (Nat.le_of_ble_eq_true rfl) ?_
        refine ax_vretD dX4_act_296 rfl ⟨(Nat.le_refl _), (Nat.le_refl _)⟩ ?_
        rfl
    · refine ax_iconst (ax_b true) dX4_act_53 (by decide) ?_
      refine ax_goto 58 dX4_act_54 (by decide) ?_
      refine ax_istore dX4_act_58 rfl (by decide) ?_
      refine ax_aload_n dX4_act_60 rfl ?_
      refine rg_12 dX4_act_61 ?_
      refine ax_iload_n dX4_act_64 rfl ?_
      refine rl_12 dX4_act_65 (by first | omega | exact rk_N hw _ _) ?_
      · refine ax_tin 200 dX4_act_66 (by rw [hph]; decide) (by rw [hph]; decide) (by rw [hph]; rfl) (by decide) ?_
        refine ax_aload_n dX4_act_200 rfl ?_
        refine ax_iload_n dX4_act_201 rfl ?_
        refine ax_iload_n dX4_act_202 rfl ?_
        refine ax_iconst (ax_b true) dX4_act_203 (by decide) ?_
        refine ax_V3v cv_X4_199 dX4_act_204 fh_M rfl (ok_give hw hi hp) (by decide) (Nat.le_refl _) (Nat.le_refl _) (Nat.le_of_ble_eq_true rfl) ?_
        refine ax_aload_n dX4_act_207 rfl ?_
        refine rg_24 dX4_act_208 ?_
        refine ax_iload_n dX4_act_211 rfl ?_
        refine ax_dup2 dX4_act_212 rfl rfl ?_
        refine rl_24 dX4_act_213 (by first | omega | exact rk_N hw _ _) ?_
        refine ax_iconst (nI 1) dX4_act_214 (by decide) ?_
        refine ax_iload_n dX4_act_215 rfl ?_
        refine ax_ishl (nI (2 ^ p)) dX4_act_216 (nI_sh hp) ?_
        refine ax_ior (_) dX4_act_217 (nI_or _ _) ?_
        refine rs_24 dX4_act_218 (by first | omega | exact rk_N hw _ _) ?_
        refine ax_aload_n dX4_act_219 rfl ?_
        refine rg_9 dX4_act_220 ?_
        refine ax_iload dX4_act_223 rfl ?_
        refine ax_bipush (-9) dX4_act_225 (by decide) ?_
        refine rs_9 dX4_act_227 (by first | omega | exact rk_N hw _ _) ?_
        refine ax_aload_n dX4_act_228 rfl ?_
        refine rg_15 dX4_act_229 ?_
        refine ax_iload_n dX4_act_232 rfl ?_
        refine ax_iconst (ax_b true) dX4_act_233 (by decide) ?_
        refine rs_15 dX4_act_234 (by first | omega | exact rk_N hw _ _) ?_
        refine ax_goto 281 dX4_act_235 (by decide) ?_
        refine ax_hq (h2 := fh c (rActX ρ t i p)) (congrArg (fh c) (by first | contradiction | (simp [rActX, hph, c50]; done) | (simp [rActX, hph, ru_1, bu_1, nu_n, nu_s, rG_1, c50]; done))) ?_
        refine ax_aload_n dX4_act_281 rfl ?_
        refine rg_13 dX4_act_282 ?_
        refine ax_iload_n dX4_act_285 rfl ?_
        refine ax_dup2 dX4_act_286 rfl rfl ?_
        refine rl_13 dX4_act_287 (by omega) ?_
        refine ax_iconst (nI 1) dX4_act_288 (by decide) ?_
        refine ax_iaddn dX4_act_289 ?_
        refine rs_13 dX4_act_290 (by first | omega | exact rk_N hw _ _) ?_
        refine ax_aload_n dX4_act_291 rfl ?_
        refine ax_iload_n dX4_act_292 rfl ?_
        refine ax_V1v cv_X4_192 dX4_act_293 fh_M rfl (ok_settle (rf_nu hX (by rw [e13]; exact hn) (by exact trivial)) ht (by rw [nu_n (by decide), e17]; exact hpl) (by rw [nu_n (by decide)]; exact h12x)) (by decide) (Nat.le_refl _) (Nat.le_refl _) (Nat.le_of_ble_eq_true rfl) ?_
        refine ax_vretD dX4_act_296 rfl ⟨(Nat.le_refl _), (Nat.le_refl _)⟩ ?_
        rfl
  · obtain ⟨k, hq⟩ := hfr hph
    refine ax_bipush (nI 8) dX4_act_0 (by decide) ?_
    refine ax_aload_n dX4_act_2 rfl ?_
    refine rg_18 dX4_act_3 ?_
    refine ax_iload_n dX4_act_6 rfl ?_
    refine rl_18 dX4_act_7 (by first | omega | exact rk_N hw _ _) ?_
    refine ax_imuln dX4_act_8 ?_
    refine ax_aload_n dX4_act_9 rfl ?_
    refine rg_19 dX4_act_10 ?_
    refine ax_iload_n dX4_act_13 rfl ?_
    refine rl_19 dX4_act_14 (by first | omega | exact rk_N hw _ _) ?_
    refine ax_iaddn dX4_act_15 ?_
    refine ax_istore dX4_act_16 rfl (by decide) ?_
    refine ax_aload_n dX4_act_18 rfl ?_
    refine rg_8 dX4_act_19 ?_
    refine ax_bipush (nI 8) dX4_act_22 (by decide) ?_
    refine ax_bipush (nI 6) dX4_act_24 (by decide) ?_
    refine ax_aload_n dX4_act_26 rfl ?_
    refine rg_18 dX4_act_27 ?_
    refine ax_iload_n dX4_act_30 rfl ?_
    refine rl_18 dX4_act_31 (by first | omega | exact rk_N hw _ _) ?_
    refine ax_imuln dX4_act_32 ?_
    refine ax_iload_n dX4_act_33 rfl ?_
    refine ax_iaddn dX4_act_34 ?_
    refine ax_imuln dX4_act_35 ?_
    refine ax_aload_n dX4_act_36 rfl ?_
    refine rg_19 dX4_act_37 ?_
    refine ax_iload_n dX4_act_40 rfl ?_
    refine rl_19 dX4_act_41 (by first | omega | exact rk_N hw _ _) ?_
    refine ax_iaddn dX4_act_42 ?_
    refine rl_8 dX4_act_43 (by first | omega | exact rk_N hw _ _) ?_
    refine ax_aload_n dX4_act_44 rfl ?_
    refine rg_21 dX4_act_45 ?_
    refine ax_iload_n dX4_act_48 rfl ?_
    refine rl_21 dX4_act_49 (by first | omega | exact rk_N hw _ _) ?_
    refine ax_neq 57 dX4_act_50 (by decide) (by first | omega | exact rk_N hw _ _) (by first | omega | exact rk_N hw _ _) (fun c50 => ?_) (fun c50 => ?_)
    · refine ax_iconst (ax_b false) dX4_act_57 (by decide) ?_
      refine ax_istore dX4_act_58 rfl (by decide) ?_
      refine ax_aload_n dX4_act_60 rfl ?_
      refine rg_12 dX4_act_61 ?_
      refine ax_iload_n dX4_act_64 rfl ?_
      refine rl_12 dX4_act_65 (by first | omega | exact rk_N hw _ _) ?_
      · refine ax_tin 238 dX4_act_66 (by rw [hph]; decide) (by rw [hph]; decide) (by rw [hph]; rfl) (by decide) ?_
        refine ax_aload_n dX4_act_238 rfl ?_
        refine ax_iload_n dX4_act_239 rfl ?_
        refine ax_iload_n dX4_act_240 rfl ?_
        refine ax_iconst (ax_b false) dX4_act_241 (by decide) ?_
        refine ax_V3v cv_X4_199 dX4_act_242 fh_M rfl (ok_give hw hi hp) (by decide) (Nat.le_refl _) (Nat.le_refl _) (Nat.le_of_ble_eq_true rfl) ?_
        refine ax_aload_n dX4_act_245 rfl ?_
        refine rg_24 dX4_act_246 ?_
        refine ax_iload_n dX4_act_249 rfl ?_
        refine ax_dup2 dX4_act_250 rfl rfl ?_
        refine rl_24 dX4_act_251 (by first | omega | exact rk_N hw _ _) ?_
        refine ax_iconst (nI 1) dX4_act_252 (by decide) ?_
        refine ax_iload_n dX4_act_253 rfl ?_
        refine ax_ishl (nI (2 ^ p)) dX4_act_254 (nI_sh hp) ?_
        refine ax_ior (_) dX4_act_255 (nI_or _ _) ?_
        refine rs_24 dX4_act_256 (by first | omega | exact rk_N hw _ _) ?_
        refine ax_aload_n dX4_act_257 rfl ?_
        refine rg_26 dX4_act_258 ?_
        refine ax_aload_n dX4_act_261 rfl ?_
        refine ax_iload_n dX4_act_262 rfl ?_
        refine ax_V1 cv_X4_180 dX4_act_263 fh_M rfl (ok_firstRecord (rf_nu (rG_ok hw hv) (by rw [rG_1 (by decide)]; omega) (by rw [rG_1 (by decide)]; exact h24)) ht) (by decide) (Nat.le_refl _) (Nat.le_refl _) (Nat.le_of_ble_eq_true rfl) ?_
        rw [rFr_eq (ρ := ρ) (by rw [nu_n (by decide), rG_1 (by decide)]) (fun q => by rw [nu_2, rG_22 (by decide)]), hq, show oI (some k) = nI k from rfl]
        refine ax_bipush (-9) dX4_act_266 (by decide) ?_
        refine rs_26 dX4_act_268 (by have := rFr_lt hw hq; omega) ?_
        refine ax_goto 281 dX4_act_269 (by decide) ?_
        refine ax_hq (h2 := fh c (rActX ρ t i p)) (congrArg (fh c) (by first | contradiction | (simp [rActX, hph, c50]; done) | (simp [rActX, hph, ru_1, bu_1, nu_n, nu_s, rG_1, c50]; done) | (simp [rActX, hph, ru_1, bu_1, nu_n, nu_s, rG_1, hq, c50]; done))) ?_
        refine ax_aload_n dX4_act_281 rfl ?_
        refine rg_13 dX4_act_282 ?_
        refine ax_iload_n dX4_act_285 rfl ?_
        refine ax_dup2 dX4_act_286 rfl rfl ?_
        refine rl_13 dX4_act_287 (by omega) ?_
        refine ax_iconst (nI 1) dX4_act_288 (by decide) ?_
        refine ax_iaddn dX4_act_289 ?_
        refine rs_13 dX4_act_290 (by first | omega | exact rk_N hw _ _) ?_
        refine ax_aload_n dX4_act_291 rfl ?_
        refine ax_iload_n dX4_act_292 rfl ?_
        refine ax_V1v cv_X4_192 dX4_act_293 fh_M rfl (ok_settle (rf_nu hX (by rw [e13]; exact hn) (by exact trivial)) ht (by rw [nu_n (by decide), e17]; exact hpl) (by rw [nu_n (by decide)]; exact h12x)) (by decide) (Nat.le_refl _) (Nat.le_refl _) (Nat.le_of_ble_eq_true rfl) ?_
        refine ax_vretD dX4_act_296 rfl ⟨(Nat.le_refl _), (Nat.le_refl _)⟩ ?_
        rfl
    · refine ax_iconst (ax_b true) dX4_act_53 (by decide) ?_
      refine ax_goto 58 dX4_act_54 (by decide) ?_
      refine ax_istore dX4_act_58 rfl (by decide) ?_
      refine ax_aload_n dX4_act_60 rfl ?_
      refine rg_12 dX4_act_61 ?_
      refine ax_iload_n dX4_act_64 rfl ?_
      refine rl_12 dX4_act_65 (by first | omega | exact rk_N hw _ _) ?_
      · refine ax_tin 238 dX4_act_66 (by rw [hph]; decide) (by rw [hph]; decide) (by rw [hph]; rfl) (by decide) ?_
        refine ax_aload_n dX4_act_238 rfl ?_
        refine ax_iload_n dX4_act_239 rfl ?_
        refine ax_iload_n dX4_act_240 rfl ?_
        refine ax_iconst (ax_b false) dX4_act_241 (by decide) ?_
        refine ax_V3v cv_X4_199 dX4_act_242 fh_M rfl (ok_give hw hi hp) (by decide) (Nat.le_refl _) (Nat.le_refl _) (Nat.le_of_ble_eq_true rfl) ?_
        refine ax_aload_n dX4_act_245 rfl ?_
        refine rg_24 dX4_act_246 ?_
        refine ax_iload_n dX4_act_249 rfl ?_
        refine ax_dup2 dX4_act_250 rfl rfl ?_
        refine rl_24 dX4_act_251 (by first | omega | exact rk_N hw _ _) ?_
        refine ax_iconst (nI 1) dX4_act_252 (by decide) ?_
        refine ax_iload_n dX4_act_253 rfl ?_
        refine ax_ishl (nI (2 ^ p)) dX4_act_254 (nI_sh hp) ?_
        refine ax_ior (_) dX4_act_255 (nI_or _ _) ?_
        refine rs_24 dX4_act_256 (by first | omega | exact rk_N hw _ _) ?_
        refine ax_aload_n dX4_act_257 rfl ?_
        refine rg_26 dX4_act_258 ?_
        refine ax_aload_n dX4_act_261 rfl ?_
        refine ax_iload_n dX4_act_262 rfl ?_
        refine ax_V1 cv_X4_180 dX4_act_263 fh_M rfl (ok_firstRecord (rf_nu (rG_ok hw hv) (by rw [rG_1 (by decide)]; omega) (by rw [rG_1 (by decide)]; exact h24)) ht) (by decide) (Nat.le_refl _) (Nat.le_refl _) (Nat.le_of_ble_eq_true rfl) ?_
        rw [rFr_eq (ρ := ρ) (by rw [nu_n (by decide), rG_1 (by decide)]) (fun q => by rw [nu_2, rG_22 (by decide)]), hq, show oI (some k) = nI k from rfl]
        refine ax_bipush (-9) dX4_act_266 (by decide) ?_
        refine rs_26 dX4_act_268 (by have := rFr_lt hw hq; omega) ?_
        refine ax_goto 281 dX4_act_269 (by decide) ?_
        refine ax_hq (h2 := fh c (rActX ρ t i p)) (congrArg (fh c) (by first | contradiction | (simp [rActX, hph, c50]; done) | (simp [rActX, hph, ru_1, bu_1, nu_n, nu_s, rG_1, c50]; done) | (simp [rActX, hph, ru_1, bu_1, nu_n, nu_s, rG_1, hq, c50]; done))) ?_
        refine ax_aload_n dX4_act_281 rfl ?_
        refine rg_13 dX4_act_282 ?_
        refine ax_iload_n dX4_act_285 rfl ?_
        refine ax_dup2 dX4_act_286 rfl rfl ?_
        refine rl_13 dX4_act_287 (by omega) ?_
        refine ax_iconst (nI 1) dX4_act_288 (by decide) ?_
        refine ax_iaddn dX4_act_289 ?_
        refine rs_13 dX4_act_290 (by first | omega | exact rk_N hw _ _) ?_
        refine ax_aload_n dX4_act_291 rfl ?_
        refine ax_iload_n dX4_act_292 rfl ?_
        refine ax_V1v cv_X4_192 dX4_act_293 fh_M rfl (ok_settle (rf_nu hX (by rw [e13]; exact hn) (by exact trivial)) ht (by rw [nu_n (by decide), e17]; exact hpl) (by rw [nu_n (by decide)]; exact h12x)) (by decide) (Nat.le_refl _) (Nat.le_refl _) (Nat.le_of_ble_eq_true rfl) ?_
        refine ax_vretD dX4_act_296 rfl ⟨(Nat.le_refl _), (Nat.le_refl _)⟩ ?_
        rfl
  · skip
    refine ax_bipush (nI 8) dX4_act_0 (by decide) ?_
    refine ax_aload_n dX4_act_2 rfl ?_
    refine rg_18 dX4_act_3 ?_
    refine ax_iload_n dX4_act_6 rfl ?_
    refine rl_18 dX4_act_7 (by first | omega | exact rk_N hw _ _) ?_
    refine ax_imuln dX4_act_8 ?_
    refine ax_aload_n dX4_act_9 rfl ?_
    refine rg_19 dX4_act_10 ?_
    refine ax_iload_n dX4_act_13 rfl ?_
    refine rl_19 dX4_act_14 (by first | omega | exact rk_N hw _ _) ?_
    refine ax_iaddn dX4_act_15 ?_
    refine ax_istore dX4_act_16 rfl (by decide) ?_
    refine ax_aload_n dX4_act_18 rfl ?_
    refine rg_8 dX4_act_19 ?_
    refine ax_bipush (nI 8) dX4_act_22 (by decide) ?_
    refine ax_bipush (nI 6) dX4_act_24 (by decide) ?_
    refine ax_aload_n dX4_act_26 rfl ?_
    refine rg_18 dX4_act_27 ?_
    refine ax_iload_n dX4_act_30 rfl ?_
    refine rl_18 dX4_act_31 (by first | omega | exact rk_N hw _ _) ?_
    refine ax_imuln dX4_act_32 ?_
    refine ax_iload_n dX4_act_33 rfl ?_
    refine ax_iaddn dX4_act_34 ?_
    refine ax_imuln dX4_act_35 ?_
    refine ax_aload_n dX4_act_36 rfl ?_
    refine rg_19 dX4_act_37 ?_
    refine ax_iload_n dX4_act_40 rfl ?_
    refine rl_19 dX4_act_41 (by first | omega | exact rk_N hw _ _) ?_
    refine ax_iaddn dX4_act_42 ?_
    refine rl_8 dX4_act_43 (by first | omega | exact rk_N hw _ _) ?_
    refine ax_aload_n dX4_act_44 rfl ?_
    refine rg_21 dX4_act_45 ?_
    refine ax_iload_n dX4_act_48 rfl ?_
    refine rl_21 dX4_act_49 (by first | omega | exact rk_N hw _ _) ?_
    refine ax_neq 57 dX4_act_50 (by decide) (by first | omega | exact rk_N hw _ _) (by first | omega | exact rk_N hw _ _) (fun c50 => ?_) (fun c50 => ?_)
    · refine ax_iconst (ax_b false) dX4_act_57 (by decide) ?_
      refine ax_istore dX4_act_58 rfl (by decide) ?_
      refine ax_aload_n dX4_act_60 rfl ?_
      refine rg_12 dX4_act_61 ?_
      refine ax_iload_n dX4_act_64 rfl ?_
      refine rl_12 dX4_act_65 (by first | omega | exact rk_N hw _ _) ?_
      · refine ax_tout 272 dX4_act_66 (by rw [hph]; decide) (by decide) ?_
        refine ax_aload_n dX4_act_272 rfl ?_
        refine rg_9 dX4_act_273 ?_
        refine ax_iload dX4_act_276 rfl ?_
        refine ax_bipush (-9) dX4_act_278 (by decide) ?_
        refine rs_9 dX4_act_280 (by first | omega | exact rk_N hw _ _) ?_
        refine ax_hq (h2 := fh c (rActX ρ t i p)) (congrArg (fh c) (by first | contradiction | (simp [rActX, hph, c50]; done) | (simp [rActX, hph, ru_1, bu_1, nu_n, nu_s, rG_1, c50]; done))) ?_
        refine ax_aload_n dX4_act_281 rfl ?_
        refine rg_13 dX4_act_282 ?_
        refine ax_iload_n dX4_act_285 rfl ?_
        refine ax_dup2 dX4_act_286 rfl rfl ?_
        refine rl_13 dX4_act_287 (by omega) ?_
        refine ax_iconst (nI 1) dX4_act_288 (by decide) ?_
        refine ax_iaddn dX4_act_289 ?_
        refine rs_13 dX4_act_290 (by first | omega | exact rk_N hw _ _) ?_
        refine ax_aload_n dX4_act_291 rfl ?_
        refine ax_iload_n dX4_act_292 rfl ?_
        refine ax_V1v cv_X4_192 dX4_act_293 fh_M rfl (ok_settle (rf_nu hX (by rw [e13]; exact hn) (by exact trivial)) ht (by rw [nu_n (by decide), e17]; exact hpl) (by rw [nu_n (by decide)]; exact h12x)) (by decide) (Nat.le_refl _) (Nat.le_refl _) (Nat.le_of_ble_eq_true rfl) ?_
        refine ax_vretD dX4_act_296 rfl ⟨(Nat.le_refl _), (Nat.le_refl _)⟩ ?_
        rfl
    · refine ax_iconst (ax_b true) dX4_act_53 (by decide) ?_
      refine ax_goto 58 dX4_act_54 (by decide) ?_
      refine ax_istore dX4_act_58 rfl (by decide) ?_
      refine ax_aload_n dX4_act_60 rfl ?_
      refine rg_12 dX4_act_61 ?_
      refine ax_iload_n dX4_act_64 rfl ?_
      refine rl_12 dX4_act_65 (by first | omega | exact rk_N hw _ _) ?_
      · refine ax_tout 272 dX4_act_66 (by rw [hph]; decide) (by decide) ?_
        refine ax_aload_n dX4_act_272 rfl ?_
        refine rg_9 dX4_act_273 ?_
        refine ax_iload dX4_act_276 rfl ?_
        refine ax_bipush (-9) dX4_act_278 (by decide) ?_
        refine rs_9 dX4_act_280 (by first | omega | exact rk_N hw _ _) ?_
        refine ax_hq (h2 := fh c (rActX ρ t i p)) (congrArg (fh c) (by first | contradiction | (simp [rActX, hph, c50]; done) | (simp [rActX, hph, ru_1, bu_1, nu_n, nu_s, rG_1, c50]; done))) ?_
        refine ax_aload_n dX4_act_281 rfl ?_
        refine rg_13 dX4_act_282 ?_
        refine ax_iload_n dX4_act_285 rfl ?_
        refine ax_dup2 dX4_act_286 rfl rfl ?_
        refine rl_13 dX4_act_287 (by omega) ?_
        refine ax_iconst (nI 1) dX4_act_288 (by decide) ?_
        refine ax_iaddn dX4_act_289 ?_
        refine rs_13 dX4_act_290 (by first | omega | exact rk_N hw _ _) ?_
        refine ax_aload_n dX4_act_291 rfl ?_
        refine ax_iload_n dX4_act_292 rfl ?_
        refine ax_V1v cv_X4_192 dX4_act_293 fh_M rfl (ok_settle (rf_nu hX (by rw [e13]; exact hn) (by exact trivial)) ht (by rw [nu_n (by decide), e17]; exact hpl) (by rw [nu_n (by decide)]; exact h12x)) (by decide) (Nat.le_refl _) (Nat.le_refl _) (Nat.le_of_ble_eq_true rfl) ?_
        refine ax_vretD dX4_act_296 rfl ⟨(Nat.le_refl _), (Nat.le_refl _)⟩ ?_
        rfl
/-- what go() answers, and the state behind it -/
def rGo (ρ : ax_R) (t : Nat) : Int32 × ax_R :=
  if rAc ρ t = false then (-3, ρ) else match rAi ρ t with
  | none => (0, ρ)
  | some q =>
    if rM ρ (ρ.1 18 q.1) = 0 then (-5, ru (rOvS ρ t) 30 0 q.2) else
    if ρ.2.1 0 (ρ.1 11 t) = false ∨ rU ρ (ρ.1 18 q.1) q.2.toNatClampNeg = false then (-6, ru (rOvS ρ t) 30 0 q.2) else
    (nI ((rAct (ru (rOvS ρ t) 30 0 q.2) t q.1 q.2.toNatClampNeg).1 12 t), rAct (ru (rOvS ρ t) 30 0 q.2) t q.1 q.2.toNatClampNeg)
/-- what go() asks of the state -/
def rGp (ρ : ax_R) (t : Nat) : Prop := rf_ok ρ ∧ (rAc ρ t = true → rAi ρ t ≠ none) ∧ ρ.1 13 t + 1 < 1000000 ∧ (∀ i, ρ.1 21 i + 1 < 1000000) ∧ ρ.1 17 0 + 1 < 1000000 ∧ (ρ.1 12 t = 3 → ρ.1 25 0 < 1440)
theorem rAi_in {ρ : ax_R} (hw : rf_ok ρ) {t i : Nat} {x : Int32} (ht : t < 60) (h : rAi ρ t = some (i, x)) : i < 480 ∧ (rM ρ (ρ.1 18 i) ≠ 0 → ∃ p, p < 6 ∧ x = nI p) := by
  have prim : ∀ i, rM ρ (ρ.1 18 i) ≠ 0 → ∃ p, p < 6 ∧ oI (rL ρ (ρ.1 18 i))[0]? = nI p := fun i h => by
    obtain ⟨p, e, hp, -⟩ := rL_some h
    have := rk_5 hw (ρ.1 18 i)
    exact ⟨p, by omega, by rw [e]; rfl⟩
  unfold rAi at h
  split at h
  · obtain ⟨⟨i1, k1⟩, hq, e⟩ := Option.map_eq_some_iff.mp h
    cases e
    have := rB_at hw ht hq
    exact ⟨this.1, fun _ => ⟨k1, this.2, rfl⟩⟩
  · split at h
    · obtain ⟨k, hq, e⟩ := Option.map_eq_some_iff.mp h
      cases e
      obtain ⟨j, hj, ej, -⟩ := rFr_at hw hq
      rw [ej, nI_clamp (by omega)]
      exact ⟨hj, fun _ => ⟨_, rk_27 hw k, rfl⟩⟩
    · split at h
      · obtain ⟨i1, hq, e⟩ := Option.map_eq_some_iff.mp h
        cases e
        exact ⟨rFl_lt hw ht hq, prim _⟩
      · obtain ⟨i1, hq, e⟩ := Option.map_eq_some_iff.mp h
        cases e
        exact ⟨rNt_lt hw ht hq, prim _⟩
theorem rM_eq {ρ ρ2 : ax_R} {r : Nat} (h1 : ∀ k j, k = 5 ∨ k = 6 → ρ2.1 k j = ρ.1 k j) (h2 : ρ2.2.1 = ρ.2.1) : rM ρ2 r = rM ρ r := by
  unfold rM rO
  rw [h1 5 r (Or.inl rfl), h2]
  simp only [h1 6 _ (Or.inr rfl)]
theorem rU_eq {ρ ρ2 : ax_R} {r p : Nat} (h1 : ∀ k j, k = 5 ∨ k = 6 → ρ2.1 k j = ρ.1 k j) (h2 : ρ2.2.1 = ρ.2.1) : rU ρ2 r p = rU ρ r p := by
  unfold rU
  rw [h1 6 _ (Or.inr rfl), h2]
theorem rAc_iff {ρ : ax_R} {t : Nat} : rAc ρ t = true ↔ 1 ≤ ρ.1 12 t ∧ ρ.1 12 t ≤ 6 := by
  simp [rAc]
theorem ok_go {t : Nat} (ht : t < 60) (hg : rGp ρ t) : ax_Ok mX4_go yX4_go 8 0 0 [ax_r (80, 0), ax_i (nI t)] (fh c ρ) (ax_D (ax_i (rGo ρ t).1) (fh c (rGo ρ t).2)) := by
  refine ax_Ok.of (by decide) rfl (fun q => by cases q) (Nat.le_of_ble_eq_true rfl) rfl ?_
  obtain ⟨hw, hai, hn, hv, hpl, hrec⟩ := hg
  cases ha : rAc ρ t with
  | false =>
    refine ax_aload_n dX4_go_0 rfl ?_
    refine ax_iload_n dX4_go_1 rfl ?_
    refine ax_V1 cv_X4_133 dX4_go_2 fh_M rfl (ok_isActive hw ht) (by decide) (Nat.le_refl _) (Nat.le_refl _) (Nat.le_of_ble_eq_true rfl) ?_
    refine ax_bne 11 dX4_go_5 (by decide) (fun c5 => absurd c5 (by simp [ha])) (fun c5 => ?_)
    refine ax_bipush (-3) dX4_go_8 (by decide) ?_
    refine ax_iretD dX4_go_10 rfl ⟨(Nat.le_refl _), (Nat.le_refl _)⟩ ?_ ?_
    · simp [rGo, ha]
    · simp [rGo, ha]
  | true =>
    obtain ⟨⟨i, x⟩, hq⟩ := Option.ne_none_iff_exists'.mp (hai ha)
    obtain ⟨hi, hx⟩ := rAi_in hw ht hq
    obtain ⟨h1, h6⟩ := rAc_iff.mp ha
    have e : rGo ρ t = (if rM ρ (ρ.1 18 i) = 0 then (-5, ru (rOvS ρ t) 30 0 x) else if ρ.2.1 0 (ρ.1 11 t) = false ∨ rU ρ (ρ.1 18 i) x.toNatClampNeg = false then (-6, ru (rOvS ρ t) 30 0 x) else (nI ((rAct (ru (rOvS ρ t) 30 0 x) t i x.toNatClampNeg).1 12 t), rAct (ru (rOvS ρ t) 30 0 x) t i x.toNatClampNeg)) := by
      rw [rGo, if_neg (by simp [ha]), hq]
    rw [e]
    have hwS := rOvS_ok (t := t) hw ht
    have hw1 : rf_ok (ru (rOvS ρ t) 30 0 x) := rf_ru hwS (Or.inl (by decide))
    have e1 : ∀ k j, k ≠ 28 → k ≠ 29 → (ru (rOvS ρ t) 30 0 x).1 k j = ρ.1 k j := fun k j h2 h3 => rOvS_1 h2 h3
    have e21 : (ru (rOvS ρ t) 30 0 x).2.1 = ρ.2.1 := by rw [ru_21, rOvS_2]
    have e22 : ∀ k, (ru (rOvS ρ t) 30 0 x).2.2 26 k = ρ.2.2 26 k := fun k => by simp [ru, rOvS_2]
    have e30 : (ru (rOvS ρ t) 30 0 x).2.2 30 0 = x := by simp [ru]
    have eM : ∀ r, rM (ru (rOvS ρ t) 30 0 x) r = rM ρ r := fun r => rM_eq (fun k j hk => e1 k j (by omega) (by omega)) e21
    have eU : ∀ r p, rU (ru (rOvS ρ t) 30 0 x) r p = rU ρ r p := fun r p => rU_eq (fun k j hk => e1 k j (by omega) (by omega)) e21
    have eF : rFr (ru (rOvS ρ t) 30 0 x) t = rFr ρ t := rFr_eq (e1 25 0 (by decide) (by decide)) e22
    have hfr : (ru (rOvS ρ t) 30 0 x).1 12 t = 5 → ∃ k, rFr (ru (rOvS ρ t) 30 0 x) t = some k := by
      intro h5
      rw [e1 12 t (by decide) (by decide)] at h5
      rw [eF]
      unfold rAi at hq
      rw [if_neg (by omega), if_pos h5] at hq
      obtain ⟨k, hk, -⟩ := Option.map_eq_some_iff.mp hq
      exact ⟨k, hk⟩
    have ei := e1 18 i (by decide) (by decide)
    have ec := e1 11 t (by decide) (by decide)
    have ep := e1 12 t (by decide) (by decide)
    have en := e1 13 t (by decide) (by decide)
    have ev := e1 21 i (by decide) (by decide)
    have epl := e1 17 0 (by decide) (by decide)
    have er := e1 25 0 (by decide) (by decide)
    refine ax_aload_n dX4_go_0 rfl ?_
    refine ax_iload_n dX4_go_1 rfl ?_
    refine ax_V1 cv_X4_133 dX4_go_2 fh_M rfl (ok_isActive hw ht) (by decide) (Nat.le_refl _) (Nat.le_refl _) (Nat.le_of_ble_eq_true rfl) ?_
    refine ax_bne 11 dX4_go_5 (by decide) (fun c5 => ?_) (fun c5 => absurd c5 (by simp [ha]))
    refine ax_aload_n dX4_go_11 rfl ?_
    refine ax_iload_n dX4_go_12 rfl ?_
    refine ax_V1 cv_X4_203 dX4_go_13 fh_M rfl (ok_actItem hw ht hq) (by decide) (Nat.le_refl _) (Nat.le_refl _) (Nat.le_of_ble_eq_true rfl) ?_
    generalize ru (rOvS ρ t) 30 0 x = ρ1 at hw1 e21 e22 e30 eM eU eF hfr ei ec ep en ev epl er ⊢
    have hi18 := rk_18 hw1 i
    refine ax_istore_n dX4_go_16 rfl (by decide) ?_
    refine ax_aload_n dX4_go_17 rfl ?_
    refine rg_18 dX4_go_18 ?_
    refine ax_iload_n dX4_go_21 rfl ?_
    refine rl_18 dX4_go_22 (by first | omega | exact rk_11 hw1 _ | exact rk_N hw1 _ _) ?_
    refine ax_istore_n dX4_go_23 rfl (by decide) ?_
    refine ax_aload_n dX4_go_24 rfl ?_
    refine ax_iload_n dX4_go_25 rfl ?_
    refine ax_V1 cv_X4_121 dX4_go_26 fh_M rfl (ok_isLost hw1 hi18) (by decide) (Nat.le_refl _) (Nat.le_refl _) (Nat.le_of_ble_eq_true rfl) ?_
    refine ax_beq 35 dX4_go_29 (by decide) (fun c29 => ?_) (fun c29 => ?_)
    · have c29 : ¬ rM ρ (ρ.1 18 i) = 0 := by rw [eM, ei] at c29; simpa using c29
      obtain ⟨p, hp, rfl⟩ := hx c29
      rw [nI_clamp (show p < 2 ^ 31 by omega)] at *
      refine ax_aload_n dX4_go_35 rfl ?_
      refine rg_0 dX4_go_36 ?_
      refine ax_aload_n dX4_go_39 rfl ?_
      refine rg_11 dX4_go_40 ?_
      refine ax_iload_n dX4_go_43 rfl ?_
      refine rl_11 dX4_go_44 (by first | omega | exact rk_11 hw1 _ | exact rk_N hw1 _ _) ?_
      refine rl_0 dX4_go_45 (by first | omega | exact rk_11 hw1 _ | exact rk_N hw1 _ _) ?_
      refine ax_beq 61 dX4_go_46 (by decide) (fun c46 => ?_) (fun c46 => ?_)
      · rw [e21, ec] at c46
        refine ax_bipush (-6) dX4_go_61 (by decide) ?_
        refine ax_iretD dX4_go_63 rfl ⟨(Nat.le_refl _), (Nat.le_refl _)⟩ ?_ ?_
        · simp [c5, c29, c46]
        · simp [c5, c29, c46]
      · rw [e21, ec] at c46
        refine ax_aload_n dX4_go_49 rfl ?_
        refine ax_iload_n dX4_go_50 rfl ?_
        refine ax_aload_n dX4_go_51 rfl ?_
        refine rg_30 dX4_go_52 ?_
        rw [e30]
        refine ax_V2 cv_X4_127 dX4_go_55 fh_M rfl (ok_isUpAt hw1 hi18 hp) (by decide) (Nat.le_refl _) (Nat.le_refl _) (Nat.le_of_ble_eq_true rfl) ?_
        refine ax_bne 64 dX4_go_58 (by decide) (fun c58 => ?_) (fun c58 => ?_)
        · rw [eU, ei] at c58
          refine ax_aload_n dX4_go_64 rfl ?_
          refine ax_iload_n dX4_go_65 rfl ?_
          refine ax_iload_n dX4_go_66 rfl ?_
          refine ax_aload_n dX4_go_67 rfl ?_
          refine rg_30 dX4_go_68 ?_
          rw [e30]
          refine ax_V3v cv_X4_206 dX4_go_71 fh_M rfl (ok_act hw1 ht hi hp (by rw [ep]; exact ⟨h1, h6⟩) (by rw [en]; exact hn) (by rw [ev]; exact hv i) (by rw [epl]; exact hpl) (by rw [ep, er]; exact hrec) hfr) (by decide) (Nat.le_refl _) (Nat.le_refl _) (Nat.le_of_ble_eq_true rfl) ?_
          refine ax_aload_n dX4_go_74 rfl ?_
          refine rg_12 dX4_go_75 ?_
          refine ax_iload_n dX4_go_78 rfl ?_
          refine rl_12 dX4_go_79 (by first | omega | exact rk_11 hw1 _ | exact rk_N hw1 _ _) ?_
          refine ax_iretD dX4_go_80 rfl ⟨(Nat.le_refl _), (Nat.le_refl _)⟩ ?_ ?_
          · simp [c5, c29, c46, c58]
          · simp [c5, c29, c46, c58]
        · rw [eU, ei] at c58
          refine ax_bipush (-6) dX4_go_61 (by decide) ?_
          refine ax_iretD dX4_go_63 rfl ⟨(Nat.le_refl _), (Nat.le_refl _)⟩ ?_ ?_
          · simp [c5, c29, c46, c58]
          · simp [c5, c29, c46, c58]
    · have c29 : rM ρ (ρ.1 18 i) = 0 := by rw [eM, ei] at c29; simpa using c29
      refine ax_bipush (-5) dX4_go_32 (by decide) ?_
      refine ax_iretD dX4_go_34 rfl ⟨(Nat.le_refl _), (Nat.le_refl _)⟩ ?_ ?_
      · simp [c5, c29]
      · simp [c5, c29]
theorem ok_step0 {x : Int32} (hk : (decide (0 ≤ x) && decide (x ≤ nI (ρ.1 10 0) - 1)) = false) : ax_Ok mX4_step yX4_step 9 0 0 [ax_r (80, 0), ax_i x] (fh c ρ) (ax_D (ax_i (-1)) (fh c ρ)) := by
  refine ax_Ok.of (by decide) rfl (fun q => by cases q) (Nat.le_of_ble_eq_true rfl) rfl ?_
  refine ax_aload_n dX4_step_0 rfl ?_
  refine ax_iload_n dX4_step_1 rfl ?_
  refine ax_V1 cv_X4_143 dX4_step_2 fh_M rfl (ok_isTransaction _) (by decide) (Nat.le_refl _) (Nat.le_refl _) (Nat.le_of_ble_eq_true rfl) ?_
  refine ax_beq 16 dX4_step_5 (by decide) (fun c5 => ?_) (fun c5 => absurd c5 (by simp [hk]))
  refine ax_iconst (-1) dX4_step_16 (by decide) ?_
  refine ax_iretD dX4_step_17 rfl ⟨(Nat.le_refl _), (Nat.le_refl _)⟩ ?_ ?_
  · rfl
  · rfl
theorem ok_step {t : Nat} (ht : t < 60) (hg : rGp ρ t) (hk : (decide (0 ≤ nI t) && decide (nI t ≤ nI (ρ.1 10 0) - 1)) = true) : ax_Ok mX4_step yX4_step 9 0 0 [ax_r (80, 0), ax_i (nI t)] (fh c ρ) (ax_D (ax_i (rGo ρ t).1) (fh c (rGo ρ t).2)) := by
  refine ax_Ok.of (by decide) rfl (fun q => by cases q) (Nat.le_of_ble_eq_true rfl) rfl ?_
  refine ax_aload_n dX4_step_0 rfl ?_
  refine ax_iload_n dX4_step_1 rfl ?_
  refine ax_V1 cv_X4_143 dX4_step_2 fh_M rfl (ok_isTransaction _) (by decide) (Nat.le_refl _) (Nat.le_refl _) (Nat.le_of_ble_eq_true rfl) ?_
  refine ax_beq 16 dX4_step_5 (by decide) (fun c5 => absurd c5 (by rw [hk]; simp)) (fun c5 => ?_)
  refine ax_aload_n dX4_step_8 rfl ?_
  refine ax_iload_n dX4_step_9 rfl ?_
  refine ax_V1 cv_X4_210 dX4_step_10 fh_M rfl (ok_go ht hg) (by decide) (Nat.le_refl _) (Nat.le_refl _) (Nat.le_of_ble_eq_true rfl) ?_
  refine ax_goto 17 dX4_step_13 (by decide) ?_
  refine ax_iretD dX4_step_17 rfl ⟨(Nat.le_refl _), (Nat.le_refl _)⟩ ?_ ?_
  · rfl
  · rfl
def rRn : Nat → ax_R → Nat → Nat × ax_R
  | 0, ρ, _ => (0, ρ)
  | m + 1, ρ, t => if rAc ρ t = false then (0, ρ) else if (rGo ρ t).1 < 0 then (0, (rGo ρ t).2) else ((rRn m (rGo ρ t).2 t).1 + 1, (rRn m (rGo ρ t).2 t).2)
theorem lp_run {t n : Nat} (ht : t < 60) (hn : n ≤ 100) (J : ax_R → Prop) (hJ : ∀ ρ, J ρ → rGp ρ t) (hJ2 : ∀ ρ, J ρ → rAc ρ t = true → ¬ (rGo ρ t).1 < 0 → J (rGo ρ t).2) : ∀ (m k : Nat) (ρ : ax_R) (V : Nat × ax_R), k + m = n → J ρ → ((rRn m ρ t).1 + k, (rRn m ρ t).2) = V → ax_Z mX4_run 9 0 0 (ax_D (ax_i (nI V.1)) (fh c V.2)) 38 [some (ax_r (80, 0)), some (ax_i (nI t)), some (ax_i (nI n)), some (ax_i (nI k))] [] (fh c ρ) 0 0 := by
  intro m
  induction m with
  | zero =>
    intro k ρ V hk hj hV
    have hw := (hJ ρ hj).1
    subst hV
    refine ax_iload_n dX4_run_38 rfl ?_
    refine ax_iload_n dX4_run_39 rfl ?_
    refine ax_nge 65 dX4_run_40 (by decide) (by omega) (by omega) (fun c40 => ?_) (fun c40 => absurd c40 (by omega))
    refine ax_iload_n dX4_run_65 rfl ?_
    refine ax_iretD dX4_run_66 rfl ⟨(Nat.le_refl _), (Nat.le_refl _)⟩ ?_ ?_
    · show nI k = nI (0 + k); rw [Nat.zero_add]
    · rfl
  | succ m ih =>
    intro k ρ V hk hj hV
    have hg := hJ ρ hj
    have hw := hg.1
    subst hV
    refine ax_iload_n dX4_run_38 rfl ?_
    refine ax_iload_n dX4_run_39 rfl ?_
    refine ax_nge 65 dX4_run_40 (by decide) (by omega) (by omega) (fun c40 => absurd c40 (by omega)) (fun c40 => ?_)
    refine ax_aload_n dX4_run_43 rfl ?_
    refine ax_iload_n dX4_run_44 rfl ?_
    refine ax_V1 cv_X4_133 dX4_run_45 fh_M rfl (ok_isActive hw ht) (by decide) (Nat.le_refl _) (Nat.le_refl _) (Nat.le_of_ble_eq_true rfl) ?_
    refine ax_beq 65 dX4_run_48 (by decide) (fun c48 => ?_) (fun c48 => ?_)
    · refine ax_iload_n dX4_run_65 rfl ?_
      refine ax_iretD dX4_run_66 rfl ⟨(Nat.le_refl _), (Nat.le_refl _)⟩ ?_ ?_
      · simp [rRn, c40, c48]
      · simp [rRn, c40, c48]
    · refine ax_aload_n dX4_run_51 rfl ?_
      refine ax_iload_n dX4_run_52 rfl ?_
      refine ax_V1 cv_X4_210 dX4_run_53 fh_M rfl (ok_go ht hg) (by decide) (Nat.le_refl _) (Nat.le_refl _) (Nat.le_of_ble_eq_true rfl) ?_
      refine ax_if_lt 65 dX4_run_56 (by decide) (fun c56 => ?_) (fun c56 => ?_)
      · refine ax_iload_n dX4_run_65 rfl ?_
        refine ax_iretD dX4_run_66 rfl ⟨(Nat.le_refl _), (Nat.le_refl _)⟩ ?_ ?_
        · simp [rRn, c40, c48, c56]
        · simp [rRn, c40, c48, c56]
      · refine ax_iincn (n := 1) dX4_run_59 rfl (by decide) rfl ?_
        refine ax_goto 38 dX4_run_62 (by decide) ?_
        exact ih (k + 1) (rGo ρ t).2 _ (by omega) (hJ2 ρ hj c48 c56) (by simp [rRn, c48, c56]; omega)
theorem ok_run0 {x y : Int32} (hk : (decide (0 ≤ x) && decide (x ≤ nI (ρ.1 10 0) - 1)) = false) : ax_Ok mX4_run yX4_run 9 0 0 [ax_r (80, 0), ax_i x, ax_i y] (fh c ρ) (ax_D (ax_i (-1)) (fh c ρ)) := by
  refine ax_Ok.of (by decide) rfl (fun q => by cases q) (Nat.le_of_ble_eq_true rfl) rfl ?_
  refine ax_aload_n dX4_run_0 rfl ?_
  refine ax_iload_n dX4_run_1 rfl ?_
  refine ax_V1 cv_X4_143 dX4_run_2 fh_M rfl (ok_isTransaction _) (by decide) (Nat.le_refl _) (Nat.le_refl _) (Nat.le_of_ble_eq_true rfl) ?_
  refine ax_bne 10 dX4_run_5 (by decide) (fun c5 => absurd c5 (by simp [hk])) (fun c5 => ?_)
  refine ax_iconst (-1) dX4_run_8 (by decide) ?_
  refine ax_iretD dX4_run_9 rfl ⟨(Nat.le_refl _), (Nat.le_refl _)⟩ ?_ ?_
  · rfl
  · rfl
theorem ok_run1 {t : Nat} {y : Int32} (hk : (decide (0 ≤ nI t) && decide (nI t ≤ nI (ρ.1 10 0) - 1)) = true) (hn : (decide (1 ≤ y) && decide (y ≤ 100)) = false) : ax_Ok mX4_run yX4_run 9 0 0 [ax_r (80, 0), ax_i (nI t), ax_i y] (fh c ρ) (ax_D (ax_i (-2)) (fh c ρ)) := by
  refine ax_Ok.of (by decide) rfl (fun q => by cases q) (Nat.le_of_ble_eq_true rfl) rfl ?_
  have hy : (decide ((1 : Int64) ≤ y.toInt64) && decide (y.toInt64 ≤ (100 : Int64))) = (decide (1 ≤ y) && decide (y ≤ 100)) := by rw [show (1 : Int64) = (1 : Int32).toInt64 by decide, show (100 : Int64) = (100 : Int32).toInt64 by decide]; simp only [i64_le]
  refine ax_aload_n dX4_run_0 rfl ?_
  refine ax_iload_n dX4_run_1 rfl ?_
  refine ax_V1 cv_X4_143 dX4_run_2 fh_M rfl (ok_isTransaction _) (by decide) (Nat.le_refl _) (Nat.le_refl _) (Nat.le_of_ble_eq_true rfl) ?_
  refine ax_bne 10 dX4_run_5 (by decide) (fun c5 => ?_) (fun c5 => absurd c5 (by rw [hk]; simp))
  refine ax_iload_n dX4_run_10 rfl ?_
  refine ax_i2l _ dX4_run_11 rfl ?_
  refine ax_lconst 1 dX4_run_12 (by decide) ?_
  refine ax_ldc2 dX4_run_13 co_X4_213 ?_
  refine ax_S3 cs_X4_88 dX4_run_16 (ok_in _ _ _) (by decide) (Nat.le_refl _) (Nat.le_refl _) (Nat.le_of_ble_eq_true rfl) ?_
  refine ax_bne 25 dX4_run_19 (by decide) (fun c19 => absurd c19 (by rw [hy, hn]; simp)) (fun c19 => ?_)
  refine ax_bipush (-2) dX4_run_22 (by decide) ?_
  refine ax_iretD dX4_run_24 rfl ⟨(Nat.le_refl _), (Nat.le_refl _)⟩ ?_ ?_
  · rfl
  · rfl
theorem ok_run2 (hw : rf_ok ρ) {t n : Nat} (ht : t < 60) (h1 : 1 ≤ n) (hn : n ≤ 100) (ha : rAc ρ t = false) (hk : (decide (0 ≤ nI t) && decide (nI t ≤ nI (ρ.1 10 0) - 1)) = true) : ax_Ok mX4_run yX4_run 9 0 0 [ax_r (80, 0), ax_i (nI t), ax_i (nI n)] (fh c ρ) (ax_D (ax_i (-3)) (fh c ρ)) := by
  refine ax_Ok.of (by decide) rfl (fun q => by cases q) (Nat.le_of_ble_eq_true rfl) rfl ?_
  have hy : (decide ((1 : Int64) ≤ (nI n).toInt64) && decide ((nI n).toInt64 ≤ (100 : Int64))) = (decide (1 ≤ nI n) && decide (nI n ≤ 100)) := by rw [show (1 : Int64) = (1 : Int32).toInt64 by decide, show (100 : Int64) = (100 : Int32).toInt64 by decide]; simp only [i64_le]
  have hn1 : ¬ (decide (1 ≤ nI n) && decide (nI n ≤ 100)) = false := by have a1 : (1 : Int32) ≤ nI n := nI_le (a := 1) h1 (by omega); have a2 : nI n ≤ (100 : Int32) := nI_le (b := 100) hn (by decide); simp [a1, a2]
  refine ax_aload_n dX4_run_0 rfl ?_
  refine ax_iload_n dX4_run_1 rfl ?_
  refine ax_V1 cv_X4_143 dX4_run_2 fh_M rfl (ok_isTransaction _) (by decide) (Nat.le_refl _) (Nat.le_refl _) (Nat.le_of_ble_eq_true rfl) ?_
  refine ax_bne 10 dX4_run_5 (by decide) (fun c5 => ?_) (fun c5 => absurd c5 (by rw [hk]; simp))
  refine ax_iload_n dX4_run_10 rfl ?_
  refine ax_i2l _ dX4_run_11 rfl ?_
  refine ax_lconst 1 dX4_run_12 (by decide) ?_
  refine ax_ldc2 dX4_run_13 co_X4_213 ?_
  refine ax_S3 cs_X4_88 dX4_run_16 (ok_in _ _ _) (by decide) (Nat.le_refl _) (Nat.le_refl _) (Nat.le_of_ble_eq_true rfl) ?_
  refine ax_bne 25 dX4_run_19 (by decide) (fun c19 => ?_) (fun c19 => absurd c19 (by rw [hy]; exact hn1))
  refine ax_aload_n dX4_run_25 rfl ?_
  refine ax_iload_n dX4_run_26 rfl ?_
  refine ax_V1 cv_X4_133 dX4_run_27 fh_M rfl (ok_isActive hw ht) (by decide) (Nat.le_refl _) (Nat.le_refl _) (Nat.le_of_ble_eq_true rfl) ?_
  refine ax_bne 36 dX4_run_30 (by decide) (fun c30 => absurd c30 (by simp [ha])) (fun c30 => ?_)
  refine ax_bipush (-3) dX4_run_33 (by decide) ?_
  refine ax_iretD dX4_run_35 rfl ⟨(Nat.le_refl _), (Nat.le_refl _)⟩ ?_ ?_
  · rfl
  · rfl
theorem ok_run {t n : Nat} (ht : t < 60) (h1 : 1 ≤ n) (hn : n ≤ 100) (J : ax_R → Prop) (hJ : ∀ ρ, J ρ → rGp ρ t) (hJ2 : ∀ ρ, J ρ → rAc ρ t = true → ¬ (rGo ρ t).1 < 0 → J (rGo ρ t).2) (hj : J ρ) (ha : rAc ρ t = true) (hk : (decide (0 ≤ nI t) && decide (nI t ≤ nI (ρ.1 10 0) - 1)) = true) : ax_Ok mX4_run yX4_run 9 0 0 [ax_r (80, 0), ax_i (nI t), ax_i (nI n)] (fh c ρ) (ax_D (ax_i (nI (rRn n ρ t).1)) (fh c (rRn n ρ t).2)) := by
  refine ax_Ok.of (by decide) rfl (fun q => by cases q) (Nat.le_of_ble_eq_true rfl) rfl ?_
  have hw := (hJ ρ hj).1
  have hy : (decide ((1 : Int64) ≤ (nI n).toInt64) && decide ((nI n).toInt64 ≤ (100 : Int64))) = (decide (1 ≤ nI n) && decide (nI n ≤ 100)) := by rw [show (1 : Int64) = (1 : Int32).toInt64 by decide, show (100 : Int64) = (100 : Int32).toInt64 by decide]; simp only [i64_le]
  have hn1 : ¬ (decide (1 ≤ nI n) && decide (nI n ≤ 100)) = false := by have a1 : (1 : Int32) ≤ nI n := nI_le (a := 1) h1 (by omega); have a2 : nI n ≤ (100 : Int32) := nI_le (b := 100) hn (by decide); simp [a1, a2]
  refine ax_aload_n dX4_run_0 rfl ?_
  refine ax_iload_n dX4_run_1 rfl ?_
  refine ax_V1 cv_X4_143 dX4_run_2 fh_M rfl (ok_isTransaction _) (by decide) (Nat.le_refl _) (Nat.le_refl _) (Nat.le_of_ble_eq_true rfl) ?_
  refine ax_bne 10 dX4_run_5 (by decide) (fun c5 => ?_) (fun c5 => absurd c5 (by rw [hk]; simp))
  refine ax_iload_n dX4_run_10 rfl ?_
  refine ax_i2l _ dX4_run_11 rfl ?_
  refine ax_lconst 1 dX4_run_12 (by decide) ?_
  refine ax_ldc2 dX4_run_13 co_X4_213 ?_
  refine ax_S3 cs_X4_88 dX4_run_16 (ok_in _ _ _) (by decide) (Nat.le_refl _) (Nat.le_refl _) (Nat.le_of_ble_eq_true rfl) ?_
  refine ax_bne 25 dX4_run_19 (by decide) (fun c19 => ?_) (fun c19 => absurd c19 (by rw [hy]; exact hn1))
  refine ax_aload_n dX4_run_25 rfl ?_
  refine ax_iload_n dX4_run_26 rfl ?_
  refine ax_V1 cv_X4_133 dX4_run_27 fh_M rfl (ok_isActive hw ht) (by decide) (Nat.le_refl _) (Nat.le_refl _) (Nat.le_of_ble_eq_true rfl) ?_
  refine ax_bne 36 dX4_run_30 (by decide) (fun c30 => ?_) (fun c30 => absurd c30 (by simp [ha]))
  refine ax_iconst (nI 0) dX4_run_36 (by decide) ?_
  refine ax_istore_n dX4_run_37 rfl (by decide) ?_
  exact lp_run ht hn J hJ hJ2 n 0 ρ _ (Nat.zero_add _) hj rfl
end REFM
