section CLS10
variable {κ κ2 ρ : ax_R}
def hR0 (h : ax_H) (n : Nat) : ax_H := (ax_up (ax_up (ax_up (ax_up (ax_up (ax_up h (3, n) (ax_o 2 [ax_i (nI 0), ax_z, ax_i (nI 0), ax_i (nI 0), ax_z, ax_z, ax_z])) (4, n) (ax_ai 6 (fun _ => 0))) (5, n) (ax_ai 48 (fun _ => 0))) (6, n) (ax_ai 48 (fun _ => 0))) (7, n) (ax_ai 8 (lk9 8))) (3, n) (ax_o 2 [ax_i (nI n), ax_r (4, n), ax_i (nI 0), ax_i (nI 0), ax_r (5, n), ax_r (6, n), ax_r (7, n)]))
def hRa (h : ax_H) (n c : Nat) (f : Nat → Int32) (P : Nat → Bool) (m : Nat) : ax_H := ax_up (ax_up h (4, n) (ax_ai 6 (upd f c (nI m)))) (3, n) (ax_o 2 [ax_i (nI n), ax_r (4, n), ax_i (nI (c + 1)), ax_i (nI (mk (fun x => P x || decide (x = m)))), ax_r (5, n), ax_r (6, n), ax_r (7, n)])
theorem nr_add (hw : kf κ) {h : ax_H} (hn : nrg κ κ2) (hR : κ.1 4 0 < 6) (nrc : ∀ s, s < κ2.1 5 (κ.1 4 0) → s < 6) (hX : eqx h (fh (ch κ2) ρ) [(10, 0), (14, 0)]) (h10 : h (10, 0) = fh (ch κ) ρ (10, 0)) (h14 : h (14, 0) = fh (ch κ) ρ (14, 0)) : ax_Ok mJx4a65c_add_9ea2d yJx4a65c_add_9ea2d 7 1 73 [ax_r (10, 0), ax_r (3, κ.1 4 0)] h (ax_D (ax_i (ax_b true)) (fh (ch κ2) ρ)) := by
  obtain ⟨n3, n4, n5, n6, n7, n10, n14⟩ := nr_new (ρ := ρ) hw hn hR nrc
  have := ok_addA (h := h) (U := (10, 0)) (w := (3, κ.1 4 0)) (A := (14, 0)) (n := κ.1 4 0) (g := fun j => (3, j)) (by rw [h10]; rfl) (by
      rw [h14]
      show (if 0 = 0 ∧ 0 < κ.1 4 0 then _ else _) = _
      by_cases q : 0 < κ.1 4 0
      · rw [if_pos ⟨rfl, q⟩, if_pos q]
      · rw [if_neg (fun z => q z.2), if_neg q]) (by omega) (by rw [hX (3, κ.1 4 0) (by simp)]; exact n3) rfl ca_R (by simp) (by simp) (by simp) (by simp)
  refine cast (congrArg (fun h2 => ax_Ok mJx4a65c_add_9ea2d yJx4a65c_add_9ea2d 7 1 73 [ax_r (10, 0), ax_r (3, κ.1 4 0)] h (ax_D (ax_i (ax_b true)) h2)) (eqx_e (eqx_s ?_ (eqx_s ?_ (fun u hu => hX u (fun z => hu ?_)))))) this
  · exact n10
  · exact n14
  · simp only [List.mem_cons, List.not_mem_nil, or_false] at z ⊢
    rcases z with z | z <;> simp [z]
theorem ok_cregion0 {x y z : Int32} (hu : rgU x y z = true) : ax_Ok mX3_region yX3_region 9 7 200 [ax_r (1, 0), ax_i x, ax_i y, ax_i z] (fh (ch κ) ρ) (ax_D (ax_i (-1)) (fh (ch κ) ρ)) := by
  refine ax_Ok.of (by decide) rfl (fun q => by cases q) (Nat.le_of_ble_eq_true rfl) rfl ?_
  refine ax_iload_n dX3_region_0 rfl ?_
  refine ax_S1 cs_X3_36 dX3_region_1 (ok_cIsM _) (by decide) (by decide) (by decide) (Nat.le_of_ble_eq_true rfl) ?_
  refine ax_beq 33 dX3_region_4 (by decide) (fun c4 => ?_) (fun c4 => ?_)
  · refine ax_iconst (-1) dX3_region_33 (by decide) ?_
    refine ax_iretD dX3_region_34 rfl ⟨(by decide), (by decide)⟩ ?_ ?_
    · rfl
    · rfl
  · refine ax_iload_n dX3_region_7 rfl ?_
    refine ax_S1 cs_X3_40 dX3_region_8 (ok_cIsMN _) (by decide) (by decide) (by decide) (Nat.le_of_ble_eq_true rfl) ?_
    refine ax_beq 33 dX3_region_11 (by decide) (fun c11 => ?_) (fun c11 => ?_)
    · refine ax_iconst (-1) dX3_region_33 (by decide) ?_
      refine ax_iretD dX3_region_34 rfl ⟨(by decide), (by decide)⟩ ?_ ?_
      · rfl
      · rfl
    · refine ax_iload_n dX3_region_14 rfl ?_
      refine ax_S1 cs_X3_40 dX3_region_15 (ok_cIsMN _) (by decide) (by decide) (by decide) (Nat.le_of_ble_eq_true rfl) ?_
      refine ax_beq 33 dX3_region_18 (by decide) (fun c18 => ?_) (fun c18 => ?_)
      · refine ax_iconst (-1) dX3_region_33 (by decide) ?_
        refine ax_iretD dX3_region_34 rfl ⟨(by decide), (by decide)⟩ ?_ ?_
        · rfl
        · rfl
      · refine ax_iload_n dX3_region_21 rfl ?_
        refine ax_bipush (-9) dX3_region_22 (by decide) ?_
        refine ax_icmp_ne 35 dX3_region_24 (by decide) (fun c24 => ?_) (fun c24 => ?_)
        · exfalso
          simp only [Bool.or_eq_true, decide_eq_true_eq] at c11 c18
          revert hu
          simp only [rgU]
          rcases c11 with q1 | q1 <;> rcases c18 with q2 | q2 <;> simp_all
        · refine ax_iload_n dX3_region_27 rfl ?_
          refine ax_bipush (-9) dX3_region_28 (by decide) ?_
          refine ax_icmp_eq 35 dX3_region_30 (by decide) (fun c30 => ?_) (fun c30 => ?_)
          · exfalso
            simp only [Bool.or_eq_true, decide_eq_true_eq] at c11 c18
            revert hu
            simp only [rgU]
            rcases c11 with q1 | q1 <;> rcases c18 with q2 | q2 <;> simp_all
          · refine ax_iconst (-1) dX3_region_33 (by decide) ?_
            refine ax_iretD dX3_region_34 rfl ⟨(by decide), (by decide)⟩ ?_ ?_
            · rfl
            · rfl
def cNr1 (κ : ax_R) (a : Nat) : ax_R := nu (nu (nu κ 4 0 (κ.1 4 0 + 1)) 6 (6 * κ.1 4 0) a) 5 (κ.1 4 0) 1
theorem nr1_g {a : Nat} : nrg κ (cNr1 κ a) := by
  refine ⟨by simp [cNr1, nu], fun k j h4 h5 h6 => by simp [cNr1, nu, h4, h5, h6], fun x hx => by simp [cNr1, nu, hx], fun x s hx hs => ?_, rfl⟩
  have q0 : ¬ 6 * x + s = 6 * κ.1 4 0 := by omega
  simp [cNr1, nu, q0]
theorem nr1_5 {a : Nat} : (cNr1 κ a).1 5 (κ.1 4 0) = 1 := by simp [cNr1, nu]
theorem nr1_60 {a : Nat} : (cNr1 κ a).1 6 (6 * κ.1 4 0 + 0) = a := by simp [cNr1, nu]
theorem nr1_6 {a : Nat} (s : Nat) (hs : 1 ≤ s) : (cNr1 κ a).1 6 (6 * κ.1 4 0 + s) = κ.1 6 (6 * κ.1 4 0 + s) := by
  have q0 : ¬ s = 0 := by omega
  simp [cNr1, nu, q0]
theorem nr1_pm {a : Nat} {x : Nat} : pm (cNr1 κ a) (κ.1 4 0) (fun _ => true) x = (fun x => (fun _ => false) x || decide (x = a)) x := by
  have e0 : (cNr1 κ a).1 6 (6 * κ.1 4 0) = a := nr1_60 (κ := κ) (a := a)
  unfold pm
  rw [nr1_5]
  simp only [List.range'_succ, List.range'_zero, List.any_cons, List.any_nil, Bool.and_true, Bool.or_false, Bool.false_or, Nat.zero_add, Nat.add_zero, Nat.reduceAdd, e0]
  simp only [Bool.or_assoc, eq_comm (a := a) (b := x)]
theorem nr1_od (hw : kf κ) {a : Nat} : od (cNr1 κ a) (κ.1 4 0) = (upd (fun _ => 0) 0 (nI a)) := by
  have c0 := (hw.c0 (κ.1 4 0) (Nat.le_refl _)).1
  funext s
  unfold od upd
  match s with
  | 0 => have := nr1_60 (κ := κ) (a := a); simp only [Nat.add_zero] at this; simp [this]
  | s + 1 =>
    by_cases q : s + 1 < 6
    · rw [if_pos q, nr1_6 _ (by omega), hw.m0 _ _ (by omega) q]
      simp
      rfl
    · rw [if_neg q]
      simp
theorem nr1_add (hw : kf κ) {a : Nat} (hR : κ.1 4 0 < 6) : ax_Ok mJx4a65c_add_9ea2d yJx4a65c_add_9ea2d 7 1 73 [ax_r (10, 0), ax_r (3, κ.1 4 0)] (hRa (hR0 (fh (ch κ) ρ) (κ.1 4 0)) (κ.1 4 0) 0 (fun _ => 0) (fun _ => false) a) (ax_D (ax_i (ax_b true)) (fh (ch (cNr1 κ a)) ρ)) := by
  have nrc : ∀ s, s < (cNr1 κ a).1 5 (κ.1 4 0) → s < 6 := by rw [nr1_5]; omega
  have nx := nr_new (ρ := ρ) hw (nr1_g (κ := κ) (a := a)) hR nrc
  refine nr_add hw nr1_g hR nrc ?_ ?_ ?_
  · refine (eqx_s (nx.1.trans ?_) (eqx_s (nx.2.1.trans ?_) (eqx_d (by simp) (eqx_s nx.2.2.2.2.1 (eqx_s nx.2.2.2.1 (eqx_s nx.2.2.1 (eqx_d (by simp) (eqx_d (by simp) (fun u hu => fh_eq (ch_nr hw (nr1_g (κ := κ)) u (fun z => hu (by simp only [List.mem_cons, List.not_mem_nil, or_false] at z ⊢; rcases z with z | z | z | z | z | z | z <;> simp [z]))))))))))))
    · refine congrArg (fun l => some (ax_o 2 l)) ?_
      unfold fR
      rw [nr1_5, mk_co (fun x _ => nr1_pm (x := x))]
    · rw [nr1_od hw]
  · simp [hRa, hR0, ax_up]
  · simp [hRa, hR0, ax_up]
theorem nr1_kf (hw : kf κ) {a : Nat} (ha : a < 6)  (hR : κ.1 4 0 < 6) : kf (cNr1 κ a) := by
  have c0 := (hw.c0 (κ.1 4 0) (Nat.le_refl _)).1
  refine kf_nr hw nr1_g hR (by rw [nr1_5]; omega) (fun j => ?_) (fun j => ?_) (fun x y hx hy he => ?_) (fun s h1 h2 => ?_) (fun j => ?_)
  · have := hw.m6 j
    simp only [cNr1, nu]
    repeat' split
    all_goals omega
  · have := hw.lt 5 j
    simp only [cNr1, nu]
    repeat' split
    all_goals omega
  · rw [nr1_5] at hx hy
    have e0 := nr1_60 (κ := κ) (a := a)
    match x, y, hx, hy with
    | 0, 0, _, _ => rfl
  · rw [nr1_5] at h1
    rw [nr1_6 _ h1]
    exact hw.m0 _ _ (by omega) h2
  · have := hw.lt 4 j
    simp only [cNr1, nu]
    repeat' split
    all_goals omega
theorem ok_cregion1 (hw : kf κ) {a : Nat} (ha : a < 6) : ax_Ok mX3_region yX3_region 9 7 200 [ax_r (1, 0), ax_i (nI a), ax_i (-9), ax_i (-9)] (fh (ch κ) ρ) (ax_D (ax_i (rRg κ a).1) (fh (ch (rRg κ a).2) ρ)) := by
  refine ax_Ok.of (by decide) rfl (fun q => by cases q) (Nat.le_of_ble_eq_true rfl) rfl ?_
  have h6 := hw.nR
  refine ax_iload_n dX3_region_0 rfl ?_
  refine ax_S1 cs_X3_36 dX3_region_1 (ok_cIsM _) (by decide) (by decide) (by decide) (Nat.le_of_ble_eq_true rfl) ?_
  refine ax_beq 33 dX3_region_4 (by decide) (fun c4 => absurd c4 (by rw [isM_n ha]; simp)) (fun c4 => ?_)
  refine ax_iload_n dX3_region_7 rfl ?_
  refine ax_S1 cs_X3_40 dX3_region_8 (ok_cIsMN _) (by decide) (by decide) (by decide) (Nat.le_of_ble_eq_true rfl) ?_
  refine ax_beq 33 dX3_region_11 (by decide) (fun c11 => absurd c11 (by simp)) (fun c11 => ?_)
  refine ax_iload_n dX3_region_14 rfl ?_
  refine ax_S1 cs_X3_40 dX3_region_15 (ok_cIsMN _) (by decide) (by decide) (by decide) (Nat.le_of_ble_eq_true rfl) ?_
  refine ax_beq 33 dX3_region_18 (by decide) (fun c18 => absurd c18 (by simp)) (fun c18 => ?_)
  refine ax_iload_n dX3_region_21 rfl ?_
  refine ax_bipush (-9) dX3_region_22 (by decide) ?_
  refine ax_icmp_ne 35 dX3_region_24 (by decide) (fun c24 => absurd c24 (fun z => z rfl)) (fun c24 => ?_)
  refine ax_iload_n dX3_region_27 rfl ?_
  refine ax_bipush (-9) dX3_region_28 (by decide) ?_
  refine ax_icmp_eq 35 dX3_region_30 (by decide) (fun c30 => ?_) (fun c30 => absurd c30 (fun z => z rfl))
  refine ax_iload_n dX3_region_35 rfl ?_
  refine ax_iload_n dX3_region_36 rfl ?_
  refine ax_icmp_eq 56 dX3_region_37 (by decide) (fun c37 => absurd c37 (nI_ne9 (show a < 2 ^ 31 by omega))) (fun c37 => ?_)
  refine ax_iload_n dX3_region_40 rfl ?_
  refine ax_iload_n dX3_region_41 rfl ?_
  refine ax_icmp_eq 56 dX3_region_42 (by decide) (fun c42 => absurd c42 (nI_ne9 (show a < 2 ^ 31 by omega))) (fun c42 => ?_)
  refine ax_iload_n dX3_region_45 rfl ?_
  refine ax_iload_n dX3_region_46 rfl ?_
  refine ax_icmp_ne 59 dX3_region_47 (by decide) (fun c47 => absurd c47 (fun z => z rfl)) (fun c47 => ?_)
  refine ax_iload_n dX3_region_50 rfl ?_
  refine ax_bipush (-9) dX3_region_51 (by decide) ?_
  refine ax_icmp_eq 59 dX3_region_53 (by decide) (fun c53 => ?_) (fun c53 => absurd c53 (fun z => z rfl))
  refine ax_aload_n dX3_region_59 rfl ?_
  refine ax_iload_n dX3_region_60 rfl ?_
  refine ax_V1 cv_X3_43 dX3_region_61 ch_O rfl (ok_isMember ha) (by decide) (by decide) (by decide) (Nat.le_of_ble_eq_true rfl) ?_
  refine ax_beq 95 dX3_region_64 (by decide) (fun c64 => ?_) (fun c64 => ?_)
  · refine ax_bipush (-3) dX3_region_95 (by decide) ?_
    refine ax_iretD dX3_region_97 rfl ⟨(by decide), (by decide)⟩ ?_ ?_
    · first | (simp [rRg, c4, c11, c18, c24, c30, c37, c42, c47, c53, c64]; done) | (simp [rRg, show ¬ κ.1 4 0 = 6 by omega, c4, c11, c18, c24, c30, c37, c42, c47, c53, c64]; done) | (simp [rRg, show κ.1 4 0 = 6 by omega, c4, c11, c18, c24, c30, c37, c42, c47, c53, c64]; done) | (simp [rRg, show ¬ κ.1 4 0 = 6 by omega, c4, c11, c18, c24, c30, c37, c42, c47, c53, c64]; rfl)
    · first | (simp [rRg, c4, c11, c18, c24, c30, c37, c42, c47, c53, c64]; done) | (simp [rRg, show ¬ κ.1 4 0 = 6 by omega, c4, c11, c18, c24, c30, c37, c42, c47, c53, c64]; done) | (simp [rRg, show κ.1 4 0 = 6 by omega, c4, c11, c18, c24, c30, c37, c42, c47, c53, c64]; done) | (simp [rRg, show ¬ κ.1 4 0 = 6 by omega, c4, c11, c18, c24, c30, c37, c42, c47, c53, c64]; rfl)
  · refine ax_iload_n dX3_region_67 rfl ?_
    refine ax_bipush (-9) dX3_region_68 (by decide) ?_
    refine ax_icmp_eq 81 dX3_region_70 (by decide) (fun c70 => ?_) (fun c70 => absurd c70 (fun z => z rfl))
    refine ax_iload_n dX3_region_81 rfl ?_
    refine ax_bipush (-9) dX3_region_82 (by decide) ?_
    refine ax_icmp_eq 98 dX3_region_84 (by decide) (fun c84 => ?_) (fun c84 => absurd c84 (fun z => z rfl))
    refine ax_aload_n dX3_region_98 rfl ?_
    refine ax_get (ci := 4) (k := 0) (T := TX3) dX3_region_99 ch_O rfl (by decide) fl_X3_10 rfl ?_
    refine ax_V0 cv_X3_46 dX3_region_102 ch_lR rfl (ok_szR) (by decide) (by decide) (by decide) (Nat.le_of_ble_eq_true rfl) ?_
    refine ax_bipush (nI 6) dX3_region_105 (by decide) ?_
    refine ax_nlt 113 dX3_region_107 (by decide) (by omega) (by omega) (fun c107 => ?_) (fun c107 => ?_)
    · refine ax_new (3, κ.1 4 0) dX3_region_113 (ci := 2) (fs := [ax_i (nI 0), ax_z, ax_i (nI 0), ax_i (nI 0), ax_z, ax_z, ax_z]) rfl cl_X3_50 is_X1 in_X1 df_X1 dk_X1 (if_neg (Nat.lt_irrefl _)) (by simp) (by decide) (by decide) ?_
      refine ax_dup dX3_region_116 rfl ?_
      refine ax_aload_n dX3_region_117 rfl ?_
      refine ax_get (ci := 4) (k := 0) (T := TX3) dX3_region_118 (hn_ups (by simp) ch_O) rfl (by decide) fl_X3_10 rfl ?_
      refine ax_V0 cv_X3_46 dX3_region_121 (hn_ups (by simp) ch_lR) rfl (ok_size (hn_ups (by simp) ch_lR)) (by decide) (by decide) (by decide) (Nat.le_of_ble_eq_true rfl) ?_
      refine ax_I1 ci_X3_52 dX3_region_124 (ok_rinit (a4 := (4, κ.1 4 0)) (a5 := (5, κ.1 4 0)) (a6 := (6, κ.1 4 0)) (a7 := (7, κ.1 4 0)) ax_up_s (hn_ups (by simp) (if_neg (Nat.lt_irrefl _))) (hn_ups (by simp) (if_neg (Nat.lt_irrefl _))) (hn_ups (by simp) (if_neg (Nat.lt_irrefl _))) (hn_ups (by simp) (if_neg (Nat.lt_irrefl _))) (by simp) (by simp) (by simp) (by simp) (by simp) (by simp) (by simp) (by simp) (by simp) (by simp) (by simp) (by simp) (by simp) (by simp)) (by decide) (by decide) (by decide) (Nat.le_of_ble_eq_true rfl) ?_
      refine ax_hq (h2 := (hR0 (fh (ch κ) ρ) (κ.1 4 0))) rfl ?_
      refine ax_astore dX3_region_127 rfl (by decide) ?_
      refine ax_aload dX3_region_129 rfl ?_
      refine ax_iload_n dX3_region_131 rfl ?_
      refine ax_V1v cv_X3_55 dX3_region_132 ax_up_s rfl (ok_addCopy (a := (4, κ.1 4 0)) (c := 0) (f := (fun _ => 0)) (P := (fun _ => false)) ax_up_s (by simp [hR0, ax_up]) (by decide) ha) (by decide) (by decide) (by decide) (Nat.le_of_ble_eq_true rfl) ?_
      refine ax_hq (h2 := (hRa (hR0 (fh (ch κ) ρ) (κ.1 4 0)) (κ.1 4 0) 0 (fun _ => 0) (fun _ => false) a)) rfl ?_
      refine ax_iload_n dX3_region_135 rfl ?_
      refine ax_bipush (-9) dX3_region_136 (by decide) ?_
      refine ax_icmp_eq 147 dX3_region_138 (by decide) (fun c138 => ?_) (fun c138 => absurd c138 (fun z => z rfl))
      refine ax_iload_n dX3_region_147 rfl ?_
      refine ax_bipush (-9) dX3_region_148 (by decide) ?_
      refine ax_icmp_eq 159 dX3_region_150 (by decide) (fun c150 => ?_) (fun c150 => absurd c150 (fun z => z rfl))
      refine ax_aload_n dX3_region_159 rfl ?_
      refine ax_get (ci := 4) (k := 0) (T := TX3) dX3_region_160 (by simp [hRa, hR0, ax_up]; exact ch_O) rfl (by decide) fl_X3_10 rfl ?_
      refine ax_aload dX3_region_163 rfl ?_
      refine ax_V1 cv_X3_58 dX3_region_165 (by simp [hRa, hR0, ax_up]; exact ch_lR) rfl (nr1_add hw c107) (by decide) (by decide) (by decide) (Nat.le_of_ble_eq_true rfl) ?_
      have hl : κ.1 4 0 < (cNr1 κ a).1 4 0 := by rw [(nr1_g (κ := κ)).1]; omega
      refine ax_pop dX3_region_168 rfl ?_
      refine ax_aload dX3_region_169 rfl ?_
      refine ax_get (ci := 2) (k := 0) (T := TX1) dX3_region_171 (ch_R hl) rfl (by decide) fl_X3_62 rfl ?_
      refine ax_iretD dX3_region_174 rfl ⟨(by decide), (by decide)⟩ ?_ ?_
      · first | (simp [rRg, c4, c11, c18, c24, c30, c37, c42, c47, c53, c64, c70, c84, c107, Nat.not_le.mpr c107, c138, c150]; done) | (simp [rRg, show ¬ κ.1 4 0 = 6 by omega, c4, c11, c18, c24, c30, c37, c42, c47, c53, c64, c70, c84, c107, Nat.not_le.mpr c107, c138, c150]; done) | (simp [rRg, show κ.1 4 0 = 6 by omega, c4, c11, c18, c24, c30, c37, c42, c47, c53, c64, c70, c84, c107, Nat.not_le.mpr c107, c138, c150]; done) | (simp [rRg, show ¬ κ.1 4 0 = 6 by omega, c4, c11, c18, c24, c30, c37, c42, c47, c53, c64, c70, c84, c107, Nat.not_le.mpr c107, c138, c150]; rfl)
      · first | (simp [rRg, c4, c11, c18, c24, c30, c37, c42, c47, c53, c64, c70, c84, c107, Nat.not_le.mpr c107, c138, c150]; done) | (simp [rRg, show ¬ κ.1 4 0 = 6 by omega, c4, c11, c18, c24, c30, c37, c42, c47, c53, c64, c70, c84, c107, Nat.not_le.mpr c107, c138, c150]; done) | (simp [rRg, show κ.1 4 0 = 6 by omega, c4, c11, c18, c24, c30, c37, c42, c47, c53, c64, c70, c84, c107, Nat.not_le.mpr c107, c138, c150]; done) | (simp [rRg, show ¬ κ.1 4 0 = 6 by omega, c4, c11, c18, c24, c30, c37, c42, c47, c53, c64, c70, c84, c107, Nat.not_le.mpr c107, c138, c150]; rfl)
    · refine ax_bipush (-4) dX3_region_110 (by decide) ?_
      refine ax_iretD dX3_region_112 rfl ⟨(by decide), (by decide)⟩ ?_ ?_
      · first | (simp [rRg, c4, c11, c18, c24, c30, c37, c42, c47, c53, c64, c70, c84, c107, Nat.not_lt.mpr c107]; done) | (simp [rRg, show ¬ κ.1 4 0 = 6 by omega, c4, c11, c18, c24, c30, c37, c42, c47, c53, c64, c70, c84, c107, Nat.not_lt.mpr c107]; done) | (simp [rRg, show κ.1 4 0 = 6 by omega, c4, c11, c18, c24, c30, c37, c42, c47, c53, c64, c70, c84, c107, Nat.not_lt.mpr c107]; done) | (simp [rRg, show ¬ κ.1 4 0 = 6 by omega, c4, c11, c18, c24, c30, c37, c42, c47, c53, c64, c70, c84, c107, Nat.not_lt.mpr c107]; rfl)
      · first | (simp [rRg, c4, c11, c18, c24, c30, c37, c42, c47, c53, c64, c70, c84, c107, Nat.not_lt.mpr c107]; done) | (simp [rRg, show ¬ κ.1 4 0 = 6 by omega, c4, c11, c18, c24, c30, c37, c42, c47, c53, c64, c70, c84, c107, Nat.not_lt.mpr c107]; done) | (simp [rRg, show κ.1 4 0 = 6 by omega, c4, c11, c18, c24, c30, c37, c42, c47, c53, c64, c70, c84, c107, Nat.not_lt.mpr c107]; done) | (simp [rRg, show ¬ κ.1 4 0 = 6 by omega, c4, c11, c18, c24, c30, c37, c42, c47, c53, c64, c70, c84, c107, Nat.not_lt.mpr c107]; rfl)
def cNr2 (κ : ax_R) (a b : Nat) : ax_R := nu (nu (nu (nu (nu κ 4 0 (κ.1 4 0 + 1)) 6 (6 * κ.1 4 0) a) 5 (κ.1 4 0) 1) 6 (6 * κ.1 4 0 + 1) b) 5 (κ.1 4 0) 2
theorem nr2_g {a b : Nat} : nrg κ (cNr2 κ a b) := by
  refine ⟨by simp [cNr2, nu], fun k j h4 h5 h6 => by simp [cNr2, nu, h4, h5, h6], fun x hx => by simp [cNr2, nu, hx], fun x s hx hs => ?_, rfl⟩
  have q0 : ¬ 6 * x + s = 6 * κ.1 4 0 := by omega
  have q1 : ¬ 6 * x + s = 6 * κ.1 4 0 + 1 := by omega
  simp [cNr2, nu, q0, q1]
theorem nr2_5 {a b : Nat} : (cNr2 κ a b).1 5 (κ.1 4 0) = 2 := by simp [cNr2, nu]
theorem nr2_60 {a b : Nat} : (cNr2 κ a b).1 6 (6 * κ.1 4 0 + 0) = a := by simp [cNr2, nu]
theorem nr2_61 {a b : Nat} : (cNr2 κ a b).1 6 (6 * κ.1 4 0 + 1) = b := by simp [cNr2, nu]
theorem nr2_6 {a b : Nat} (s : Nat) (hs : 2 ≤ s) : (cNr2 κ a b).1 6 (6 * κ.1 4 0 + s) = κ.1 6 (6 * κ.1 4 0 + s) := by
  have q0 : ¬ s = 0 := by omega
  have q1 : ¬ s = 1 := by omega
  simp [cNr2, nu, q0, q1]
theorem nr2_pm {a b : Nat} {x : Nat} : pm (cNr2 κ a b) (κ.1 4 0) (fun _ => true) x = (fun x => (fun x => (fun _ => false) x || decide (x = a)) x || decide (x = b)) x := by
  have e0 : (cNr2 κ a b).1 6 (6 * κ.1 4 0) = a := nr2_60 (κ := κ) (a := a) (b := b)
  unfold pm
  rw [nr2_5]
  simp only [List.range'_succ, List.range'_zero, List.any_cons, List.any_nil, Bool.and_true, Bool.or_false, Bool.false_or, Nat.zero_add, Nat.add_zero, Nat.reduceAdd, e0, nr2_61]
  simp only [Bool.or_assoc, eq_comm (a := a) (b := x), eq_comm (a := b) (b := x)]
theorem nr2_od (hw : kf κ) {a b : Nat} : od (cNr2 κ a b) (κ.1 4 0) = (upd (upd (fun _ => 0) 0 (nI a)) 1 (nI b)) := by
  have c0 := (hw.c0 (κ.1 4 0) (Nat.le_refl _)).1
  funext s
  unfold od upd
  match s with
  | 0 => have := nr2_60 (κ := κ) (a := a) (b := b); simp only [Nat.add_zero] at this; simp [this]
  | 1 => simp [nr2_61]
  | s + 2 =>
    by_cases q : s + 2 < 6
    · rw [if_pos q, nr2_6 _ (by omega), hw.m0 _ _ (by omega) q]
      simp
      rfl
    · rw [if_neg q]
      simp
theorem nr2_add (hw : kf κ) {a b : Nat} (hR : κ.1 4 0 < 6) : ax_Ok mJx4a65c_add_9ea2d yJx4a65c_add_9ea2d 7 1 73 [ax_r (10, 0), ax_r (3, κ.1 4 0)] (hRa (hRa (hR0 (fh (ch κ) ρ) (κ.1 4 0)) (κ.1 4 0) 0 (fun _ => 0) (fun _ => false) a) (κ.1 4 0) 1 (upd (fun _ => 0) 0 (nI a)) (fun x => (fun _ => false) x || decide (x = a)) b) (ax_D (ax_i (ax_b true)) (fh (ch (cNr2 κ a b)) ρ)) := by
  have nrc : ∀ s, s < (cNr2 κ a b).1 5 (κ.1 4 0) → s < 6 := by rw [nr2_5]; omega
  have nx := nr_new (ρ := ρ) hw (nr2_g (κ := κ) (a := a) (b := b)) hR nrc
  refine nr_add hw nr2_g hR nrc ?_ ?_ ?_
  · refine (eqx_s (nx.1.trans ?_) (eqx_s (nx.2.1.trans ?_) (eqx_d (by simp) (eqx_d (by simp) (eqx_d (by simp) (eqx_s nx.2.2.2.2.1 (eqx_s nx.2.2.2.1 (eqx_s nx.2.2.1 (eqx_d (by simp) (eqx_d (by simp) (fun u hu => fh_eq (ch_nr hw (nr2_g (κ := κ)) u (fun z => hu (by simp only [List.mem_cons, List.not_mem_nil, or_false] at z ⊢; rcases z with z | z | z | z | z | z | z <;> simp [z]))))))))))))))
    · refine congrArg (fun l => some (ax_o 2 l)) ?_
      unfold fR
      rw [nr2_5, mk_co (fun x _ => nr2_pm (x := x))]
    · rw [nr2_od hw]
  · simp [hRa, hR0, ax_up]
  · simp [hRa, hR0, ax_up]
theorem nr2_kf (hw : kf κ) {a b : Nat} (ha : a < 6) (hb : b < 6) (hab : ¬ a = b) (hR : κ.1 4 0 < 6) : kf (cNr2 κ a b) := by
  have c0 := (hw.c0 (κ.1 4 0) (Nat.le_refl _)).1
  refine kf_nr hw nr2_g hR (by rw [nr2_5]; omega) (fun j => ?_) (fun j => ?_) (fun x y hx hy he => ?_) (fun s h1 h2 => ?_) (fun j => ?_)
  · have := hw.m6 j
    simp only [cNr2, nu]
    repeat' split
    all_goals omega
  · have := hw.lt 5 j
    simp only [cNr2, nu]
    repeat' split
    all_goals omega
  · rw [nr2_5] at hx hy
    have e0 := nr2_60 (κ := κ) (a := a) (b := b)
    have e1 := nr2_61 (κ := κ) (a := a) (b := b)
    match x, y, hx, hy with
    | 0, 0, _, _ => rfl
    | 0, 1, _, _ => exact absurd he (by omega)
    | 1, 0, _, _ => exact absurd he (by omega)
    | 1, 1, _, _ => rfl
  · rw [nr2_5] at h1
    rw [nr2_6 _ h1]
    exact hw.m0 _ _ (by omega) h2
  · have := hw.lt 4 j
    simp only [cNr2, nu]
    repeat' split
    all_goals omega
theorem ok_cregion2 (hw : kf κ) {a b : Nat} (ha : a < 6) (hb : b < 6) : ax_Ok mX3_region yX3_region 9 7 200 [ax_r (1, 0), ax_i (nI a), ax_i (nI b), ax_i (-9)] (fh (ch κ) ρ) (ax_D (ax_i (rRg2 κ a b).1) (fh (ch (rRg2 κ a b).2) ρ)) := by
  refine ax_Ok.of (by decide) rfl (fun q => by cases q) (Nat.le_of_ble_eq_true rfl) rfl ?_
  have h6 := hw.nR
  refine ax_iload_n dX3_region_0 rfl ?_
  refine ax_S1 cs_X3_36 dX3_region_1 (ok_cIsM _) (by decide) (by decide) (by decide) (Nat.le_of_ble_eq_true rfl) ?_
  refine ax_beq 33 dX3_region_4 (by decide) (fun c4 => absurd c4 (by rw [isM_n ha]; simp)) (fun c4 => ?_)
  refine ax_iload_n dX3_region_7 rfl ?_
  refine ax_S1 cs_X3_40 dX3_region_8 (ok_cIsMN _) (by decide) (by decide) (by decide) (Nat.le_of_ble_eq_true rfl) ?_
  refine ax_beq 33 dX3_region_11 (by decide) (fun c11 => absurd c11 (by simp [isM_n hb])) (fun c11 => ?_)
  refine ax_iload_n dX3_region_14 rfl ?_
  refine ax_S1 cs_X3_40 dX3_region_15 (ok_cIsMN _) (by decide) (by decide) (by decide) (Nat.le_of_ble_eq_true rfl) ?_
  refine ax_beq 33 dX3_region_18 (by decide) (fun c18 => absurd c18 (by simp)) (fun c18 => ?_)
  refine ax_iload_n dX3_region_21 rfl ?_
  refine ax_bipush (-9) dX3_region_22 (by decide) ?_
  refine ax_icmp_ne 35 dX3_region_24 (by decide) (fun c24 => ?_) (fun c24 => absurd c24 (nI_ne9 (show b < 2 ^ 31 by omega)))
  refine ax_iload_n dX3_region_35 rfl ?_
  refine ax_iload_n dX3_region_36 rfl ?_
  refine ax_neq 56 dX3_region_37 (by decide) (by omega) (by omega) (fun c37 => ?_) (fun c37 => ?_)
  · refine ax_bipush (-3) dX3_region_56 (by decide) ?_
    refine ax_iretD dX3_region_58 rfl ⟨(by decide), (by decide)⟩ ?_ ?_
    · first | (simp [rRg2, c4, c11, c18, c24, c37]; done) | (simp [rRg2, show ¬ κ.1 4 0 = 6 by omega, c4, c11, c18, c24, c37]; done) | (simp [rRg2, show κ.1 4 0 = 6 by omega, c4, c11, c18, c24, c37]; done) | (simp [rRg2, show ¬ κ.1 4 0 = 6 by omega, c4, c11, c18, c24, c37]; rfl)
    · first | (simp [rRg2, c4, c11, c18, c24, c37]; done) | (simp [rRg2, show ¬ κ.1 4 0 = 6 by omega, c4, c11, c18, c24, c37]; done) | (simp [rRg2, show κ.1 4 0 = 6 by omega, c4, c11, c18, c24, c37]; done) | (simp [rRg2, show ¬ κ.1 4 0 = 6 by omega, c4, c11, c18, c24, c37]; rfl)
  · refine ax_iload_n dX3_region_40 rfl ?_
    refine ax_iload_n dX3_region_41 rfl ?_
    refine ax_icmp_eq 56 dX3_region_42 (by decide) (fun c42 => absurd c42 (nI_ne9 (show a < 2 ^ 31 by omega))) (fun c42 => ?_)
    refine ax_iload_n dX3_region_45 rfl ?_
    refine ax_iload_n dX3_region_46 rfl ?_
    refine ax_icmp_ne 59 dX3_region_47 (by decide) (fun c47 => ?_) (fun c47 => absurd c47 (nI_ne9 (show b < 2 ^ 31 by omega)))
    refine ax_aload_n dX3_region_59 rfl ?_
    refine ax_iload_n dX3_region_60 rfl ?_
    refine ax_V1 cv_X3_43 dX3_region_61 ch_O rfl (ok_isMember ha) (by decide) (by decide) (by decide) (Nat.le_of_ble_eq_true rfl) ?_
    refine ax_beq 95 dX3_region_64 (by decide) (fun c64 => ?_) (fun c64 => ?_)
    · refine ax_bipush (-3) dX3_region_95 (by decide) ?_
      refine ax_iretD dX3_region_97 rfl ⟨(by decide), (by decide)⟩ ?_ ?_
      · first | (simp [rRg2, c4, c11, c18, c24, c37, c42, c47, c64]; done) | (simp [rRg2, show ¬ κ.1 4 0 = 6 by omega, c4, c11, c18, c24, c37, c42, c47, c64]; done) | (simp [rRg2, show κ.1 4 0 = 6 by omega, c4, c11, c18, c24, c37, c42, c47, c64]; done) | (simp [rRg2, show ¬ κ.1 4 0 = 6 by omega, c4, c11, c18, c24, c37, c42, c47, c64]; rfl)
      · first | (simp [rRg2, c4, c11, c18, c24, c37, c42, c47, c64]; done) | (simp [rRg2, show ¬ κ.1 4 0 = 6 by omega, c4, c11, c18, c24, c37, c42, c47, c64]; done) | (simp [rRg2, show κ.1 4 0 = 6 by omega, c4, c11, c18, c24, c37, c42, c47, c64]; done) | (simp [rRg2, show ¬ κ.1 4 0 = 6 by omega, c4, c11, c18, c24, c37, c42, c47, c64]; rfl)
    · refine ax_iload_n dX3_region_67 rfl ?_
      refine ax_bipush (-9) dX3_region_68 (by decide) ?_
      refine ax_icmp_eq 81 dX3_region_70 (by decide) (fun c70 => absurd c70 (nI_ne9 (show b < 2 ^ 31 by omega))) (fun c70 => ?_)
      refine ax_aload_n dX3_region_73 rfl ?_
      refine ax_iload_n dX3_region_74 rfl ?_
      refine ax_V1 cv_X3_43 dX3_region_75 ch_O rfl (ok_isMember hb) (by decide) (by decide) (by decide) (Nat.le_of_ble_eq_true rfl) ?_
      refine ax_beq 95 dX3_region_78 (by decide) (fun c78 => ?_) (fun c78 => ?_)
      · refine ax_bipush (-3) dX3_region_95 (by decide) ?_
        refine ax_iretD dX3_region_97 rfl ⟨(by decide), (by decide)⟩ ?_ ?_
        · first | (simp [rRg2, c4, c11, c18, c24, c37, c42, c47, c64, c70, c78]; done) | (simp [rRg2, show ¬ κ.1 4 0 = 6 by omega, c4, c11, c18, c24, c37, c42, c47, c64, c70, c78]; done) | (simp [rRg2, show κ.1 4 0 = 6 by omega, c4, c11, c18, c24, c37, c42, c47, c64, c70, c78]; done) | (simp [rRg2, show ¬ κ.1 4 0 = 6 by omega, c4, c11, c18, c24, c37, c42, c47, c64, c70, c78]; rfl)
        · first | (simp [rRg2, c4, c11, c18, c24, c37, c42, c47, c64, c70, c78]; done) | (simp [rRg2, show ¬ κ.1 4 0 = 6 by omega, c4, c11, c18, c24, c37, c42, c47, c64, c70, c78]; done) | (simp [rRg2, show κ.1 4 0 = 6 by omega, c4, c11, c18, c24, c37, c42, c47, c64, c70, c78]; done) | (simp [rRg2, show ¬ κ.1 4 0 = 6 by omega, c4, c11, c18, c24, c37, c42, c47, c64, c70, c78]; rfl)
      · refine ax_iload_n dX3_region_81 rfl ?_
        refine ax_bipush (-9) dX3_region_82 (by decide) ?_
        refine ax_icmp_eq 98 dX3_region_84 (by decide) (fun c84 => ?_) (fun c84 => absurd c84 (fun z => z rfl))
        refine ax_aload_n dX3_region_98 rfl ?_
        refine ax_get (ci := 4) (k := 0) (T := TX3) dX3_region_99 ch_O rfl (by decide) fl_X3_10 rfl ?_
        refine ax_V0 cv_X3_46 dX3_region_102 ch_lR rfl (ok_szR) (by decide) (by decide) (by decide) (Nat.le_of_ble_eq_true rfl) ?_
        refine ax_bipush (nI 6) dX3_region_105 (by decide) ?_
        refine ax_nlt 113 dX3_region_107 (by decide) (by omega) (by omega) (fun c107 => ?_) (fun c107 => ?_)
        · refine ax_new (3, κ.1 4 0) dX3_region_113 (ci := 2) (fs := [ax_i (nI 0), ax_z, ax_i (nI 0), ax_i (nI 0), ax_z, ax_z, ax_z]) rfl cl_X3_50 is_X1 in_X1 df_X1 dk_X1 (if_neg (Nat.lt_irrefl _)) (by simp) (by decide) (by decide) ?_
          refine ax_dup dX3_region_116 rfl ?_
          refine ax_aload_n dX3_region_117 rfl ?_
          refine ax_get (ci := 4) (k := 0) (T := TX3) dX3_region_118 (hn_ups (by simp) ch_O) rfl (by decide) fl_X3_10 rfl ?_
          refine ax_V0 cv_X3_46 dX3_region_121 (hn_ups (by simp) ch_lR) rfl (ok_size (hn_ups (by simp) ch_lR)) (by decide) (by decide) (by decide) (Nat.le_of_ble_eq_true rfl) ?_
          refine ax_I1 ci_X3_52 dX3_region_124 (ok_rinit (a4 := (4, κ.1 4 0)) (a5 := (5, κ.1 4 0)) (a6 := (6, κ.1 4 0)) (a7 := (7, κ.1 4 0)) ax_up_s (hn_ups (by simp) (if_neg (Nat.lt_irrefl _))) (hn_ups (by simp) (if_neg (Nat.lt_irrefl _))) (hn_ups (by simp) (if_neg (Nat.lt_irrefl _))) (hn_ups (by simp) (if_neg (Nat.lt_irrefl _))) (by simp) (by simp) (by simp) (by simp) (by simp) (by simp) (by simp) (by simp) (by simp) (by simp) (by simp) (by simp) (by simp) (by simp)) (by decide) (by decide) (by decide) (Nat.le_of_ble_eq_true rfl) ?_
          refine ax_hq (h2 := (hR0 (fh (ch κ) ρ) (κ.1 4 0))) rfl ?_
          refine ax_astore dX3_region_127 rfl (by decide) ?_
          refine ax_aload dX3_region_129 rfl ?_
          refine ax_iload_n dX3_region_131 rfl ?_
          refine ax_V1v cv_X3_55 dX3_region_132 ax_up_s rfl (ok_addCopy (a := (4, κ.1 4 0)) (c := 0) (f := (fun _ => 0)) (P := (fun _ => false)) ax_up_s (by simp [hR0, ax_up]) (by decide) ha) (by decide) (by decide) (by decide) (Nat.le_of_ble_eq_true rfl) ?_
          refine ax_hq (h2 := (hRa (hR0 (fh (ch κ) ρ) (κ.1 4 0)) (κ.1 4 0) 0 (fun _ => 0) (fun _ => false) a)) rfl ?_
          refine ax_iload_n dX3_region_135 rfl ?_
          refine ax_bipush (-9) dX3_region_136 (by decide) ?_
          refine ax_icmp_eq 147 dX3_region_138 (by decide) (fun c138 => absurd c138 (nI_ne9 (show b < 2 ^ 31 by omega))) (fun c138 => ?_)
          refine ax_aload dX3_region_141 rfl ?_
          refine ax_iload_n dX3_region_143 rfl ?_
          refine ax_V1v cv_X3_55 dX3_region_144 ax_up_s rfl (ok_addCopy (a := (4, κ.1 4 0)) (c := 1) (f := (upd (fun _ => 0) 0 (nI a))) (P := (fun x => (fun _ => false) x || decide (x = a))) ax_up_s (hn_ups (by simp) ax_up_s) (by decide) hb) (by decide) (by decide) (by decide) (Nat.le_of_ble_eq_true rfl) ?_
          refine ax_hq (h2 := (hRa (hRa (hR0 (fh (ch κ) ρ) (κ.1 4 0)) (κ.1 4 0) 0 (fun _ => 0) (fun _ => false) a) (κ.1 4 0) 1 (upd (fun _ => 0) 0 (nI a)) (fun x => (fun _ => false) x || decide (x = a)) b)) rfl ?_
          refine ax_iload_n dX3_region_147 rfl ?_
          refine ax_bipush (-9) dX3_region_148 (by decide) ?_
          refine ax_icmp_eq 159 dX3_region_150 (by decide) (fun c150 => ?_) (fun c150 => absurd c150 (fun z => z rfl))
          refine ax_aload_n dX3_region_159 rfl ?_
          refine ax_get (ci := 4) (k := 0) (T := TX3) dX3_region_160 (by simp [hRa, hR0, ax_up]; exact ch_O) rfl (by decide) fl_X3_10 rfl ?_
          refine ax_aload dX3_region_163 rfl ?_
          refine ax_V1 cv_X3_58 dX3_region_165 (by simp [hRa, hR0, ax_up]; exact ch_lR) rfl (nr2_add hw c107) (by decide) (by decide) (by decide) (Nat.le_of_ble_eq_true rfl) ?_
          have hl : κ.1 4 0 < (cNr2 κ a b).1 4 0 := by rw [(nr2_g (κ := κ)).1]; omega
          refine ax_pop dX3_region_168 rfl ?_
          refine ax_aload dX3_region_169 rfl ?_
          refine ax_get (ci := 2) (k := 0) (T := TX1) dX3_region_171 (ch_R hl) rfl (by decide) fl_X3_62 rfl ?_
          refine ax_iretD dX3_region_174 rfl ⟨(by decide), (by decide)⟩ ?_ ?_
          · first | (simp [rRg2, c4, c11, c18, c24, c37, c42, c47, c64, c70, c78, c84, c107, Nat.not_le.mpr c107, c138, c150]; done) | (simp [rRg2, show ¬ κ.1 4 0 = 6 by omega, c4, c11, c18, c24, c37, c42, c47, c64, c70, c78, c84, c107, Nat.not_le.mpr c107, c138, c150]; done) | (simp [rRg2, show κ.1 4 0 = 6 by omega, c4, c11, c18, c24, c37, c42, c47, c64, c70, c78, c84, c107, Nat.not_le.mpr c107, c138, c150]; done) | (simp [rRg2, show ¬ κ.1 4 0 = 6 by omega, c4, c11, c18, c24, c37, c42, c47, c64, c70, c78, c84, c107, Nat.not_le.mpr c107, c138, c150]; rfl)
          · first | (simp [rRg2, c4, c11, c18, c24, c37, c42, c47, c64, c70, c78, c84, c107, Nat.not_le.mpr c107, c138, c150]; done) | (simp [rRg2, show ¬ κ.1 4 0 = 6 by omega, c4, c11, c18, c24, c37, c42, c47, c64, c70, c78, c84, c107, Nat.not_le.mpr c107, c138, c150]; done) | (simp [rRg2, show κ.1 4 0 = 6 by omega, c4, c11, c18, c24, c37, c42, c47, c64, c70, c78, c84, c107, Nat.not_le.mpr c107, c138, c150]; done) | (simp [rRg2, show ¬ κ.1 4 0 = 6 by omega, c4, c11, c18, c24, c37, c42, c47, c64, c70, c78, c84, c107, Nat.not_le.mpr c107, c138, c150]; rfl)
        · refine ax_bipush (-4) dX3_region_110 (by decide) ?_
          refine ax_iretD dX3_region_112 rfl ⟨(by decide), (by decide)⟩ ?_ ?_
          · first | (simp [rRg2, c4, c11, c18, c24, c37, c42, c47, c64, c70, c78, c84, c107, Nat.not_lt.mpr c107]; done) | (simp [rRg2, show ¬ κ.1 4 0 = 6 by omega, c4, c11, c18, c24, c37, c42, c47, c64, c70, c78, c84, c107, Nat.not_lt.mpr c107]; done) | (simp [rRg2, show κ.1 4 0 = 6 by omega, c4, c11, c18, c24, c37, c42, c47, c64, c70, c78, c84, c107, Nat.not_lt.mpr c107]; done) | (simp [rRg2, show ¬ κ.1 4 0 = 6 by omega, c4, c11, c18, c24, c37, c42, c47, c64, c70, c78, c84, c107, Nat.not_lt.mpr c107]; rfl)
          · first | (simp [rRg2, c4, c11, c18, c24, c37, c42, c47, c64, c70, c78, c84, c107, Nat.not_lt.mpr c107]; done) | (simp [rRg2, show ¬ κ.1 4 0 = 6 by omega, c4, c11, c18, c24, c37, c42, c47, c64, c70, c78, c84, c107, Nat.not_lt.mpr c107]; done) | (simp [rRg2, show κ.1 4 0 = 6 by omega, c4, c11, c18, c24, c37, c42, c47, c64, c70, c78, c84, c107, Nat.not_lt.mpr c107]; done) | (simp [rRg2, show ¬ κ.1 4 0 = 6 by omega, c4, c11, c18, c24, c37, c42, c47, c64, c70, c78, c84, c107, Nat.not_lt.mpr c107]; rfl)
def cNr3 (κ : ax_R) (a b c3 : Nat) : ax_R := nu (nu (nu (nu (nu (nu (nu κ 4 0 (κ.1 4 0 + 1)) 6 (6 * κ.1 4 0) a) 5 (κ.1 4 0) 1) 6 (6 * κ.1 4 0 + 1) b) 5 (κ.1 4 0) 2) 6 (6 * κ.1 4 0 + 2) c3) 5 (κ.1 4 0) 3
theorem nr3_g {a b c3 : Nat} : nrg κ (cNr3 κ a b c3) := by
  refine ⟨by simp [cNr3, nu], fun k j h4 h5 h6 => by simp [cNr3, nu, h4, h5, h6], fun x hx => by simp [cNr3, nu, hx], fun x s hx hs => ?_, rfl⟩
  have q0 : ¬ 6 * x + s = 6 * κ.1 4 0 := by omega
  have q1 : ¬ 6 * x + s = 6 * κ.1 4 0 + 1 := by omega
  have q2 : ¬ 6 * x + s = 6 * κ.1 4 0 + 2 := by omega
  simp [cNr3, nu, q0, q1, q2]
theorem nr3_5 {a b c3 : Nat} : (cNr3 κ a b c3).1 5 (κ.1 4 0) = 3 := by simp [cNr3, nu]
theorem nr3_60 {a b c3 : Nat} : (cNr3 κ a b c3).1 6 (6 * κ.1 4 0 + 0) = a := by simp [cNr3, nu]
theorem nr3_61 {a b c3 : Nat} : (cNr3 κ a b c3).1 6 (6 * κ.1 4 0 + 1) = b := by simp [cNr3, nu]
theorem nr3_62 {a b c3 : Nat} : (cNr3 κ a b c3).1 6 (6 * κ.1 4 0 + 2) = c3 := by simp [cNr3, nu]
theorem nr3_6 {a b c3 : Nat} (s : Nat) (hs : 3 ≤ s) : (cNr3 κ a b c3).1 6 (6 * κ.1 4 0 + s) = κ.1 6 (6 * κ.1 4 0 + s) := by
  have q0 : ¬ s = 0 := by omega
  have q1 : ¬ s = 1 := by omega
  have q2 : ¬ s = 2 := by omega
  simp [cNr3, nu, q0, q1, q2]
theorem nr3_pm {a b c3 : Nat} {x : Nat} : pm (cNr3 κ a b c3) (κ.1 4 0) (fun _ => true) x = (fun x => (fun x => (fun x => (fun _ => false) x || decide (x = a)) x || decide (x = b)) x || decide (x = c3)) x := by
  have e0 : (cNr3 κ a b c3).1 6 (6 * κ.1 4 0) = a := nr3_60 (κ := κ) (a := a) (b := b) (c3 := c3)
  unfold pm
  rw [nr3_5]
  simp only [List.range'_succ, List.range'_zero, List.any_cons, List.any_nil, Bool.and_true, Bool.or_false, Bool.false_or, Nat.zero_add, Nat.add_zero, Nat.reduceAdd, e0, nr3_61, nr3_62]
  simp only [Bool.or_assoc, eq_comm (a := a) (b := x), eq_comm (a := b) (b := x), eq_comm (a := c3) (b := x)]
theorem nr3_od (hw : kf κ) {a b c3 : Nat} : od (cNr3 κ a b c3) (κ.1 4 0) = (upd (upd (upd (fun _ => 0) 0 (nI a)) 1 (nI b)) 2 (nI c3)) := by
  have c0 := (hw.c0 (κ.1 4 0) (Nat.le_refl _)).1
  funext s
  unfold od upd
  match s with
  | 0 => have := nr3_60 (κ := κ) (a := a) (b := b) (c3 := c3); simp only [Nat.add_zero] at this; simp [this]
  | 1 => simp [nr3_61]
  | 2 => simp [nr3_62]
  | s + 3 =>
    by_cases q : s + 3 < 6
    · rw [if_pos q, nr3_6 _ (by omega), hw.m0 _ _ (by omega) q]
      simp
      rfl
    · rw [if_neg q]
      simp
theorem nr3_add (hw : kf κ) {a b c3 : Nat} (hR : κ.1 4 0 < 6) : ax_Ok mJx4a65c_add_9ea2d yJx4a65c_add_9ea2d 7 1 73 [ax_r (10, 0), ax_r (3, κ.1 4 0)] (hRa (hRa (hRa (hR0 (fh (ch κ) ρ) (κ.1 4 0)) (κ.1 4 0) 0 (fun _ => 0) (fun _ => false) a) (κ.1 4 0) 1 (upd (fun _ => 0) 0 (nI a)) (fun x => (fun _ => false) x || decide (x = a)) b) (κ.1 4 0) 2 (upd (upd (fun _ => 0) 0 (nI a)) 1 (nI b)) (fun x => (fun x => (fun _ => false) x || decide (x = a)) x || decide (x = b)) c3) (ax_D (ax_i (ax_b true)) (fh (ch (cNr3 κ a b c3)) ρ)) := by
  have nrc : ∀ s, s < (cNr3 κ a b c3).1 5 (κ.1 4 0) → s < 6 := by rw [nr3_5]; omega
  have nx := nr_new (ρ := ρ) hw (nr3_g (κ := κ) (a := a) (b := b) (c3 := c3)) hR nrc
  refine nr_add hw nr3_g hR nrc ?_ ?_ ?_
  · refine (eqx_s (nx.1.trans ?_) (eqx_s (nx.2.1.trans ?_) (eqx_d (by simp) (eqx_d (by simp) (eqx_d (by simp) (eqx_d (by simp) (eqx_d (by simp) (eqx_s nx.2.2.2.2.1 (eqx_s nx.2.2.2.1 (eqx_s nx.2.2.1 (eqx_d (by simp) (eqx_d (by simp) (fun u hu => fh_eq (ch_nr hw (nr3_g (κ := κ)) u (fun z => hu (by simp only [List.mem_cons, List.not_mem_nil, or_false] at z ⊢; rcases z with z | z | z | z | z | z | z <;> simp [z]))))))))))))))))
    · refine congrArg (fun l => some (ax_o 2 l)) ?_
      unfold fR
      rw [nr3_5, mk_co (fun x _ => nr3_pm (x := x))]
    · rw [nr3_od hw]
  · simp [hRa, hR0, ax_up]
  · simp [hRa, hR0, ax_up]
theorem nr3_kf (hw : kf κ) {a b c3 : Nat} (ha : a < 6) (hb : b < 6) (hc3 : c3 < 6) (hab : ¬ a = b) (hac : ¬ a = c3) (hbc : ¬ b = c3) (hR : κ.1 4 0 < 6) : kf (cNr3 κ a b c3) := by
  have c0 := (hw.c0 (κ.1 4 0) (Nat.le_refl _)).1
  refine kf_nr hw nr3_g hR (by rw [nr3_5]; omega) (fun j => ?_) (fun j => ?_) (fun x y hx hy he => ?_) (fun s h1 h2 => ?_) (fun j => ?_)
  · have := hw.m6 j
    simp only [cNr3, nu]
    repeat' split
    all_goals omega
  · have := hw.lt 5 j
    simp only [cNr3, nu]
    repeat' split
    all_goals omega
  · rw [nr3_5] at hx hy
    have e0 := nr3_60 (κ := κ) (a := a) (b := b) (c3 := c3)
    have e1 := nr3_61 (κ := κ) (a := a) (b := b) (c3 := c3)
    have e2 := nr3_62 (κ := κ) (a := a) (b := b) (c3 := c3)
    match x, y, hx, hy with
    | 0, 0, _, _ => rfl
    | 0, 1, _, _ => exact absurd he (by omega)
    | 0, 2, _, _ => exact absurd he (by omega)
    | 1, 0, _, _ => exact absurd he (by omega)
    | 1, 1, _, _ => rfl
    | 1, 2, _, _ => exact absurd he (by omega)
    | 2, 0, _, _ => exact absurd he (by omega)
    | 2, 1, _, _ => exact absurd he (by omega)
    | 2, 2, _, _ => rfl
  · rw [nr3_5] at h1
    rw [nr3_6 _ h1]
    exact hw.m0 _ _ (by omega) h2
  · have := hw.lt 4 j
    simp only [cNr3, nu]
    repeat' split
    all_goals omega
theorem ok_cregion3 (hw : kf κ) {a b c3 : Nat} (ha : a < 6) (hb : b < 6) (hc3 : c3 < 6) : ax_Ok mX3_region yX3_region 9 7 200 [ax_r (1, 0), ax_i (nI a), ax_i (nI b), ax_i (nI c3)] (fh (ch κ) ρ) (ax_D (ax_i (rRg3 κ a b c3).1) (fh (ch (rRg3 κ a b c3).2) ρ)) := by
  refine ax_Ok.of (by decide) rfl (fun q => by cases q) (Nat.le_of_ble_eq_true rfl) rfl ?_
  have h6 := hw.nR
  refine ax_iload_n dX3_region_0 rfl ?_
  refine ax_S1 cs_X3_36 dX3_region_1 (ok_cIsM _) (by decide) (by decide) (by decide) (Nat.le_of_ble_eq_true rfl) ?_
  refine ax_beq 33 dX3_region_4 (by decide) (fun c4 => absurd c4 (by rw [isM_n ha]; simp)) (fun c4 => ?_)
  refine ax_iload_n dX3_region_7 rfl ?_
  refine ax_S1 cs_X3_40 dX3_region_8 (ok_cIsMN _) (by decide) (by decide) (by decide) (Nat.le_of_ble_eq_true rfl) ?_
  refine ax_beq 33 dX3_region_11 (by decide) (fun c11 => absurd c11 (by simp [isM_n hb])) (fun c11 => ?_)
  refine ax_iload_n dX3_region_14 rfl ?_
  refine ax_S1 cs_X3_40 dX3_region_15 (ok_cIsMN _) (by decide) (by decide) (by decide) (Nat.le_of_ble_eq_true rfl) ?_
  refine ax_beq 33 dX3_region_18 (by decide) (fun c18 => absurd c18 (by simp [isM_n hc3])) (fun c18 => ?_)
  refine ax_iload_n dX3_region_21 rfl ?_
  refine ax_bipush (-9) dX3_region_22 (by decide) ?_
  refine ax_icmp_ne 35 dX3_region_24 (by decide) (fun c24 => ?_) (fun c24 => absurd c24 (nI_ne9 (show b < 2 ^ 31 by omega)))
  refine ax_iload_n dX3_region_35 rfl ?_
  refine ax_iload_n dX3_region_36 rfl ?_
  refine ax_neq 56 dX3_region_37 (by decide) (by omega) (by omega) (fun c37 => ?_) (fun c37 => ?_)
  · refine ax_bipush (-3) dX3_region_56 (by decide) ?_
    refine ax_iretD dX3_region_58 rfl ⟨(by decide), (by decide)⟩ ?_ ?_
    · first | (simp [rRg3, c4, c11, c18, c24, c37]; done) | (simp [rRg3, show ¬ κ.1 4 0 = 6 by omega, c4, c11, c18, c24, c37]; done) | (simp [rRg3, show κ.1 4 0 = 6 by omega, c4, c11, c18, c24, c37]; done) | (simp [rRg3, show ¬ κ.1 4 0 = 6 by omega, c4, c11, c18, c24, c37]; rfl)
    · first | (simp [rRg3, c4, c11, c18, c24, c37]; done) | (simp [rRg3, show ¬ κ.1 4 0 = 6 by omega, c4, c11, c18, c24, c37]; done) | (simp [rRg3, show κ.1 4 0 = 6 by omega, c4, c11, c18, c24, c37]; done) | (simp [rRg3, show ¬ κ.1 4 0 = 6 by omega, c4, c11, c18, c24, c37]; rfl)
  · refine ax_iload_n dX3_region_40 rfl ?_
    refine ax_iload_n dX3_region_41 rfl ?_
    refine ax_neq 56 dX3_region_42 (by decide) (by omega) (by omega) (fun c42 => ?_) (fun c42 => ?_)
    · refine ax_bipush (-3) dX3_region_56 (by decide) ?_
      refine ax_iretD dX3_region_58 rfl ⟨(by decide), (by decide)⟩ ?_ ?_
      · first | (simp [rRg3, c4, c11, c18, c24, c37, c42]; done) | (simp [rRg3, show ¬ κ.1 4 0 = 6 by omega, c4, c11, c18, c24, c37, c42]; done) | (simp [rRg3, show κ.1 4 0 = 6 by omega, c4, c11, c18, c24, c37, c42]; done) | (simp [rRg3, show ¬ κ.1 4 0 = 6 by omega, c4, c11, c18, c24, c37, c42]; rfl)
      · first | (simp [rRg3, c4, c11, c18, c24, c37, c42]; done) | (simp [rRg3, show ¬ κ.1 4 0 = 6 by omega, c4, c11, c18, c24, c37, c42]; done) | (simp [rRg3, show κ.1 4 0 = 6 by omega, c4, c11, c18, c24, c37, c42]; done) | (simp [rRg3, show ¬ κ.1 4 0 = 6 by omega, c4, c11, c18, c24, c37, c42]; rfl)
    · refine ax_iload_n dX3_region_45 rfl ?_
      refine ax_iload_n dX3_region_46 rfl ?_
      refine ax_nne 59 dX3_region_47 (by decide) (by omega) (by omega) (fun c47 => ?_) (fun c47 => ?_)
      · refine ax_aload_n dX3_region_59 rfl ?_
        refine ax_iload_n dX3_region_60 rfl ?_
        refine ax_V1 cv_X3_43 dX3_region_61 ch_O rfl (ok_isMember ha) (by decide) (by decide) (by decide) (Nat.le_of_ble_eq_true rfl) ?_
        refine ax_beq 95 dX3_region_64 (by decide) (fun c64 => ?_) (fun c64 => ?_)
        · refine ax_bipush (-3) dX3_region_95 (by decide) ?_
          refine ax_iretD dX3_region_97 rfl ⟨(by decide), (by decide)⟩ ?_ ?_
          · first | (simp [rRg3, c4, c11, c18, c24, c37, c42, c47, c64]; done) | (simp [rRg3, show ¬ κ.1 4 0 = 6 by omega, c4, c11, c18, c24, c37, c42, c47, c64]; done) | (simp [rRg3, show κ.1 4 0 = 6 by omega, c4, c11, c18, c24, c37, c42, c47, c64]; done) | (simp [rRg3, show ¬ κ.1 4 0 = 6 by omega, c4, c11, c18, c24, c37, c42, c47, c64]; rfl)
          · first | (simp [rRg3, c4, c11, c18, c24, c37, c42, c47, c64]; done) | (simp [rRg3, show ¬ κ.1 4 0 = 6 by omega, c4, c11, c18, c24, c37, c42, c47, c64]; done) | (simp [rRg3, show κ.1 4 0 = 6 by omega, c4, c11, c18, c24, c37, c42, c47, c64]; done) | (simp [rRg3, show ¬ κ.1 4 0 = 6 by omega, c4, c11, c18, c24, c37, c42, c47, c64]; rfl)
        · refine ax_iload_n dX3_region_67 rfl ?_
          refine ax_bipush (-9) dX3_region_68 (by decide) ?_
          refine ax_icmp_eq 81 dX3_region_70 (by decide) (fun c70 => absurd c70 (nI_ne9 (show b < 2 ^ 31 by omega))) (fun c70 => ?_)
          refine ax_aload_n dX3_region_73 rfl ?_
          refine ax_iload_n dX3_region_74 rfl ?_
          refine ax_V1 cv_X3_43 dX3_region_75 ch_O rfl (ok_isMember hb) (by decide) (by decide) (by decide) (Nat.le_of_ble_eq_true rfl) ?_
          refine ax_beq 95 dX3_region_78 (by decide) (fun c78 => ?_) (fun c78 => ?_)
          · refine ax_bipush (-3) dX3_region_95 (by decide) ?_
            refine ax_iretD dX3_region_97 rfl ⟨(by decide), (by decide)⟩ ?_ ?_
            · first | (simp [rRg3, c4, c11, c18, c24, c37, c42, c47, c64, c70, c78]; done) | (simp [rRg3, show ¬ κ.1 4 0 = 6 by omega, c4, c11, c18, c24, c37, c42, c47, c64, c70, c78]; done) | (simp [rRg3, show κ.1 4 0 = 6 by omega, c4, c11, c18, c24, c37, c42, c47, c64, c70, c78]; done) | (simp [rRg3, show ¬ κ.1 4 0 = 6 by omega, c4, c11, c18, c24, c37, c42, c47, c64, c70, c78]; rfl)
            · first | (simp [rRg3, c4, c11, c18, c24, c37, c42, c47, c64, c70, c78]; done) | (simp [rRg3, show ¬ κ.1 4 0 = 6 by omega, c4, c11, c18, c24, c37, c42, c47, c64, c70, c78]; done) | (simp [rRg3, show κ.1 4 0 = 6 by omega, c4, c11, c18, c24, c37, c42, c47, c64, c70, c78]; done) | (simp [rRg3, show ¬ κ.1 4 0 = 6 by omega, c4, c11, c18, c24, c37, c42, c47, c64, c70, c78]; rfl)
          · refine ax_iload_n dX3_region_81 rfl ?_
            refine ax_bipush (-9) dX3_region_82 (by decide) ?_
            refine ax_icmp_eq 98 dX3_region_84 (by decide) (fun c84 => absurd c84 (nI_ne9 (show c3 < 2 ^ 31 by omega))) (fun c84 => ?_)
            refine ax_aload_n dX3_region_87 rfl ?_
            refine ax_iload_n dX3_region_88 rfl ?_
            refine ax_V1 cv_X3_43 dX3_region_89 ch_O rfl (ok_isMember hc3) (by decide) (by decide) (by decide) (Nat.le_of_ble_eq_true rfl) ?_
            refine ax_bne 98 dX3_region_92 (by decide) (fun c92 => ?_) (fun c92 => ?_)
            · refine ax_aload_n dX3_region_98 rfl ?_
              refine ax_get (ci := 4) (k := 0) (T := TX3) dX3_region_99 ch_O rfl (by decide) fl_X3_10 rfl ?_
              refine ax_V0 cv_X3_46 dX3_region_102 ch_lR rfl (ok_szR) (by decide) (by decide) (by decide) (Nat.le_of_ble_eq_true rfl) ?_
              refine ax_bipush (nI 6) dX3_region_105 (by decide) ?_
              refine ax_nlt 113 dX3_region_107 (by decide) (by omega) (by omega) (fun c107 => ?_) (fun c107 => ?_)
              · refine ax_new (3, κ.1 4 0) dX3_region_113 (ci := 2) (fs := [ax_i (nI 0), ax_z, ax_i (nI 0), ax_i (nI 0), ax_z, ax_z, ax_z]) rfl cl_X3_50 is_X1 in_X1 df_X1 dk_X1 (if_neg (Nat.lt_irrefl _)) (by simp) (by decide) (by decide) ?_
                refine ax_dup dX3_region_116 rfl ?_
                refine ax_aload_n dX3_region_117 rfl ?_
                refine ax_get (ci := 4) (k := 0) (T := TX3) dX3_region_118 (hn_ups (by simp) ch_O) rfl (by decide) fl_X3_10 rfl ?_
                refine ax_V0 cv_X3_46 dX3_region_121 (hn_ups (by simp) ch_lR) rfl (ok_size (hn_ups (by simp) ch_lR)) (by decide) (by decide) (by decide) (Nat.le_of_ble_eq_true rfl) ?_
                refine ax_I1 ci_X3_52 dX3_region_124 (ok_rinit (a4 := (4, κ.1 4 0)) (a5 := (5, κ.1 4 0)) (a6 := (6, κ.1 4 0)) (a7 := (7, κ.1 4 0)) ax_up_s (hn_ups (by simp) (if_neg (Nat.lt_irrefl _))) (hn_ups (by simp) (if_neg (Nat.lt_irrefl _))) (hn_ups (by simp) (if_neg (Nat.lt_irrefl _))) (hn_ups (by simp) (if_neg (Nat.lt_irrefl _))) (by simp) (by simp) (by simp) (by simp) (by simp) (by simp) (by simp) (by simp) (by simp) (by simp) (by simp) (by simp) (by simp) (by simp)) (by decide) (by decide) (by decide) (Nat.le_of_ble_eq_true rfl) ?_
                refine ax_hq (h2 := (hR0 (fh (ch κ) ρ) (κ.1 4 0))) rfl ?_
                refine ax_astore dX3_region_127 rfl (by decide) ?_
                refine ax_aload dX3_region_129 rfl ?_
                refine ax_iload_n dX3_region_131 rfl ?_
                refine ax_V1v cv_X3_55 dX3_region_132 ax_up_s rfl (ok_addCopy (a := (4, κ.1 4 0)) (c := 0) (f := (fun _ => 0)) (P := (fun _ => false)) ax_up_s (by simp [hR0, ax_up]) (by decide) ha) (by decide) (by decide) (by decide) (Nat.le_of_ble_eq_true rfl) ?_
                refine ax_hq (h2 := (hRa (hR0 (fh (ch κ) ρ) (κ.1 4 0)) (κ.1 4 0) 0 (fun _ => 0) (fun _ => false) a)) rfl ?_
                refine ax_iload_n dX3_region_135 rfl ?_
                refine ax_bipush (-9) dX3_region_136 (by decide) ?_
                refine ax_icmp_eq 147 dX3_region_138 (by decide) (fun c138 => absurd c138 (nI_ne9 (show b < 2 ^ 31 by omega))) (fun c138 => ?_)
                refine ax_aload dX3_region_141 rfl ?_
                refine ax_iload_n dX3_region_143 rfl ?_
                refine ax_V1v cv_X3_55 dX3_region_144 ax_up_s rfl (ok_addCopy (a := (4, κ.1 4 0)) (c := 1) (f := (upd (fun _ => 0) 0 (nI a))) (P := (fun x => (fun _ => false) x || decide (x = a))) ax_up_s (hn_ups (by simp) ax_up_s) (by decide) hb) (by decide) (by decide) (by decide) (Nat.le_of_ble_eq_true rfl) ?_
                refine ax_hq (h2 := (hRa (hRa (hR0 (fh (ch κ) ρ) (κ.1 4 0)) (κ.1 4 0) 0 (fun _ => 0) (fun _ => false) a) (κ.1 4 0) 1 (upd (fun _ => 0) 0 (nI a)) (fun x => (fun _ => false) x || decide (x = a)) b)) rfl ?_
                refine ax_iload_n dX3_region_147 rfl ?_
                refine ax_bipush (-9) dX3_region_148 (by decide) ?_
                refine ax_icmp_eq 159 dX3_region_150 (by decide) (fun c150 => absurd c150 (nI_ne9 (show c3 < 2 ^ 31 by omega))) (fun c150 => ?_)
                refine ax_aload dX3_region_153 rfl ?_
                refine ax_iload_n dX3_region_155 rfl ?_
                refine ax_V1v cv_X3_55 dX3_region_156 ax_up_s rfl (ok_addCopy (a := (4, κ.1 4 0)) (c := 2) (f := (upd (upd (fun _ => 0) 0 (nI a)) 1 (nI b))) (P := (fun x => (fun x => (fun _ => false) x || decide (x = a)) x || decide (x = b))) ax_up_s (hn_ups (by simp) ax_up_s) (by decide) hc3) (by decide) (by decide) (by decide) (Nat.le_of_ble_eq_true rfl) ?_
                refine ax_hq (h2 := (hRa (hRa (hRa (hR0 (fh (ch κ) ρ) (κ.1 4 0)) (κ.1 4 0) 0 (fun _ => 0) (fun _ => false) a) (κ.1 4 0) 1 (upd (fun _ => 0) 0 (nI a)) (fun x => (fun _ => false) x || decide (x = a)) b) (κ.1 4 0) 2 (upd (upd (fun _ => 0) 0 (nI a)) 1 (nI b)) (fun x => (fun x => (fun _ => false) x || decide (x = a)) x || decide (x = b)) c3)) rfl ?_
                refine ax_aload_n dX3_region_159 rfl ?_
                refine ax_get (ci := 4) (k := 0) (T := TX3) dX3_region_160 (by simp [hRa, hR0, ax_up]; exact ch_O) rfl (by decide) fl_X3_10 rfl ?_
                refine ax_aload dX3_region_163 rfl ?_
                refine ax_V1 cv_X3_58 dX3_region_165 (by simp [hRa, hR0, ax_up]; exact ch_lR) rfl (nr3_add hw c107) (by decide) (by decide) (by decide) (Nat.le_of_ble_eq_true rfl) ?_
                have hl : κ.1 4 0 < (cNr3 κ a b c3).1 4 0 := by rw [(nr3_g (κ := κ)).1]; omega
                refine ax_pop dX3_region_168 rfl ?_
                refine ax_aload dX3_region_169 rfl ?_
                refine ax_get (ci := 2) (k := 0) (T := TX1) dX3_region_171 (ch_R hl) rfl (by decide) fl_X3_62 rfl ?_
                refine ax_iretD dX3_region_174 rfl ⟨(by decide), (by decide)⟩ ?_ ?_
                · first | (simp [rRg3, c4, c11, c18, c24, c37, c42, c47, c64, c70, c78, c84, c92, c107, Nat.not_le.mpr c107, c138, c150]; done) | (simp [rRg3, show ¬ κ.1 4 0 = 6 by omega, c4, c11, c18, c24, c37, c42, c47, c64, c70, c78, c84, c92, c107, Nat.not_le.mpr c107, c138, c150]; done) | (simp [rRg3, show κ.1 4 0 = 6 by omega, c4, c11, c18, c24, c37, c42, c47, c64, c70, c78, c84, c92, c107, Nat.not_le.mpr c107, c138, c150]; done) | (simp [rRg3, show ¬ κ.1 4 0 = 6 by omega, c4, c11, c18, c24, c37, c42, c47, c64, c70, c78, c84, c92, c107, Nat.not_le.mpr c107, c138, c150]; rfl)
                · first | (simp [rRg3, c4, c11, c18, c24, c37, c42, c47, c64, c70, c78, c84, c92, c107, Nat.not_le.mpr c107, c138, c150]; done) | (simp [rRg3, show ¬ κ.1 4 0 = 6 by omega, c4, c11, c18, c24, c37, c42, c47, c64, c70, c78, c84, c92, c107, Nat.not_le.mpr c107, c138, c150]; done) | (simp [rRg3, show κ.1 4 0 = 6 by omega, c4, c11, c18, c24, c37, c42, c47, c64, c70, c78, c84, c92, c107, Nat.not_le.mpr c107, c138, c150]; done) | (simp [rRg3, show ¬ κ.1 4 0 = 6 by omega, c4, c11, c18, c24, c37, c42, c47, c64, c70, c78, c84, c92, c107, Nat.not_le.mpr c107, c138, c150]; rfl)
              · refine ax_bipush (-4) dX3_region_110 (by decide) ?_
                refine ax_iretD dX3_region_112 rfl ⟨(by decide), (by decide)⟩ ?_ ?_
                · first | (simp [rRg3, c4, c11, c18, c24, c37, c42, c47, c64, c70, c78, c84, c92, c107, Nat.not_lt.mpr c107]; done) | (simp [rRg3, show ¬ κ.1 4 0 = 6 by omega, c4, c11, c18, c24, c37, c42, c47, c64, c70, c78, c84, c92, c107, Nat.not_lt.mpr c107]; done) | (simp [rRg3, show κ.1 4 0 = 6 by omega, c4, c11, c18, c24, c37, c42, c47, c64, c70, c78, c84, c92, c107, Nat.not_lt.mpr c107]; done) | (simp [rRg3, show ¬ κ.1 4 0 = 6 by omega, c4, c11, c18, c24, c37, c42, c47, c64, c70, c78, c84, c92, c107, Nat.not_lt.mpr c107]; rfl)
                · first | (simp [rRg3, c4, c11, c18, c24, c37, c42, c47, c64, c70, c78, c84, c92, c107, Nat.not_lt.mpr c107]; done) | (simp [rRg3, show ¬ κ.1 4 0 = 6 by omega, c4, c11, c18, c24, c37, c42, c47, c64, c70, c78, c84, c92, c107, Nat.not_lt.mpr c107]; done) | (simp [rRg3, show κ.1 4 0 = 6 by omega, c4, c11, c18, c24, c37, c42, c47, c64, c70, c78, c84, c92, c107, Nat.not_lt.mpr c107]; done) | (simp [rRg3, show ¬ κ.1 4 0 = 6 by omega, c4, c11, c18, c24, c37, c42, c47, c64, c70, c78, c84, c92, c107, Nat.not_lt.mpr c107]; rfl)
            · refine ax_bipush (-3) dX3_region_95 (by decide) ?_
              refine ax_iretD dX3_region_97 rfl ⟨(by decide), (by decide)⟩ ?_ ?_
              · first | (simp [rRg3, c4, c11, c18, c24, c37, c42, c47, c64, c70, c78, c84, c92]; done) | (simp [rRg3, show ¬ κ.1 4 0 = 6 by omega, c4, c11, c18, c24, c37, c42, c47, c64, c70, c78, c84, c92]; done) | (simp [rRg3, show κ.1 4 0 = 6 by omega, c4, c11, c18, c24, c37, c42, c47, c64, c70, c78, c84, c92]; done) | (simp [rRg3, show ¬ κ.1 4 0 = 6 by omega, c4, c11, c18, c24, c37, c42, c47, c64, c70, c78, c84, c92]; rfl)
              · first | (simp [rRg3, c4, c11, c18, c24, c37, c42, c47, c64, c70, c78, c84, c92]; done) | (simp [rRg3, show ¬ κ.1 4 0 = 6 by omega, c4, c11, c18, c24, c37, c42, c47, c64, c70, c78, c84, c92]; done) | (simp [rRg3, show κ.1 4 0 = 6 by omega, c4, c11, c18, c24, c37, c42, c47, c64, c70, c78, c84, c92]; done) | (simp [rRg3, show ¬ κ.1 4 0 = 6 by omega, c4, c11, c18, c24, c37, c42, c47, c64, c70, c78, c84, c92]; rfl)
      · refine ax_iload_n dX3_region_50 rfl ?_
        refine ax_bipush (-9) dX3_region_51 (by decide) ?_
        refine ax_icmp_eq 59 dX3_region_53 (by decide) (fun c53 => absurd c53 (nI_ne9 (show b < 2 ^ 31 by omega))) (fun c53 => ?_)
        refine ax_bipush (-3) dX3_region_56 (by decide) ?_
        refine ax_iretD dX3_region_58 rfl ⟨(by decide), (by decide)⟩ ?_ ?_
        · first | (simp [rRg3, c4, c11, c18, c24, c37, c42, c47, c53]; done) | (simp [rRg3, show ¬ κ.1 4 0 = 6 by omega, c4, c11, c18, c24, c37, c42, c47, c53]; done) | (simp [rRg3, show κ.1 4 0 = 6 by omega, c4, c11, c18, c24, c37, c42, c47, c53]; done) | (simp [rRg3, show ¬ κ.1 4 0 = 6 by omega, c4, c11, c18, c24, c37, c42, c47, c53]; rfl)
        · first | (simp [rRg3, c4, c11, c18, c24, c37, c42, c47, c53]; done) | (simp [rRg3, show ¬ κ.1 4 0 = 6 by omega, c4, c11, c18, c24, c37, c42, c47, c53]; done) | (simp [rRg3, show κ.1 4 0 = 6 by omega, c4, c11, c18, c24, c37, c42, c47, c53]; done) | (simp [rRg3, show ¬ κ.1 4 0 = 6 by omega, c4, c11, c18, c24, c37, c42, c47, c53]; rfl)
end CLS10
