section CLS7
variable {κ ρ : ax_R}
theorem hn_ups {h : ax_H} {u w : ax_N} {C : ax_C} {x : Option ax_C} (e : u ≠ w) (k : h u = x) : ax_up h w C u = x := by rw [ax_up_n e]; exact k
/-- the heap as a transaction has been made, ahead of the list -/
def hpT (h : ax_H) (T m : Nat) : ax_H := ax_up (ax_up (ax_up h (8, T) (ax_o 3 [ax_i (nI 0), ax_i (nI 0), ax_z, ax_i (nI 0), ax_i (nI 0), ax_i (nI 0), ax_i (nI 0)])) (13, T) (ax_o 0 [ax_i (nI 0), ax_r ax_E, ax_i (nI 0)])) (8, T) (ax_o 3 [ax_i (nI T), ax_i (nI m), ax_r (13, T), ax_i (nI 0), ax_i (nI 0), ax_i (nI 0), ax_i (ax_b false)])
theorem hpT_n {h : ax_H} {T m : Nat} {u : ax_N} (h8 : u ≠ (8, T)) (h13 : u ≠ (13, T)) : hpT h T m u = h u := by
  unfold hpT
  rw [ax_up_n h8, ax_up_n h13, ax_up_n h8]
theorem nt_add (hw : kf κ) {m : Nat} (hT : κ.1 10 0 < 60) : ax_Ok mJx4a65c_add_9ea2d yJx4a65c_add_9ea2d 7 1 73 [ax_r (11, 0), ax_r (8, κ.1 10 0)] (hpT (fh (ch κ) ρ) (κ.1 10 0) m) (ax_D (ax_i (ax_b true)) (fh (ch (cNt κ m)) ρ)) := by
  have t0 := hw.t0 (κ.1 10 0) (Nat.le_refl _)
  have := ok_addL (h := hpT (fh (ch κ) ρ) (κ.1 10 0) m) (U := (11, 0)) (w := (8, κ.1 10 0)) (A := 16) (n := κ.1 10 0) (g := fun j => (8, j)) (by rw [hpT_n (by simp) (by simp)]; rfl) (fun v hv => by
      rw [hpT_n (by simp) (by simp)]
      show (if v < 6 ∧ lov v < κ.1 10 0 then _ else _) = _
      by_cases q : lov v < κ.1 10 0
      · rw [if_pos ⟨hv, q⟩, if_pos q]
      · rw [if_neg (fun z => q z.2), if_neg q]) hT (fun j hj => ⟨3, fT κ j, RX2, TX2, 7, by rw [hpT_n (by simp; omega) (by simp)]; exact ch_T hj, rfl, ca_T⟩) (ax_up_s) rfl ca_T (by decide) (by show 16 ≠ 11; decide) (by show 8 ≠ 16; decide) (by simp)
  have lv := lv_ok (n := κ.1 10 0 + 1) (by omega) (by omega)
  refine cast (congrArg (fun h2 => ax_Ok mJx4a65c_add_9ea2d yJx4a65c_add_9ea2d 7 1 73 [ax_r (11, 0), ax_r (8, κ.1 10 0)] (hpT (fh (ch κ) ρ) (κ.1 10 0) m) (ax_D (ax_i (ax_b true)) h2)) (eqx_e (eqx_s ?_ (eqx_s ?_ (eqx_s ?_ (eqx_s ?_ (eqx_d ?_ (fun u hu => fh_eq (ch_nt hw hT u (fun z => hu ?_)))))))))) this
  · rw [ch_lT, nt_10, if_neg (by omega)]
  · rw [ch_eT lv.1 (by rw [nt_10]; exact lv.2.1), nt_10]
    refine congrArg (fun f => some (ax_aq _ f)) ?_
    funext j
    split
    · by_cases q : j = κ.1 10 0
      · rw [if_pos q, q]
      · rw [if_neg q]
    · rfl
  · rw [ch_T (by rw [nt_10]; omega)]
    unfold fT
    rw [nt_11s, nt_n (k := 12) (by decide), nt_n (k := 44) (by decide), nt_n (k := 16) (by decide), t0.1, t0.2.1, t0.2.2.1]
    rw [show (cNt κ m).2.1 15 (κ.1 10 0) = false from t0.2.2.2.1]
  · rw [ch_lI (by rw [nt_10]; omega), nt_n (k := 14) (by decide), t0.2.2.2.2, if_pos rfl]
  · simp
  · simp only [List.mem_cons, List.not_mem_nil, or_false] at z ⊢
    rcases z with z | z | z | z <;> simp [z]
theorem ok_cbegin0 {x : Int32} (hx : isM x = false) : ax_Ok mX3_begin yX3_begin 9 3 83 [ax_r (1, 0), ax_i x] (fh (ch κ) ρ) (ax_D (ax_i (-1)) (fh (ch κ) ρ)) := by
  refine ax_Ok.of (by decide) rfl (fun q => by cases q) (Nat.le_of_ble_eq_true rfl) rfl ?_
  refine ax_iload_n dX3_begin_0 rfl ?_
  refine ax_S1 cs_X3_36 dX3_begin_1 (ok_cIsM _) (by decide) (by decide) (by decide) (Nat.le_of_ble_eq_true rfl) ?_
  refine ax_bne 9 dX3_begin_4 (by decide) (fun c4 => absurd c4 (by rw [hx]; simp)) (fun c4 => ?_)
  refine ax_iconst (-1) dX3_begin_7 (by decide) ?_
  refine ax_iretD dX3_begin_8 rfl ⟨(by decide), (by decide)⟩ ?_ ?_
  · rfl
  · rfl
theorem ok_cbegin (hw : kf κ) {m : Nat} (hm : m < 6) : ax_Ok mX3_begin yX3_begin 9 3 83 [ax_r (1, 0), ax_i (nI m)] (fh (ch κ) ρ) (ax_D (ax_i (rBg κ m).1) (fh (ch (rBg κ m).2) ρ)) := by
  refine ax_Ok.of (by decide) rfl (fun q => by cases q) (Nat.le_of_ble_eq_true rfl) rfl ?_
  have h6 := hw.nT
  refine ax_iload_n dX3_begin_0 rfl ?_
  refine ax_S1 cs_X3_36 dX3_begin_1 (ok_cIsM _) (by decide) (by decide) (by decide) (Nat.le_of_ble_eq_true rfl) ?_
  refine ax_bne 9 dX3_begin_4 (by decide) (fun c4 => ?_) (fun c4 => absurd c4 (by rw [isM_n hm]; simp))
  refine ax_aload_n dX3_begin_9 rfl ?_
  refine ax_iload_n dX3_begin_10 rfl ?_
  refine ax_V1 cv_X3_65 dX3_begin_11 ch_O rfl (ok_isUp (by first | omega | exact hw.m6 _ | exact hw.co6 _)) (by decide) (by decide) (by decide) (Nat.le_of_ble_eq_true rfl) ?_
  refine ax_beq 25 dX3_begin_14 (by decide) (fun c14 => ?_) (fun c14 => ?_)
  · refine ax_bipush (-3) dX3_begin_25 (by decide) ?_
    refine ax_iretD dX3_begin_27 rfl ⟨(by decide), (by decide)⟩ ?_ ?_
    · first | (simp [rBg, c4, c14]; done) | (simp [rBg, show ¬ κ.1 10 0 = 60 by omega, c4, c14]; done) | (simp [rBg, show κ.1 10 0 = 60 by omega, c4, c14]; done)
    · first | (simp [rBg, c4, c14]; done) | (simp [rBg, show ¬ κ.1 10 0 = 60 by omega, c4, c14]; done) | (simp [rBg, show κ.1 10 0 = 60 by omega, c4, c14]; done) | (simp [rBg, show ¬ κ.1 10 0 = 60 by omega, c4, c14]; rfl)
  · refine ax_aload_n dX3_begin_17 rfl ?_
    refine ax_iload_n dX3_begin_18 rfl ?_
    refine ax_V1 cv_X3_43 dX3_begin_19 ch_O rfl (ok_isMember (by first | omega | exact hw.m6 _ | exact hw.co6 _)) (by decide) (by decide) (by decide) (Nat.le_of_ble_eq_true rfl) ?_
    refine ax_bne 28 dX3_begin_22 (by decide) (fun c22 => ?_) (fun c22 => ?_)
    · refine ax_aload_n dX3_begin_28 rfl ?_
      refine ax_get (ci := 4) (k := 1) (T := TX3) dX3_begin_29 ch_O rfl (by decide) fl_X3_16 rfl ?_
      refine ax_V0 cv_X3_46 dX3_begin_32 ch_lT rfl (ok_szT) (by decide) (by decide) (by decide) (Nat.le_of_ble_eq_true rfl) ?_
      refine ax_bipush (nI 60) dX3_begin_35 (by decide) ?_
      refine ax_nlt 43 dX3_begin_37 (by decide) (by omega) (by omega) (fun c37 => ?_) (fun c37 => ?_)
      · refine ax_new (8, κ.1 10 0) dX3_begin_43 (ci := 3) (fs := [ax_i (nI 0), ax_i (nI 0), ax_z, ax_i (nI 0), ax_i (nI 0), ax_i (nI 0), ax_i (nI 0)]) rfl cl_X3_81 is_X2 in_X2 df_X2 dk_X2 (if_neg (Nat.lt_irrefl _)) (by simp) (by decide) (by decide) ?_
        refine ax_dup dX3_begin_46 rfl ?_
        refine ax_aload_n dX3_begin_47 rfl ?_
        refine ax_get (ci := 4) (k := 1) (T := TX3) dX3_begin_48 (hn_ups (by simp) ch_O) rfl (by decide) fl_X3_16 rfl ?_
        refine ax_V0 cv_X3_46 dX3_begin_51 (hn_ups (by simp) ch_lT) rfl (ok_size (hn_ups (by simp) ch_lT)) (by decide) (by decide) (by decide) (Nat.le_of_ble_eq_true rfl) ?_
        refine ax_iload_n dX3_begin_54 rfl ?_
        refine ax_I2 ci_X3_156 dX3_begin_55 (ok_tinit (l := (13, κ.1 10 0)) ax_up_s (hn_ups (by simp) (if_neg (Nat.lt_irrefl _))) (by simp) (by simp)) (by decide) (by decide) (by decide) (Nat.le_of_ble_eq_true rfl) ?_
        refine ax_hq (h2 := hpT (fh (ch κ) ρ) (κ.1 10 0) m) rfl ?_
        refine ax_astore_n dX3_begin_58 rfl (by decide) ?_
        refine ax_aload_n dX3_begin_59 rfl ?_
        refine ax_get (ci := 4) (k := 1) (T := TX3) dX3_begin_60 ((hpT_n (by simp) (by simp)).trans ch_O) rfl (by decide) fl_X3_16 rfl ?_
        refine ax_aload_n dX3_begin_63 rfl ?_
        refine ax_V1 cv_X3_58 dX3_begin_64 ((hpT_n (by simp) (by simp)).trans ch_lT) rfl (nt_add hw c37) (by decide) (by decide) (by decide) (Nat.le_of_ble_eq_true rfl) ?_
        have hw2 := kf_nt (m := m) hw hm c37
        refine ax_pop dX3_begin_67 rfl ?_
        refine ax_aload_n dX3_begin_68 rfl ?_
        refine ax_get (ci := 3) (k := 0) (T := TX2) dX3_begin_69 (ch_T (by rw [nt_10]; omega)) rfl (by decide) fl_X3_159 rfl ?_
        refine ax_iretD dX3_begin_72 rfl ⟨(by decide), (by decide)⟩ ?_ ?_
        · first | (simp [rBg, c4, c14, c22, c37, Nat.not_le.mpr c37]; done) | (simp [rBg, show ¬ κ.1 10 0 = 60 by omega, c4, c14, c22, c37, Nat.not_le.mpr c37]; done) | (simp [rBg, show κ.1 10 0 = 60 by omega, c4, c14, c22, c37, Nat.not_le.mpr c37]; done)
        · first | (simp [rBg, c4, c14, c22, c37, Nat.not_le.mpr c37]; done) | (simp [rBg, show ¬ κ.1 10 0 = 60 by omega, c4, c14, c22, c37, Nat.not_le.mpr c37]; done) | (simp [rBg, show κ.1 10 0 = 60 by omega, c4, c14, c22, c37, Nat.not_le.mpr c37]; done) | (simp [rBg, show ¬ κ.1 10 0 = 60 by omega, c4, c14, c22, c37, Nat.not_le.mpr c37]; rfl)
      · refine ax_bipush (-4) dX3_begin_40 (by decide) ?_
        refine ax_iretD dX3_begin_42 rfl ⟨(by decide), (by decide)⟩ ?_ ?_
        · first | (simp [rBg, c4, c14, c22, c37, Nat.not_lt.mpr c37]; done) | (simp [rBg, show ¬ κ.1 10 0 = 60 by omega, c4, c14, c22, c37, Nat.not_lt.mpr c37]; done) | (simp [rBg, show κ.1 10 0 = 60 by omega, c4, c14, c22, c37, Nat.not_lt.mpr c37]; done)
        · first | (simp [rBg, c4, c14, c22, c37, Nat.not_lt.mpr c37]; done) | (simp [rBg, show ¬ κ.1 10 0 = 60 by omega, c4, c14, c22, c37, Nat.not_lt.mpr c37]; done) | (simp [rBg, show κ.1 10 0 = 60 by omega, c4, c14, c22, c37, Nat.not_lt.mpr c37]; done) | (simp [rBg, show ¬ κ.1 10 0 = 60 by omega, c4, c14, c22, c37, Nat.not_lt.mpr c37]; rfl)
    · refine ax_bipush (-3) dX3_begin_25 (by decide) ?_
      refine ax_iretD dX3_begin_27 rfl ⟨(by decide), (by decide)⟩ ?_ ?_
      · first | (simp [rBg, c4, c14, c22]; done) | (simp [rBg, show ¬ κ.1 10 0 = 60 by omega, c4, c14, c22]; done) | (simp [rBg, show κ.1 10 0 = 60 by omega, c4, c14, c22]; done)
      · first | (simp [rBg, c4, c14, c22]; done) | (simp [rBg, show ¬ κ.1 10 0 = 60 by omega, c4, c14, c22]; done) | (simp [rBg, show κ.1 10 0 = 60 by omega, c4, c14, c22]; done) | (simp [rBg, show ¬ κ.1 10 0 = 60 by omega, c4, c14, c22]; rfl)
def hpI (h : ax_H) (k r q : Nat) (v : Int32) (n : Nat) : ax_H := ax_up (ax_up h (9, k) (ax_o 1 [ax_z, ax_i (nI 0), ax_i (nI 0), ax_i (nI 0), ax_i (nI 0), ax_i (nI 0), ax_i (nI 0), ax_i (nI 0)])) (9, k) (ax_o 1 [ax_r (3, r), ax_i (nI q), ax_i v, ax_i (nI n), ax_i (ax_b false), ax_i (-9), ax_i (nI 0), ax_i (nI 0)])
theorem hpI_n {h : ax_H} {k r q n : Nat} {v : Int32} {u : ax_N} (h9 : u ≠ (9, k)) : hpI h k r q v n u = h u := by
  unfold hpI
  rw [ax_up_n h9, ax_up_n h9]
theorem ni_add (hw : kf κ) {t r q p : Nat} (ht : t < κ.1 10 0) (h8 : κ.1 14 t < 8) : ax_Ok mJx4a65c_add_9ea2d yJx4a65c_add_9ea2d 7 1 73 [ax_r (13, t), ax_r (9, 8 * t + κ.1 14 t)] (hpI (fh (ch κ) ρ) (8 * t + κ.1 14 t) r q (κ.2.2 7 (8 * (6 * r + p) + q)) (κ.1 8 (8 * (6 * r + p) + q))) (ax_D (ax_i (ax_b true)) (fh (ch (rN κ t r q p)) ρ)) := by
  have := ok_addA (h := hpI (fh (ch κ) ρ) (8 * t + κ.1 14 t) r q (κ.2.2 7 (8 * (6 * r + p) + q)) (κ.1 8 (8 * (6 * r + p) + q))) (U := (13, t)) (w := (9, 8 * t + κ.1 14 t)) (A := (15, t)) (n := κ.1 14 t) (g := fun j => (9, 8 * t + j)) (by rw [hpI_n (by simp)]; exact if_pos ht) (by
      rw [hpI_n (by simp)]
      show (if t < κ.1 10 0 ∧ 0 < κ.1 14 t then _ else _) = _
      by_cases q : 0 < κ.1 14 t
      · rw [if_pos ⟨ht, q⟩, if_pos q]
      · rw [if_neg (fun z => q z.2), if_neg q]) (by omega) ax_up_s rfl ca_I (by simp) (by simp) (by simp) (by simp)
  have e14 : (rN κ t r q p).1 14 t = κ.1 14 t + 1 := by rw [ni_14, if_pos rfl]
  have e10 : (rN κ t r q p).1 10 0 = κ.1 10 0 := ni_n (by decide)
  have ek : ik (rN κ t r q p) (8 * t + κ.1 14 t) := by
    have d1 : (8 * t + κ.1 14 t) / 8 = t := by omega
    have d2 : (8 * t + κ.1 14 t) % 8 = κ.1 14 t := by omega
    exact ⟨by rw [d1, e10]; exact ht, by rw [d1, d2, e14]; omega⟩
  refine cast (congrArg (fun h2 => ax_Ok mJx4a65c_add_9ea2d yJx4a65c_add_9ea2d 7 1 73 [ax_r (13, t), ax_r (9, 8 * t + κ.1 14 t)] (hpI (fh (ch κ) ρ) (8 * t + κ.1 14 t) r q (κ.2.2 7 (8 * (6 * r + p) + q)) (κ.1 8 (8 * (6 * r + p) + q))) (ax_D (ax_i (ax_b true)) h2)) (eqx_e (eqx_s ?_ (eqx_s ?_ (eqx_s ?_ (eqx_d ?_ (fun u hu => fh_eq (ch_ni hw h8 u (fun z => hu ?_))))))))) this
  · rw [ch_lI (by rw [e10]; exact ht), e14, if_neg (by omega)]
  · rw [ch_eI (by rw [e10]; exact ht) (by omega), e14]
    refine congrArg (fun f => some (ax_aq _ f)) ?_
    funext j
    split
    · by_cases q : j = κ.1 14 t
      · rw [if_pos q, q]
      · rw [if_neg q]
    · rfl
  · rw [ch_I ek, ni_fIs hw h8]
  · simp
  · simp only [List.mem_cons, List.not_mem_nil, or_false] at z ⊢
    rcases z with z | z | z <;> simp [z]
theorem ok_itemForS (hw : kf κ) {t r q k : Nat} (ht : t < κ.1 10 0) (hq : q < 8) (hio : rIo κ t r q = some k) : ax_Ok mX3_itemFor yX3_itemFor 8 2 81 [ax_r (1, 0), ax_r (8, t), ax_r (3, r), ax_i (nI q)] (fh (ch κ) ρ) (ax_D (ax_r (9, k)) (fh (ch κ) ρ)) := by
  refine ax_Ok.of (by decide) rfl (fun q => by cases q) (Nat.le_of_ble_eq_true rfl) rfl ?_
  refine ax_aload_n dX3_itemFor_0 rfl ?_
  refine ax_aload_n dX3_itemFor_1 rfl ?_
  refine ax_iload_n dX3_itemFor_2 rfl ?_
  refine ax_V2 cv_X3_263 dX3_itemFor_3 (ch_T (by assumption)) rfl (ok_itS hw ht hq hio) (by decide) (by decide) (by decide) (Nat.le_of_ble_eq_true rfl) ?_
  refine ax_astore dX3_itemFor_6 rfl (by decide) ?_
  refine ax_aload dX3_itemFor_8 rfl ?_
  refine ax_ifnull 16 dX3_itemFor_10 (by decide) (fun c10 => absurd c10 (by intro z; cases z)) (fun c10 => ?_)
  refine ax_aload dX3_itemFor_13 rfl ?_
  refine ax_aret dX3_itemFor_15 rfl (Or.inl ⟨_, rfl⟩) ⟨(by decide), (by decide)⟩ ?_
  exact ⟨rfl, rfl⟩
theorem ok_itemForN (hw : kf κ) {t r q p : Nat} (ht : t < κ.1 10 0) (hr : r < κ.1 4 0) (hq : q < 8) (hio : rIo κ t r q = none) (hp : cPr κ r = some p) (h8 : κ.1 14 t < 8) : ax_Ok mX3_itemFor yX3_itemFor 8 2 81 [ax_r (1, 0), ax_r (8, t), ax_r (3, r), ax_i (nI q)] (fh (ch κ) ρ) (ax_D (ax_r (9, 8 * t + κ.1 14 t)) (fh (ch (rN κ t r q p)) ρ)) := by
  refine ax_Ok.of (by decide) rfl (fun q => by cases q) (Nat.le_of_ble_eq_true rfl) rfl ?_
  have hm6 := hw.m6 (6 * r + p)
  have hfree : fh (ch κ) ρ (9, 8 * t + κ.1 14 t) = none := if_neg (fun z => by
    have d1 : (8 * t + κ.1 14 t) / 8 = t := by omega
    have d2 : (8 * t + κ.1 14 t) % 8 = κ.1 14 t := by omega
    have := z.2
    dsimp only at this
    rw [d1, d2] at this
    omega)
  refine ax_aload_n dX3_itemFor_0 rfl ?_
  refine ax_aload_n dX3_itemFor_1 rfl ?_
  refine ax_iload_n dX3_itemFor_2 rfl ?_
  refine ax_V2 cv_X3_263 dX3_itemFor_3 (ch_T (by assumption)) rfl (ok_itN hw ht hq hio) (by decide) (by decide) (by decide) (Nat.le_of_ble_eq_true rfl) ?_
  refine ax_astore dX3_itemFor_6 rfl (by decide) ?_
  refine ax_aload dX3_itemFor_8 rfl ?_
  refine ax_ifnull 16 dX3_itemFor_10 (by decide) (fun c10 => ?_) (fun c10 => absurd c10 (fun z => z rfl))
  refine ax_aload_n dX3_itemFor_16 rfl ?_
  refine ax_aload_n dX3_itemFor_17 rfl ?_
  refine ax_V1 cv_X3_104 dX3_itemFor_18 ch_O rfl (ok_prS hw hr hp) (by decide) (by decide) (by decide) (Nat.le_of_ble_eq_true rfl) ?_
  refine ax_iload_n dX3_itemFor_21 rfl ?_
  refine ax_S2 cs_X3_122 dX3_itemFor_22 (ok_ccell) (by decide) (by decide) (by decide) (Nat.le_of_ble_eq_true rfl) ?_
  refine ax_istore dX3_itemFor_25 rfl (by decide) ?_
  refine ax_new (9, 8 * t + κ.1 14 t) dX3_itemFor_27 (ci := 1) (fs := [ax_z, ax_i (nI 0), ax_i (nI 0), ax_i (nI 0), ax_i (nI 0), ax_i (nI 0), ax_i (nI 0), ax_i (nI 0)]) rfl cl_X3_173 is_X0 in_X0 df_X0 dk_X0 hfree (by simp) (by decide) (by decide) ?_
  refine ax_dup dX3_itemFor_30 rfl ?_
  refine ax_aload_n dX3_itemFor_31 rfl ?_
  refine ax_iload_n dX3_itemFor_32 rfl ?_
  refine ax_aload_n dX3_itemFor_33 rfl ?_
  refine ax_get (ci := 2) (k := 4) (T := TX1) dX3_itemFor_34 (hn_ups (by simp) (ch_R hr)) rfl (by decide) fl_X3_126 rfl ?_
  refine ax_iload dX3_itemFor_37 rfl ?_
  refine ax_iald dX3_itemFor_39 (hn_ups (by simp) (ch_v hr)) (vp_in_nI (by omega) (by omega)) ?_
  rw [nI_clamp (by omega), vv_at hw (cPr_lt hp).1 hq]
  refine ax_aload_n dX3_itemFor_40 rfl ?_
  refine ax_get (ci := 2) (k := 5) (T := TX1) dX3_itemFor_41 (hn_ups (by simp) (ch_R hr)) rfl (by decide) fl_X3_129 rfl ?_
  refine ax_iload dX3_itemFor_44 rfl ?_
  refine ax_iald dX3_itemFor_46 (hn_ups (by simp) (ch_n hr)) (vp_in_nI (by omega) (by omega)) ?_
  rw [nI_clamp (by omega), vn_at hw (cPr_lt hp).1 hq]
  refine ax_I4 ci_X3_270 dX3_itemFor_47 (ok_iinit ax_up_s) (by decide) (by decide) (by decide) (Nat.le_of_ble_eq_true rfl) ?_
  refine ax_hq (h2 := hpI (fh (ch κ) ρ) (8 * t + κ.1 14 t) r q (κ.2.2 7 (8 * (6 * r + p) + q)) (κ.1 8 (8 * (6 * r + p) + q))) rfl ?_
  refine ax_astore dX3_itemFor_50 rfl (by decide) ?_
  refine ax_aload_n dX3_itemFor_52 rfl ?_
  refine ax_get (ci := 3) (k := 2) (T := TX2) dX3_itemFor_53 ((hpI_n (by simp)).trans (ch_T ht)) rfl (by decide) fl_X3_205 rfl ?_
  refine ax_aload dX3_itemFor_56 rfl ?_
  refine ax_V1 cv_X3_58 dX3_itemFor_58 ((hpI_n (by simp)).trans (ch_lI ht)) rfl (ni_add hw ht h8) (by decide) (by decide) (by decide) (Nat.le_of_ble_eq_true rfl) ?_
  refine ax_pop dX3_itemFor_61 rfl ?_
  refine ax_aload dX3_itemFor_62 rfl ?_
  refine ax_aret dX3_itemFor_64 rfl (Or.inl ⟨_, rfl⟩) ⟨(by decide), (by decide)⟩ ?_
  exact ⟨rfl, rfl⟩
theorem cAc_0 {t r q : Nat} (h : cAc κ t r q = 0) : ∃ p, cPr κ r = some p ∧ (rIo κ t r q = none → κ.1 14 t < 8) := by
  unfold cAc at h
  by_cases h1 : κ.1 12 t ≠ 0
  · rw [if_pos h1] at h; cases h
  · rw [if_neg h1] at h
    cases hp : cPr κ r with
    | none => rw [hp] at h; cases h
    | some p =>
      rw [hp] at h
      dsimp only at h
      split at h
      · cases h
      · split at h
        · rename_i q; exact ⟨p, rfl, fun z => absurd z q⟩
        · split at h
          · cases h
          · split at h
            · cases h
            · exact ⟨p, rfl, fun _ => by omega⟩
/-- the item of an object, and the state that has it -/
def cIx (κ : ax_R) (t r q : Nat) : Nat := (rIo κ t r q).getD (8 * t + κ.1 14 t)
def cIs (κ : ax_R) (t r q : Nat) : ax_R := match rIo κ t r q with
  | some _ => κ
  | none => rN κ t r q ((cPr κ r).getD 0)
theorem cIs_ok (hw : kf κ) {t r q : Nat} (ht : t < κ.1 10 0) (hr : r < κ.1 4 0) (hq : q < 8) (hc : cAc κ t r q = 0) : kf (cIs κ t r q) ∧ ik (cIs κ t r q) (cIx κ t r q) ∧ (cIs κ t r q).1 10 0 = κ.1 10 0 := by
  obtain ⟨p, hp, h8⟩ := cAc_0 hc
  unfold cIs cIx
  cases hio : rIo κ t r q with
  | some k => exact ⟨hw, (io_ik hw ht hio).1, rfl⟩
  | none =>
    have h8 := h8 hio
    have d1 : (8 * t + κ.1 14 t) / 8 = t := by omega
    have d2 : (8 * t + κ.1 14 t) % 8 = κ.1 14 t := by omega
    have e10 : (rN κ t r q ((cPr κ r).getD 0)).1 10 0 = κ.1 10 0 := ni_n (by decide)
    refine ⟨kf_ni hw ht h8 hr hq, ⟨?_, ?_⟩, e10⟩
    · show (8 * t + κ.1 14 t) / 8 < _
      rw [d1, e10]; exact ht
    · show (8 * t + κ.1 14 t) % 8 < _
      rw [d2, show ((none : Option Nat).getD (8 * t + κ.1 14 t)) / 8 = t from d1, ni_14, if_pos rfl]; omega
theorem ok_itemFor (hw : kf κ) {t r q : Nat} (ht : t < κ.1 10 0) (hr : r < κ.1 4 0) (hq : q < 8) (hc : cAc κ t r q = 0) : ax_Ok mX3_itemFor yX3_itemFor 8 2 81 [ax_r (1, 0), ax_r (8, t), ax_r (3, r), ax_i (nI q)] (fh (ch κ) ρ) (ax_D (ax_r (9, cIx κ t r q)) (fh (ch (cIs κ t r q)) ρ)) := by
  obtain ⟨p, hp, h8⟩ := cAc_0 hc
  unfold cIs cIx
  cases hio : rIo κ t r q with
  | some k => exact ok_itemForS hw ht hq hio
  | none => rw [hp]; exact ok_itemForN hw ht hr hq hio hp (h8 hio)
def cRd (κ : ax_R) (t r q : Nat) : Int32 × ax_R := if cAc κ t r q = 0 then (if (cIs κ t r q).2.1 22 (cIx κ t r q) = true then (cIs κ t r q).2.2 23 (cIx κ t r q) else (cIs κ t r q).2.2 20 (cIx κ t r q), cIs κ t r q) else (cAc κ t r q, κ)
def cWs (κ : ax_R) (t r q : Nat) (v : Int32) : ax_R := ru (bu (cIs κ t r q) 22 (cIx κ t r q) true) 23 (cIx κ t r q) v
def cWt (κ : ax_R) (t r q : Nat) (v : Int32) : Int32 × ax_R := if cAc κ t r q = 0 then (nI (rW (cWs κ t r q v) t), cWs κ t r q v) else (cAc κ t r q, κ)
theorem nI_inr {n : Nat} {x : Int32} (hn : n ≤ 60) (h : 0 ≤ x ∧ x < nI n) : ∃ t, t < n ∧ x = nI t := by
  obtain ⟨j, hj, rfl⟩ := nI_of (Int32.not_lt.mpr h.1)
  refine ⟨j, ?_, rfl⟩
  have h2 := Int32.not_le.mpr h.2
  rw [nI_leI (by omega) hj] at h2
  omega
theorem ok_cread0 (hw : kf κ)  {x y z : Int32} (hu : ¬ (0 ≤ x ∧ x < nI (κ.1 10 0)) ∨ ¬ (0 ≤ y ∧ y < nI (κ.1 4 0)) ∨ isO z = false) : ax_Ok mX3_read yX3_read 9 2 81 [ax_r (1, 0), ax_i x, ax_i y, ax_i z] (fh (ch κ) ρ) (ax_D (ax_i (-1)) (fh (ch κ) ρ)) := by
  refine ax_Ok.of (by decide) rfl (fun q => by cases q) (Nat.le_of_ble_eq_true rfl) rfl ?_
  by_cases hx : 0 ≤ x ∧ x < nI (κ.1 10 0)
  · obtain ⟨t, ht, rfl⟩ := nI_inr hw.nT hx
    by_cases hy : 0 ≤ y ∧ y < nI (κ.1 4 0)
    · obtain ⟨r, hr, rfl⟩ := nI_inr (by have := hw.nR; omega) hy
      have hz : isO z = false := by
        rcases hu with q | q | q
        · exact absurd hx q
        · exact absurd hy q
        · exact q
      refine ax_aload_n dX3_read_0 rfl ?_
      refine ax_iload_n dX3_read_1 rfl ?_
      refine ax_V1 cv_X3_160 dX3_read_2 ch_O rfl (ok_transactionAt hw ht) (by decide) (by decide) (by decide) (Nat.le_of_ble_eq_true rfl) ?_
      refine ax_astore dX3_read_5 rfl (by decide) ?_
      refine ax_aload_n dX3_read_7 rfl ?_
      refine ax_iload_n dX3_read_8 rfl ?_
      refine ax_V1 cv_X3_100 dX3_read_9 ch_O rfl (ok_regionAt hw hr) (by decide) (by decide) (by decide) (Nat.le_of_ble_eq_true rfl) ?_
      refine ax_astore dX3_read_12 rfl (by decide) ?_
      refine ax_aload dX3_read_14 rfl ?_
      refine ax_ifnull 31 dX3_read_16 (by decide) (fun c16 => absurd c16 (by intro z; cases z)) (fun c16 => ?_)
      refine ax_aload dX3_read_19 rfl ?_
      refine ax_ifnull 31 dX3_read_21 (by decide) (fun c21 => absurd c21 (by intro z; cases z)) (fun c21 => ?_)
      refine ax_iload_n dX3_read_24 rfl ?_
      refine ax_S1 cs_X3_146 dX3_read_25 (ok_cIsO _) (by decide) (by decide) (by decide) (Nat.le_of_ble_eq_true rfl) ?_
      refine ax_bne 33 dX3_read_28 (by decide) (fun c28 => absurd c28 (by rw [hz]; simp)) (fun c28 => ?_)
      refine ax_iconst (-1) dX3_read_31 (by decide) ?_
      refine ax_iretD dX3_read_32 rfl ⟨(by decide), (by decide)⟩ ?_ ?_
      · rfl
      · rfl
    · skip
      refine ax_aload_n dX3_read_0 rfl ?_
      refine ax_iload_n dX3_read_1 rfl ?_
      refine ax_V1 cv_X3_160 dX3_read_2 ch_O rfl (ok_transactionAt hw ht) (by decide) (by decide) (by decide) (Nat.le_of_ble_eq_true rfl) ?_
      refine ax_astore dX3_read_5 rfl (by decide) ?_
      refine ax_aload_n dX3_read_7 rfl ?_
      refine ax_iload_n dX3_read_8 rfl ?_
      refine ax_V1 cv_X3_100 dX3_read_9 ch_O rfl (ok_regionAtN hy) (by decide) (by decide) (by decide) (Nat.le_of_ble_eq_true rfl) ?_
      refine ax_astore dX3_read_12 rfl (by decide) ?_
      refine ax_aload dX3_read_14 rfl ?_
      refine ax_ifnull 31 dX3_read_16 (by decide) (fun c16 => absurd c16 (by intro z; cases z)) (fun c16 => ?_)
      refine ax_aload dX3_read_19 rfl ?_
      refine ax_ifnull 31 dX3_read_21 (by decide) (fun c21 => ?_) (fun c21 => absurd c21 (fun z => z rfl))
      refine ax_iconst (-1) dX3_read_31 (by decide) ?_
      refine ax_iretD dX3_read_32 rfl ⟨(by decide), (by decide)⟩ ?_ ?_
      · rfl
      · rfl
  · by_cases hy : 0 ≤ y ∧ y < nI (κ.1 4 0)
    · obtain ⟨r, hr, rfl⟩ := nI_inr (by have := hw.nR; omega) hy
      refine ax_aload_n dX3_read_0 rfl ?_
      refine ax_iload_n dX3_read_1 rfl ?_
      refine ax_V1 cv_X3_160 dX3_read_2 ch_O rfl (ok_transactionAtN hx) (by decide) (by decide) (by decide) (Nat.le_of_ble_eq_true rfl) ?_
      refine ax_astore dX3_read_5 rfl (by decide) ?_
      refine ax_aload_n dX3_read_7 rfl ?_
      refine ax_iload_n dX3_read_8 rfl ?_
      refine ax_V1 cv_X3_100 dX3_read_9 ch_O rfl (ok_regionAt hw hr) (by decide) (by decide) (by decide) (Nat.le_of_ble_eq_true rfl) ?_
      refine ax_astore dX3_read_12 rfl (by decide) ?_
      refine ax_aload dX3_read_14 rfl ?_
      refine ax_ifnull 31 dX3_read_16 (by decide) (fun c16 => ?_) (fun c16 => absurd c16 (fun z => z rfl))
      refine ax_iconst (-1) dX3_read_31 (by decide) ?_
      refine ax_iretD dX3_read_32 rfl ⟨(by decide), (by decide)⟩ ?_ ?_
      · rfl
      · rfl
    · skip
      refine ax_aload_n dX3_read_0 rfl ?_
      refine ax_iload_n dX3_read_1 rfl ?_
      refine ax_V1 cv_X3_160 dX3_read_2 ch_O rfl (ok_transactionAtN hx) (by decide) (by decide) (by decide) (Nat.le_of_ble_eq_true rfl) ?_
      refine ax_astore dX3_read_5 rfl (by decide) ?_
      refine ax_aload_n dX3_read_7 rfl ?_
      refine ax_iload_n dX3_read_8 rfl ?_
      refine ax_V1 cv_X3_100 dX3_read_9 ch_O rfl (ok_regionAtN hy) (by decide) (by decide) (by decide) (Nat.le_of_ble_eq_true rfl) ?_
      refine ax_astore dX3_read_12 rfl (by decide) ?_
      refine ax_aload dX3_read_14 rfl ?_
      refine ax_ifnull 31 dX3_read_16 (by decide) (fun c16 => ?_) (fun c16 => absurd c16 (fun z => z rfl))
      refine ax_iconst (-1) dX3_read_31 (by decide) ?_
      refine ax_iretD dX3_read_32 rfl ⟨(by decide), (by decide)⟩ ?_ ?_
      · rfl
      · rfl
theorem ok_cwrite0 (hw : kf κ) {v : Int32} {x y z : Int32} (hu : ¬ (0 ≤ x ∧ x < nI (κ.1 10 0)) ∨ ¬ (0 ≤ y ∧ y < nI (κ.1 4 0)) ∨ isO z = false) : ax_Ok mX3_write yX3_write 9 2 81 [ax_r (1, 0), ax_i x, ax_i y, ax_i z, ax_i v] (fh (ch κ) ρ) (ax_D (ax_i (-1)) (fh (ch κ) ρ)) := by
  refine ax_Ok.of (by decide) rfl (fun q => by cases q) (Nat.le_of_ble_eq_true rfl) rfl ?_
  by_cases hx : 0 ≤ x ∧ x < nI (κ.1 10 0)
  · obtain ⟨t, ht, rfl⟩ := nI_inr hw.nT hx
    by_cases hy : 0 ≤ y ∧ y < nI (κ.1 4 0)
    · obtain ⟨r, hr, rfl⟩ := nI_inr (by have := hw.nR; omega) hy
      have hz : isO z = false := by
        rcases hu with q | q | q
        · exact absurd hx q
        · exact absurd hy q
        · exact q
      refine ax_aload_n dX3_write_0 rfl ?_
      refine ax_iload_n dX3_write_1 rfl ?_
      refine ax_V1 cv_X3_160 dX3_write_2 ch_O rfl (ok_transactionAt hw ht) (by decide) (by decide) (by decide) (Nat.le_of_ble_eq_true rfl) ?_
      refine ax_astore dX3_write_5 rfl (by decide) ?_
      refine ax_aload_n dX3_write_7 rfl ?_
      refine ax_iload_n dX3_write_8 rfl ?_
      refine ax_V1 cv_X3_100 dX3_write_9 ch_O rfl (ok_regionAt hw hr) (by decide) (by decide) (by decide) (Nat.le_of_ble_eq_true rfl) ?_
      refine ax_astore dX3_write_12 rfl (by decide) ?_
      refine ax_aload dX3_write_14 rfl ?_
      refine ax_ifnull 31 dX3_write_16 (by decide) (fun c16 => absurd c16 (by intro z; cases z)) (fun c16 => ?_)
      refine ax_aload dX3_write_19 rfl ?_
      refine ax_ifnull 31 dX3_write_21 (by decide) (fun c21 => absurd c21 (by intro z; cases z)) (fun c21 => ?_)
      refine ax_iload_n dX3_write_24 rfl ?_
      refine ax_S1 cs_X3_146 dX3_write_25 (ok_cIsO _) (by decide) (by decide) (by decide) (Nat.le_of_ble_eq_true rfl) ?_
      refine ax_bne 33 dX3_write_28 (by decide) (fun c28 => absurd c28 (by rw [hz]; simp)) (fun c28 => ?_)
      refine ax_iconst (-1) dX3_write_31 (by decide) ?_
      refine ax_iretD dX3_write_32 rfl ⟨(by decide), (by decide)⟩ ?_ ?_
      · rfl
      · rfl
    · skip
      refine ax_aload_n dX3_write_0 rfl ?_
      refine ax_iload_n dX3_write_1 rfl ?_
      refine ax_V1 cv_X3_160 dX3_write_2 ch_O rfl (ok_transactionAt hw ht) (by decide) (by decide) (by decide) (Nat.le_of_ble_eq_true rfl) ?_
      refine ax_astore dX3_write_5 rfl (by decide) ?_
      refine ax_aload_n dX3_write_7 rfl ?_
      refine ax_iload_n dX3_write_8 rfl ?_
      refine ax_V1 cv_X3_100 dX3_write_9 ch_O rfl (ok_regionAtN hy) (by decide) (by decide) (by decide) (Nat.le_of_ble_eq_true rfl) ?_
      refine ax_astore dX3_write_12 rfl (by decide) ?_
      refine ax_aload dX3_write_14 rfl ?_
      refine ax_ifnull 31 dX3_write_16 (by decide) (fun c16 => absurd c16 (by intro z; cases z)) (fun c16 => ?_)
      refine ax_aload dX3_write_19 rfl ?_
      refine ax_ifnull 31 dX3_write_21 (by decide) (fun c21 => ?_) (fun c21 => absurd c21 (fun z => z rfl))
      refine ax_iconst (-1) dX3_write_31 (by decide) ?_
      refine ax_iretD dX3_write_32 rfl ⟨(by decide), (by decide)⟩ ?_ ?_
      · rfl
      · rfl
  · by_cases hy : 0 ≤ y ∧ y < nI (κ.1 4 0)
    · obtain ⟨r, hr, rfl⟩ := nI_inr (by have := hw.nR; omega) hy
      refine ax_aload_n dX3_write_0 rfl ?_
      refine ax_iload_n dX3_write_1 rfl ?_
      refine ax_V1 cv_X3_160 dX3_write_2 ch_O rfl (ok_transactionAtN hx) (by decide) (by decide) (by decide) (Nat.le_of_ble_eq_true rfl) ?_
      refine ax_astore dX3_write_5 rfl (by decide) ?_
      refine ax_aload_n dX3_write_7 rfl ?_
      refine ax_iload_n dX3_write_8 rfl ?_
      refine ax_V1 cv_X3_100 dX3_write_9 ch_O rfl (ok_regionAt hw hr) (by decide) (by decide) (by decide) (Nat.le_of_ble_eq_true rfl) ?_
      refine ax_astore dX3_write_12 rfl (by decide) ?_
      refine ax_aload dX3_write_14 rfl ?_
      refine ax_ifnull 31 dX3_write_16 (by decide) (fun c16 => ?_) (fun c16 => absurd c16 (fun z => z rfl))
      refine ax_iconst (-1) dX3_write_31 (by decide) ?_
      refine ax_iretD dX3_write_32 rfl ⟨(by decide), (by decide)⟩ ?_ ?_
      · rfl
      · rfl
    · skip
      refine ax_aload_n dX3_write_0 rfl ?_
      refine ax_iload_n dX3_write_1 rfl ?_
      refine ax_V1 cv_X3_160 dX3_write_2 ch_O rfl (ok_transactionAtN hx) (by decide) (by decide) (by decide) (Nat.le_of_ble_eq_true rfl) ?_
      refine ax_astore dX3_write_5 rfl (by decide) ?_
      refine ax_aload_n dX3_write_7 rfl ?_
      refine ax_iload_n dX3_write_8 rfl ?_
      refine ax_V1 cv_X3_100 dX3_write_9 ch_O rfl (ok_regionAtN hy) (by decide) (by decide) (by decide) (Nat.le_of_ble_eq_true rfl) ?_
      refine ax_astore dX3_write_12 rfl (by decide) ?_
      refine ax_aload dX3_write_14 rfl ?_
      refine ax_ifnull 31 dX3_write_16 (by decide) (fun c16 => ?_) (fun c16 => absurd c16 (fun z => z rfl))
      refine ax_iconst (-1) dX3_write_31 (by decide) ?_
      refine ax_iretD dX3_write_32 rfl ⟨(by decide), (by decide)⟩ ?_ ?_
      · rfl
      · rfl
theorem ok_cread (hw : kf κ) {t r q : Nat} (ht : t < κ.1 10 0) (hr : r < κ.1 4 0) (hq : q < 8) : ax_Ok mX3_read yX3_read 9 2 81 [ax_r (1, 0), ax_i (nI t), ax_i (nI r), ax_i (nI q)] (fh (ch κ) ρ) (ax_D (ax_i (cRd κ t r q).1) (fh (ch (cRd κ t r q).2) ρ)) := by
  refine ax_Ok.of (by decide) rfl (fun q => by cases q) (Nat.le_of_ble_eq_true rfl) rfl ?_
  refine ax_aload_n dX3_read_0 rfl ?_
  refine ax_iload_n dX3_read_1 rfl ?_
  refine ax_V1 cv_X3_160 dX3_read_2 ch_O rfl (ok_transactionAt hw ht) (by decide) (by decide) (by decide) (Nat.le_of_ble_eq_true rfl) ?_
  refine ax_astore dX3_read_5 rfl (by decide) ?_
  refine ax_aload_n dX3_read_7 rfl ?_
  refine ax_iload_n dX3_read_8 rfl ?_
  refine ax_V1 cv_X3_100 dX3_read_9 ch_O rfl (ok_regionAt hw hr) (by decide) (by decide) (by decide) (Nat.le_of_ble_eq_true rfl) ?_
  refine ax_astore dX3_read_12 rfl (by decide) ?_
  refine ax_aload dX3_read_14 rfl ?_
  refine ax_ifnull 31 dX3_read_16 (by decide) (fun c16 => absurd c16 (by intro z; cases z)) (fun c16 => ?_)
  refine ax_aload dX3_read_19 rfl ?_
  refine ax_ifnull 31 dX3_read_21 (by decide) (fun c21 => absurd c21 (by intro z; cases z)) (fun c21 => ?_)
  refine ax_iload_n dX3_read_24 rfl ?_
  refine ax_S1 cs_X3_146 dX3_read_25 (ok_cIsO _) (by decide) (by decide) (by decide) (Nat.le_of_ble_eq_true rfl) ?_
  refine ax_bne 33 dX3_read_28 (by decide) (fun c28 => ?_) (fun c28 => absurd c28 (by rw [isO_n _ hq]; simp))
  refine ax_aload_n dX3_read_33 rfl ?_
  refine ax_aload dX3_read_34 rfl ?_
  refine ax_aload dX3_read_36 rfl ?_
  refine ax_iload_n dX3_read_38 rfl ?_
  refine ax_V3 cv_X3_164 dX3_read_39 ch_O rfl (ok_accessRefusal hw ht hr hq) (by decide) (by decide) (by decide) (Nat.le_of_ble_eq_true rfl) ?_
  refine ax_istore dX3_read_42 rfl (by decide) ?_
  refine ax_iload dX3_read_44 rfl ?_
  refine ax_if_eq 52 dX3_read_46 (by decide) (fun c46 => ?_) (fun c46 => ?_)
  · refine ax_aload_n dX3_read_52 rfl ?_
    refine ax_aload dX3_read_53 rfl ?_
    refine ax_aload dX3_read_55 rfl ?_
    refine ax_iload_n dX3_read_57 rfl ?_
    refine ax_V3 cv_X3_168 dX3_read_58 ch_O rfl (ok_itemFor hw ht hr hq c46) (by decide) (by decide) (by decide) (Nat.le_of_ble_eq_true rfl) ?_
    obtain ⟨hw2, hik, e10⟩ := cIs_ok hw ht hr hq c46
    refine ax_astore dX3_read_61 rfl (by decide) ?_
    refine ax_aload dX3_read_63 rfl ?_
    refine ax_get (ci := 1) (k := 4) (T := TX0) dX3_read_65 (ch_I (by assumption)) rfl (by decide) fl_X3_172 rfl ?_
    refine ax_beq 79 dX3_read_68 (by decide) (fun c68 => ?_) (fun c68 => ?_)
    · refine ax_aload dX3_read_79 rfl ?_
      refine ax_get (ci := 1) (k := 2) (T := TX0) dX3_read_81 (ch_I (by assumption)) rfl (by decide) fl_X3_181 rfl ?_
      refine ax_iretD dX3_read_84 rfl ⟨(by decide), (by decide)⟩ ?_ ?_
      · simp [cRd, c16, c21, c28, c46, c68]
      · simp [cRd, c16, c21, c28, c46, c68]
    · refine ax_aload dX3_read_71 rfl ?_
      refine ax_get (ci := 1) (k := 5) (T := TX0) dX3_read_73 (ch_I (by assumption)) rfl (by decide) fl_X3_178 rfl ?_
      refine ax_goto 84 dX3_read_76 (by decide) ?_
      refine ax_iretD dX3_read_84 rfl ⟨(by decide), (by decide)⟩ ?_ ?_
      · simp [cRd, c16, c21, c28, c46, c68]
      · simp [cRd, c16, c21, c28, c46, c68]
  · refine ax_iload dX3_read_49 rfl ?_
    refine ax_iretD dX3_read_51 rfl ⟨(by decide), (by decide)⟩ ?_ ?_
    · simp [cRd, c16, c21, c28, c46]
    · simp [cRd, c16, c21, c28, c46]
theorem ok_cwrite1 (hw : kf κ) {t r q : Nat} (ht : t < κ.1 10 0) (hr : r < κ.1 4 0) (hq : q < 8) {v : Int32} (hv : rVal v = false) : ax_Ok mX3_write yX3_write 9 2 81 [ax_r (1, 0), ax_i (nI t), ax_i (nI r), ax_i (nI q), ax_i v] (fh (ch κ) ρ) (ax_D (ax_i (-2)) (fh (ch κ) ρ)) := by
  refine ax_Ok.of (by decide) rfl (fun q => by cases q) (Nat.le_of_ble_eq_true rfl) rfl ?_
  refine ax_aload_n dX3_write_0 rfl ?_
  refine ax_iload_n dX3_write_1 rfl ?_
  refine ax_V1 cv_X3_160 dX3_write_2 ch_O rfl (ok_transactionAt hw ht) (by decide) (by decide) (by decide) (Nat.le_of_ble_eq_true rfl) ?_
  refine ax_astore dX3_write_5 rfl (by decide) ?_
  refine ax_aload_n dX3_write_7 rfl ?_
  refine ax_iload_n dX3_write_8 rfl ?_
  refine ax_V1 cv_X3_100 dX3_write_9 ch_O rfl (ok_regionAt hw hr) (by decide) (by decide) (by decide) (Nat.le_of_ble_eq_true rfl) ?_
  refine ax_astore dX3_write_12 rfl (by decide) ?_
  refine ax_aload dX3_write_14 rfl ?_
  refine ax_ifnull 31 dX3_write_16 (by decide) (fun c16 => absurd c16 (by intro z; cases z)) (fun c16 => ?_)
  refine ax_aload dX3_write_19 rfl ?_
  refine ax_ifnull 31 dX3_write_21 (by decide) (fun c21 => absurd c21 (by intro z; cases z)) (fun c21 => ?_)
  refine ax_iload_n dX3_write_24 rfl ?_
  refine ax_S1 cs_X3_146 dX3_write_25 (ok_cIsO _) (by decide) (by decide) (by decide) (Nat.le_of_ble_eq_true rfl) ?_
  refine ax_bne 33 dX3_write_28 (by decide) (fun c28 => ?_) (fun c28 => absurd c28 (by rw [isO_n _ hq]; simp))
  refine ax_iload dX3_write_33 rfl ?_
  refine ax_S1 cs_X3_184 dX3_write_35 (ok_cIsV _) (by decide) (by decide) (by decide) (Nat.le_of_ble_eq_true rfl) ?_
  refine ax_bne 44 dX3_write_38 (by decide) (fun c38 => absurd c38 (by rw [hv]; simp)) (fun c38 => ?_)
  refine ax_bipush (-2) dX3_write_41 (by decide) ?_
  refine ax_iretD dX3_write_43 rfl ⟨(by decide), (by decide)⟩ ?_ ?_
  · rfl
  · rfl
theorem ok_cwrite (hw : kf κ) {t r q : Nat} (ht : t < κ.1 10 0) (hr : r < κ.1 4 0) (hq : q < 8) {v : Int32} (hv : rVal v = true) : ax_Ok mX3_write yX3_write 9 2 81 [ax_r (1, 0), ax_i (nI t), ax_i (nI r), ax_i (nI q), ax_i v] (fh (ch κ) ρ) (ax_D (ax_i (cWt κ t r q v).1) (fh (ch (cWt κ t r q v).2) ρ)) := by
  refine ax_Ok.of (by decide) rfl (fun q => by cases q) (Nat.le_of_ble_eq_true rfl) rfl ?_
  refine ax_aload_n dX3_write_0 rfl ?_
  refine ax_iload_n dX3_write_1 rfl ?_
  refine ax_V1 cv_X3_160 dX3_write_2 ch_O rfl (ok_transactionAt hw ht) (by decide) (by decide) (by decide) (Nat.le_of_ble_eq_true rfl) ?_
  refine ax_astore dX3_write_5 rfl (by decide) ?_
  refine ax_aload_n dX3_write_7 rfl ?_
  refine ax_iload_n dX3_write_8 rfl ?_
  refine ax_V1 cv_X3_100 dX3_write_9 ch_O rfl (ok_regionAt hw hr) (by decide) (by decide) (by decide) (Nat.le_of_ble_eq_true rfl) ?_
  refine ax_astore dX3_write_12 rfl (by decide) ?_
  refine ax_aload dX3_write_14 rfl ?_
  refine ax_ifnull 31 dX3_write_16 (by decide) (fun c16 => absurd c16 (by intro z; cases z)) (fun c16 => ?_)
  refine ax_aload dX3_write_19 rfl ?_
  refine ax_ifnull 31 dX3_write_21 (by decide) (fun c21 => absurd c21 (by intro z; cases z)) (fun c21 => ?_)
  refine ax_iload_n dX3_write_24 rfl ?_
  refine ax_S1 cs_X3_146 dX3_write_25 (ok_cIsO _) (by decide) (by decide) (by decide) (Nat.le_of_ble_eq_true rfl) ?_
  refine ax_bne 33 dX3_write_28 (by decide) (fun c28 => ?_) (fun c28 => absurd c28 (by rw [isO_n _ hq]; simp))
  refine ax_iload dX3_write_33 rfl ?_
  refine ax_S1 cs_X3_184 dX3_write_35 (ok_cIsV _) (by decide) (by decide) (by decide) (Nat.le_of_ble_eq_true rfl) ?_
  refine ax_bne 44 dX3_write_38 (by decide) (fun c38 => ?_) (fun c38 => absurd c38 (by rw [hv]; simp))
  refine ax_aload_n dX3_write_44 rfl ?_
  refine ax_aload dX3_write_45 rfl ?_
  refine ax_aload dX3_write_47 rfl ?_
  refine ax_iload_n dX3_write_49 rfl ?_
  refine ax_V3 cv_X3_164 dX3_write_50 ch_O rfl (ok_accessRefusal hw ht hr hq) (by decide) (by decide) (by decide) (Nat.le_of_ble_eq_true rfl) ?_
  refine ax_istore dX3_write_53 rfl (by decide) ?_
  refine ax_iload dX3_write_55 rfl ?_
  refine ax_if_eq 63 dX3_write_57 (by decide) (fun c57 => ?_) (fun c57 => ?_)
  · refine ax_aload_n dX3_write_63 rfl ?_
    refine ax_aload dX3_write_64 rfl ?_
    refine ax_aload dX3_write_66 rfl ?_
    refine ax_iload_n dX3_write_68 rfl ?_
    refine ax_V3 cv_X3_168 dX3_write_69 ch_O rfl (ok_itemFor hw ht hr hq c57) (by decide) (by decide) (by decide) (Nat.le_of_ble_eq_true rfl) ?_
    obtain ⟨hw2, hik, e10⟩ := cIs_ok hw ht hr hq c57
    refine ax_astore dX3_write_72 rfl (by decide) ?_
    refine ax_aload dX3_write_74 rfl ?_
    refine ax_iconst (ax_b true) dX3_write_76 (by decide) ?_
    refine ax_put (ci := 1) (k := 4) (T := TX0) (ty := .boolean) dX3_write_77 (ch_I (by assumption)) rfl (by decide) (Nat.le_of_ble_eq_true rfl) fl_X3_172 rfl (by decide +kernel) (fun _ => rfl) (fun _ => rfl) rfl ?_
    refine ax_aload dX3_write_80 rfl ?_
    refine ax_iload dX3_write_82 rfl ?_
    refine ax_put (ci := 1) (k := 5) (T := TX0) (ty := .int) dX3_write_84 ax_up_s rfl (by decide) (Nat.le_of_ble_eq_true rfl) fl_X3_178 rfl (by decide +kernel) (fun _ => rfl) (fun _ => rfl) (ax_up_up.trans (cu_wr hw2 hik)) ?_
    have hw3 : kf (cWs κ t r q v) := kf_wr hw2 hik
    have ht3 : t < (cWs κ t r q v).1 10 0 := by show t < (cIs κ t r q).1 10 0; rw [e10]; exact ht
    refine ax_hq (h2 := fh (ch (cWs κ t r q v)) ρ) rfl ?_
    refine ax_aload dX3_write_87 rfl ?_
    refine ax_V0 cv_X3_187 dX3_write_89 (ch_T ht3) rfl (ok_writeCount hw3 ht3) (by decide) (by decide) (by decide) (Nat.le_of_ble_eq_true rfl) ?_
    refine ax_iretD dX3_write_92 rfl ⟨(by decide), (by decide)⟩ ?_ ?_
    · simp [cWt, c16, c21, c28, c38, c57]
    · simp [cWt, c16, c21, c28, c38, c57]
  · refine ax_iload dX3_write_60 rfl ?_
    refine ax_iretD dX3_write_62 rfl ⟨(by decide), (by decide)⟩ ?_ ?_
    · simp [cWt, c16, c21, c28, c38, c57]
    · simp [cWt, c16, c21, c28, c38, c57]
end CLS7
