section CLS4
variable {κ ρ : ax_R}
theorem nu_nu {k j v w : Nat} : nu (nu κ k j v) k j w = nu κ k j w := by
  refine Prod.ext ?_ rfl
  funext a i
  by_cases e : a = k ∧ i = j <;> simp [nu, e]
theorem nu_self {k j : Nat} : nu κ k j (κ.1 k j) = κ := by
  refine Prod.ext ?_ rfl
  funext a i
  by_cases e : a = k ∧ i = j
  · obtain ⟨rfl, rfl⟩ := e; simp [nu]
  · simp [nu, e]
theorem b_or : ∀ a, a < 64 → ∀ s, s < 6 → ∀ x, x < 6 → decide ((a ||| 2 ^ s) / 2 ^ x % 2 = 1) = if x = s then true else decide (a / 2 ^ x % 2 = 1) := by decide +kernel
theorem cu_dor (hw : kf κ) {k s : Nat} (hik : ik κ k) (hs : s < κ.1 5 (κ.1 18 k)) : ax_up (fh (ch κ) ρ) (9, k) (ax_o 1 ((fI κ k).set 7 (ax_i (nI (mk (fun m => pm κ (κ.1 18 k) (dn κ k) m || decide (m = κ.1 6 (6 * κ.1 18 k + s)))))))) = fh (ch (nu κ 24 k (κ.1 24 k ||| 2 ^ s))) ρ := by
  have h6 := hw.c6 (κ.1 18 k)
  have e : pm κ (κ.1 18 k) (dn (nu κ 24 k (κ.1 24 k ||| 2 ^ s)) k) = fun m => pm κ (κ.1 18 k) (dn κ k) m || decide (m = κ.1 6 (6 * κ.1 18 k + s)) := by
    rw [pm_co (Q := fun x => if x = s then true else dn κ k x) (fun x hx => by simp only [dn, nu]; rw [if_pos ⟨trivial, trivial⟩]; exact b_or _ (hw.d6 k) s (by omega) x (by omega)), pm_set hw hs]
    funext m
    by_cases q : m = κ.1 6 (6 * κ.1 18 k + s) <;> simp [q]
  rw [← e]
  exact cu_do hw hik
theorem kf_dor (hw : kf κ) {k s : Nat} (hik : ik κ k) (hs : s < κ.1 5 (κ.1 18 k)) : kf (nu κ 24 k (κ.1 24 k ||| 2 ^ s)) := by
  have h6 := hw.c6 (κ.1 18 k)
  refine kf_do hw hik (or64 (hw.d6 k) (by omega)) (fun x h1 h2 => ?_)
  rw [b_or _ (hw.d6 k) s (by omega) x h2, if_neg (by omega)]
  exact (hw.rd k x h1 h2).2
theorem cu_ror (hw : kf κ) {k s : Nat} (hik : ik κ k) (hs : s < κ.1 5 (κ.1 18 k)) : ax_up (fh (ch κ) ρ) (9, k) (ax_o 1 ((fI κ k).set 6 (ax_i (nI (mk (fun m => pm κ (κ.1 18 k) (fun s => κ.2.1 41 (6 * k + s)) m || decide (m = κ.1 6 (6 * κ.1 18 k + s)))))))) = fh (ch (bu κ 41 (6 * k + s) true)) ρ := by
  have h6 := hw.c6 (κ.1 18 k)
  have e : pm κ (κ.1 18 k) (fun y => if y = s then true else κ.2.1 41 (6 * k + y)) = fun m => pm κ (κ.1 18 k) (fun s => κ.2.1 41 (6 * k + s)) m || decide (m = κ.1 6 (6 * κ.1 18 k + s)) := by
    rw [pm_set hw hs]
    funext m
    by_cases q : m = κ.1 6 (6 * κ.1 18 k + s) <;> simp [q]
  rw [← e]
  exact cu_re hw hik (by omega)
theorem cu_rand (hw : kf κ) {k s : Nat} (hik : ik κ k) (hs : s < κ.1 5 (κ.1 18 k)) : ax_up (fh (ch κ) ρ) (9, k) (ax_o 1 ((fI κ k).set 6 (ax_i (nI (mk (fun m => pm κ (κ.1 18 k) (fun s => κ.2.1 41 (6 * k + s)) m && !decide (m = κ.1 6 (6 * κ.1 18 k + s)))))))) = fh (ch (bu κ 41 (6 * k + s) false)) ρ := by
  have h6 := hw.c6 (κ.1 18 k)
  have e : pm κ (κ.1 18 k) (fun y => if y = s then false else κ.2.1 41 (6 * k + y)) = fun m => pm κ (κ.1 18 k) (fun s => κ.2.1 41 (6 * k + s)) m && !decide (m = κ.1 6 (6 * κ.1 18 k + s)) := by
    rw [pm_set hw hs]
    funext m
    by_cases q : m = κ.1 6 (6 * κ.1 18 k + s) <;> simp [q]
  rw [← e]
  exact cu_re hw hik (by omega)
/-- what an act does to the class's state; s is the slot of its machine -/
def cActX (κ : ax_R) (t k s : Nat) : ax_R := match κ.1 12 t with
  | 1 => if cTk κ k s = true then nu (nu κ 12 t 6) 44 t 0 else ru κ 9 (8 * κ.1 18 k + κ.1 19 k) (nI t)
  | 2 => if cTk κ k s = true then nu (nu κ 12 t 6) 44 t 0 else κ
  | 3 => bu κ 41 (6 * k + s) true
  | 4 => bu (nu (ru (cPu κ (κ.1 18 k) s (κ.1 19 k) (κ.2.2 23 k) (κ.1 21 k + 1)) 9 (8 * κ.1 18 k + κ.1 19 k) (-9)) 24 k (κ.1 24 k ||| 2 ^ s)) 15 t true
  | 5 => nu (bu (cRz κ (κ.1 18 k) s (κ.1 19 k) (κ.2.2 23 k) (κ.1 21 k + 1)) 41 (6 * k + s) false) 24 k (κ.1 24 k ||| 2 ^ s)
  | _ => ru κ 9 (8 * κ.1 18 k + κ.1 19 k) (-9)
theorem ok_rzT (hw : kf κ) {r s q n : Nat} {v : Int32} (hr : r < κ.1 4 0) (hs : s < κ.1 5 r) (hq : q < 8) (hn : n < 1000000) (hc : κ.1 8 (8 * (6 * r + s) + q) < n) : ax_Ok mX1_raise yX1_raise 2 0 0 [ax_r (3, r), ax_i (nI (κ.1 6 (6 * r + s) * 8 + q)), ax_i v, ax_i (nI n)] (fh (ch κ) ρ) (ax_DV (fh (ch (cPu κ r s q v n)) ρ)) := by
  have := ok_raise (ρ := ρ) (v := v) hw hr hs hq hn
  rwa [cRz, if_pos hc] at this
theorem ok_rzF (hw : kf κ) {r s q n : Nat} {v : Int32} (hr : r < κ.1 4 0) (hs : s < κ.1 5 r) (hq : q < 8) (hn : n < 1000000) (hc : ¬ κ.1 8 (8 * (6 * r + s) + q) < n) : ax_Ok mX1_raise yX1_raise 2 0 0 [ax_r (3, r), ax_i (nI (κ.1 6 (6 * r + s) * 8 + q)), ax_i v, ax_i (nI n)] (fh (ch κ) ρ) (ax_DV (fh (ch κ) ρ)) := by
  have := ok_raise (ρ := ρ) (v := v) hw hr hs hq hn
  rwa [cRz, if_neg hc] at this
theorem ok_cact (hw : kf κ) {t k s : Nat} (ht : t < κ.1 10 0) (hik : ik κ k) (hs : s < κ.1 5 (κ.1 18 k)) (h16 : 1 ≤ κ.1 12 t ∧ κ.1 12 t ≤ 6) (hwr : κ.1 12 t = 4 ∨ κ.1 12 t = 5 → κ.2.1 22 k = true) (hv : κ.1 21 k + 1 < 1000000) : ax_Ok mX3_act yX3_act 3 0 0 [ax_r (1, 0), ax_r (8, t), ax_r (9, k), ax_i (nI (κ.1 6 (6 * κ.1 18 k + s)))] (fh (ch κ) ρ) (ax_DV (fh (ch (cActX κ t k s)) ρ)) := by
  refine ax_Ok.of (by decide) rfl (fun q => by cases q) (Nat.le_of_ble_eq_true rfl) rfl ?_
  have hir := ik.r hw hik
  have h5 := hw.c6 (κ.1 18 k)
  have hc : κ.1 12 t = 1 ∨ κ.1 12 t = 2 ∨ κ.1 12 t = 3 ∨ κ.1 12 t = 4 ∨ κ.1 12 t = 5 ∨ κ.1 12 t = 6 := by omega
  rcases hc with hph | hph | hph | hph | hph | hph
  · skip
    refine ax_iload_n dX3_act_0 rfl ?_
    refine ax_aload_n dX3_act_1 rfl ?_
    refine ax_get (ci := 1) (k := 1) (T := TX0) dX3_act_2 (ch_I (by assumption)) rfl (by decide) fl_X3_222 rfl ?_
    refine ax_S2 cs_X3_122 dX3_act_5 (ok_ccell) (by decide) (Nat.le_refl _) (Nat.le_refl _) (Nat.le_of_ble_eq_true rfl) ?_
    refine ax_istore dX3_act_8 rfl (by decide) ?_
    refine ax_aload_n dX3_act_10 rfl ?_
    refine ax_get (ci := 3) (k := 3) (T := TX2) dX3_act_11 (ch_T (by assumption)) rfl (by decide) fl_X3_83 rfl ?_
    · refine ax_tin 52 dX3_act_14 (by rw [hph]; decide) (by rw [hph]; decide) (by rw [hph]; rfl) (by decide) ?_
      refine ax_aload_n dX3_act_52 rfl ?_
      refine ax_iload dX3_act_53 rfl ?_
      refine ax_S2 cs_X3_290 dX3_act_55 (ok_isTaken hw hik hs) (by decide) (Nat.le_refl _) (Nat.le_refl _) (Nat.le_of_ble_eq_true rfl) ?_
      refine ax_beq 70 dX3_act_58 (by decide) (fun c58 => ?_) (fun c58 => ?_)
      · refine ax_aload_n dX3_act_70 rfl ?_
        refine ax_get (ci := 1) (k := 0) (T := TX0) dX3_act_71 (ch_I (by assumption)) rfl (by decide) fl_X3_218 rfl ?_
        refine ax_get (ci := 2) (k := 6) (T := TX1) dX3_act_74 (ch_R (by first | assumption | exact ik.r hw (by assumption))) rfl (by decide) fl_X3_149 rfl ?_
        refine ax_aload_n dX3_act_77 rfl ?_
        refine ax_get (ci := 1) (k := 1) (T := TX0) dX3_act_78 (ch_I (by assumption)) rfl (by decide) fl_X3_222 rfl ?_
        refine ax_aload_n dX3_act_81 rfl ?_
        refine ax_get (ci := 3) (k := 0) (T := TX2) dX3_act_82 (ch_T (by assumption)) rfl (by decide) fl_X3_159 rfl ?_
        refine ct_lk dX3_act_85 (by first | assumption | exact ik.r hw (by assumption)) (by first | omega | exact hw.o8 _) ?_
        refine ax_goto 240 dX3_act_86 (by decide) ?_
        refine ax_vretD dX3_act_240 rfl ⟨(Nat.le_refl _), (Nat.le_refl _)⟩ ?_
        exact congrArg (fun x => fh (ch x) ρ) (by simp [cActX, hph, c58])
      · refine ax_aload_n dX3_act_61 rfl ?_
        refine ax_bipush (nI 6) dX3_act_62 (by decide) ?_
        refine ax_V1v cv_X3_89 dX3_act_64 (ch_T (by assumption)) rfl (ok_enter ht) (by decide) (Nat.le_refl _) (Nat.le_refl _) (Nat.le_of_ble_eq_true rfl) ?_
        refine ax_goto 240 dX3_act_67 (by decide) ?_
        refine ax_vretD dX3_act_240 rfl ⟨(Nat.le_refl _), (Nat.le_refl _)⟩ ?_
        exact congrArg (fun x => fh (ch x) ρ) (by simp [cActX, hph, c58])
  · skip
    refine ax_iload_n dX3_act_0 rfl ?_
    refine ax_aload_n dX3_act_1 rfl ?_
    refine ax_get (ci := 1) (k := 1) (T := TX0) dX3_act_2 (ch_I (by assumption)) rfl (by decide) fl_X3_222 rfl ?_
    refine ax_S2 cs_X3_122 dX3_act_5 (ok_ccell) (by decide) (Nat.le_refl _) (Nat.le_refl _) (Nat.le_of_ble_eq_true rfl) ?_
    refine ax_istore dX3_act_8 rfl (by decide) ?_
    refine ax_aload_n dX3_act_10 rfl ?_
    refine ax_get (ci := 3) (k := 3) (T := TX2) dX3_act_11 (ch_T (by assumption)) rfl (by decide) fl_X3_83 rfl ?_
    · refine ax_tin 89 dX3_act_14 (by rw [hph]; decide) (by rw [hph]; decide) (by rw [hph]; rfl) (by decide) ?_
      refine ax_aload_n dX3_act_89 rfl ?_
      refine ax_iload dX3_act_90 rfl ?_
      refine ax_S2 cs_X3_290 dX3_act_92 (ok_isTaken hw hik hs) (by decide) (Nat.le_refl _) (Nat.le_refl _) (Nat.le_of_ble_eq_true rfl) ?_
      refine ax_beq 240 dX3_act_95 (by decide) (fun c95 => ?_) (fun c95 => ?_)
      · refine ax_vretD dX3_act_240 rfl ⟨(Nat.le_refl _), (Nat.le_refl _)⟩ ?_
        exact congrArg (fun x => fh (ch x) ρ) (by simp [cActX, hph, c95])
      · refine ax_aload_n dX3_act_98 rfl ?_
        refine ax_bipush (nI 6) dX3_act_99 (by decide) ?_
        refine ax_V1v cv_X3_89 dX3_act_101 (ch_T (by assumption)) rfl (ok_enter ht) (by decide) (Nat.le_refl _) (Nat.le_refl _) (Nat.le_of_ble_eq_true rfl) ?_
        refine ax_goto 240 dX3_act_104 (by decide) ?_
        refine ax_vretD dX3_act_240 rfl ⟨(Nat.le_refl _), (Nat.le_refl _)⟩ ?_
        exact congrArg (fun x => fh (ch x) ρ) (by simp [cActX, hph, c95])
  · skip
    refine ax_iload_n dX3_act_0 rfl ?_
    refine ax_aload_n dX3_act_1 rfl ?_
    refine ax_get (ci := 1) (k := 1) (T := TX0) dX3_act_2 (ch_I (by assumption)) rfl (by decide) fl_X3_222 rfl ?_
    refine ax_S2 cs_X3_122 dX3_act_5 (ok_ccell) (by decide) (Nat.le_refl _) (Nat.le_refl _) (Nat.le_of_ble_eq_true rfl) ?_
    refine ax_istore dX3_act_8 rfl (by decide) ?_
    refine ax_aload_n dX3_act_10 rfl ?_
    refine ax_get (ci := 3) (k := 3) (T := TX2) dX3_act_11 (ch_T (by assumption)) rfl (by decide) fl_X3_83 rfl ?_
    · refine ax_tin 107 dX3_act_14 (by rw [hph]; decide) (by rw [hph]; decide) (by rw [hph]; rfl) (by decide) ?_
      refine ax_aload_n dX3_act_107 rfl ?_
      refine ax_dup dX3_act_108 rfl ?_
      refine ax_get (ci := 1) (k := 6) (T := TX0) dX3_act_109 (ch_I (by assumption)) rfl (by decide) fl_X3_267 rfl ?_
      refine ax_iload_n dX3_act_112 rfl ?_
      refine ax_S1 cs_X3_68 dX3_act_113 (ok_cbit (by first | omega | exact hw.m6 _)) (by decide) (Nat.le_refl _) (Nat.le_refl _) (Nat.le_of_ble_eq_true rfl) ?_
      refine ax_ior (nI (mk (fun m => pm κ (κ.1 18 k) (fun s => κ.2.1 41 (6 * k + s)) m || decide (m = κ.1 6 (6 * κ.1 18 k + s))))) dX3_act_116 (k_or _ _) ?_
      refine ax_put (ci := 1) (k := 6) (T := TX0) (ty := .int) dX3_act_117 (ch_I (by assumption)) rfl (by decide) (Nat.le_of_ble_eq_true rfl) fl_X3_267 rfl (by decide +kernel) (fun _ => rfl) (fun _ => rfl) (cu_ror hw hik hs) ?_
      refine ax_goto 240 dX3_act_120 (by decide) ?_
      refine ax_vretD dX3_act_240 rfl ⟨(Nat.le_refl _), (Nat.le_refl _)⟩ ?_
      exact congrArg (fun x => fh (ch x) ρ) (by simp [cActX, hph, ])
  · have hwr := hwr (Or.inl hph)
    refine ax_iload_n dX3_act_0 rfl ?_
    refine ax_aload_n dX3_act_1 rfl ?_
    refine ax_get (ci := 1) (k := 1) (T := TX0) dX3_act_2 (ch_I (by assumption)) rfl (by decide) fl_X3_222 rfl ?_
    refine ax_S2 cs_X3_122 dX3_act_5 (ok_ccell) (by decide) (Nat.le_refl _) (Nat.le_refl _) (Nat.le_of_ble_eq_true rfl) ?_
    refine ax_istore dX3_act_8 rfl (by decide) ?_
    refine ax_aload_n dX3_act_10 rfl ?_
    refine ax_get (ci := 3) (k := 3) (T := TX2) dX3_act_11 (ch_T (by assumption)) rfl (by decide) fl_X3_83 rfl ?_
    · refine ax_tin 123 dX3_act_14 (by rw [hph]; decide) (by rw [hph]; decide) (by rw [hph]; rfl) (by decide) ?_
      refine ax_aload_n dX3_act_123 rfl ?_
      refine ax_get (ci := 1) (k := 0) (T := TX0) dX3_act_124 (ch_I (by assumption)) rfl (by decide) fl_X3_218 rfl ?_
      refine ax_iload dX3_act_127 rfl ?_
      refine ax_aload_n dX3_act_129 rfl ?_
      refine ax_get (ci := 1) (k := 5) (T := TX0) dX3_act_130 (ch_I (by assumption)) rfl (by decide) fl_X3_178 rfl ?_
      rw [if_pos hwr]
      refine ax_aload_n dX3_act_133 rfl ?_
      refine ax_V0 cv_X3_294 dX3_act_134 (ch_I (by assumption)) rfl (ok_newVersion (by assumption)) (by decide) (Nat.le_refl _) (Nat.le_refl _) (Nat.le_of_ble_eq_true rfl) ?_
      refine ax_V3v cv_X3_132 dX3_act_137 (ch_R (by first | assumption | exact ik.r hw (by assumption))) rfl (ok_put hw hir hs (hw.o8 _)) (by decide) (Nat.le_refl _) (Nat.le_refl _) (Nat.le_of_ble_eq_true rfl) ?_
      have hw1 := kf_pu (v := κ.2.2 23 k) hw hs (hw.o8 k) hv
      refine ax_aload_n dX3_act_140 rfl ?_
      refine ax_get (ci := 1) (k := 0) (T := TX0) dX3_act_141 (ch_I (by assumption)) rfl (by decide) fl_X3_218 rfl ?_
      refine ax_get (ci := 2) (k := 6) (T := TX1) dX3_act_144 (ch_R (by first | assumption | exact ik.r hw (by assumption))) rfl (by decide) fl_X3_149 rfl ?_
      refine ax_aload_n dX3_act_147 rfl ?_
      refine ax_get (ci := 1) (k := 1) (T := TX0) dX3_act_148 (ch_I (by assumption)) rfl (by decide) fl_X3_222 rfl ?_
      refine ax_bipush (-9) dX3_act_151 (by decide) ?_
      refine ct_lk dX3_act_153 (by first | assumption | exact ik.r hw (by assumption)) (by first | omega | exact hw.o8 _) ?_
      have hw2 := kf_lk (v := -9) (r := κ.1 18 k) (q := κ.1 19 k) hw1 hir (hw.o8 k)
      refine ax_aload_n dX3_act_154 rfl ?_
      refine ax_dup dX3_act_155 rfl ?_
      refine ax_get (ci := 1) (k := 7) (T := TX0) dX3_act_156 (ch_I (by assumption)) rfl (by decide) fl_X3_297 rfl ?_
      refine ax_iload_n dX3_act_159 rfl ?_
      refine ax_S1 cs_X3_68 dX3_act_160 (ok_cbit (by first | omega | exact hw.m6 _)) (by decide) (Nat.le_refl _) (Nat.le_refl _) (Nat.le_of_ble_eq_true rfl) ?_
      refine ax_ior (nI (mk (fun m => pm κ (κ.1 18 k) (dn κ k) m || decide (m = κ.1 6 (6 * κ.1 18 k + s))))) dX3_act_163 (k_or _ _) ?_
      refine ax_put (ci := 1) (k := 7) (T := TX0) (ty := .int) dX3_act_164 (ch_I (by assumption)) rfl (by decide) (Nat.le_of_ble_eq_true rfl) fl_X3_297 rfl (by decide +kernel) (fun _ => rfl) (fun _ => rfl) (cu_dor hw2 hik hs) ?_
      refine ax_aload_n dX3_act_167 rfl ?_
      refine ax_iconst (ax_b true) dX3_act_168 (by decide) ?_
      refine ax_put (ci := 3) (k := 6) (T := TX2) (ty := .boolean) dX3_act_169 (ch_T (by assumption)) rfl (by decide) (Nat.le_of_ble_eq_true rfl) fl_X3_208 rfl (by decide +kernel) (fun _ => rfl) (fun _ => rfl) (cu_dc (by assumption)) ?_
      refine ax_goto 240 dX3_act_172 (by decide) ?_
      refine ax_vretD dX3_act_240 rfl ⟨(Nat.le_refl _), (Nat.le_refl _)⟩ ?_
      exact congrArg (fun x => fh (ch x) ρ) (by simp only [cActX, hph]; rfl)
  · have hwr := hwr (Or.inr hph)
    by_cases hc : κ.1 8 (8 * (6 * κ.1 18 k + s) + κ.1 19 k) < κ.1 21 k + 1
    · skip
      refine ax_iload_n dX3_act_0 rfl ?_
      refine ax_aload_n dX3_act_1 rfl ?_
      refine ax_get (ci := 1) (k := 1) (T := TX0) dX3_act_2 (ch_I (by assumption)) rfl (by decide) fl_X3_222 rfl ?_
      refine ax_S2 cs_X3_122 dX3_act_5 (ok_ccell) (by decide) (Nat.le_refl _) (Nat.le_refl _) (Nat.le_of_ble_eq_true rfl) ?_
      refine ax_istore dX3_act_8 rfl (by decide) ?_
      refine ax_aload_n dX3_act_10 rfl ?_
      refine ax_get (ci := 3) (k := 3) (T := TX2) dX3_act_11 (ch_T (by assumption)) rfl (by decide) fl_X3_83 rfl ?_
      · refine ax_tin 175 dX3_act_14 (by rw [hph]; decide) (by rw [hph]; decide) (by rw [hph]; rfl) (by decide) ?_
        refine ax_aload_n dX3_act_175 rfl ?_
        refine ax_get (ci := 1) (k := 0) (T := TX0) dX3_act_176 (ch_I (by assumption)) rfl (by decide) fl_X3_218 rfl ?_
        refine ax_iload dX3_act_179 rfl ?_
        refine ax_aload_n dX3_act_181 rfl ?_
        refine ax_get (ci := 1) (k := 5) (T := TX0) dX3_act_182 (ch_I (by assumption)) rfl (by decide) fl_X3_178 rfl ?_
        rw [if_pos hwr]
        refine ax_aload_n dX3_act_185 rfl ?_
        refine ax_V0 cv_X3_294 dX3_act_186 (ch_I (by assumption)) rfl (ok_newVersion (by assumption)) (by decide) (Nat.le_refl _) (Nat.le_refl _) (Nat.le_of_ble_eq_true rfl) ?_
        refine ax_V3v cv_X3_300 dX3_act_189 (ch_R (by first | assumption | exact ik.r hw (by assumption))) rfl (ok_rzT hw hir hs (hw.o8 _) hv hc) (by decide) (Nat.le_refl _) (Nat.le_refl _) (Nat.le_of_ble_eq_true rfl) ?_
        have hw1 : kf (cPu κ (κ.1 18 k) s (κ.1 19 k) (κ.2.2 23 k) (κ.1 21 k + 1)) := kf_pu hw hs (hw.o8 k) hv
        refine ax_aload_n dX3_act_192 rfl ?_
        refine ax_dup dX3_act_193 rfl ?_
        refine ax_get (ci := 1) (k := 6) (T := TX0) dX3_act_194 (ch_I (by assumption)) rfl (by decide) fl_X3_267 rfl ?_
        refine ax_iload_n dX3_act_197 rfl ?_
        refine ax_S1 cs_X3_68 dX3_act_198 (ok_cbit (by first | omega | exact hw.m6 _)) (by decide) (Nat.le_refl _) (Nat.le_refl _) (Nat.le_of_ble_eq_true rfl) ?_
        refine ax_iconst (-1) dX3_act_201 (by decide) ?_
        refine ax_ixor (nI (mk (fun x => decide (x = κ.1 6 (6 * κ.1 18 k + s)))) ^^^ -1) dX3_act_202 (rfl) ?_
        refine ax_iand (nI (mk (fun m => pm κ (κ.1 18 k) (fun s => κ.2.1 41 (6 * k + s)) m && !decide (m = κ.1 6 (6 * κ.1 18 k + s))))) dX3_act_203 (k_nt _ _) ?_
        refine ax_put (ci := 1) (k := 6) (T := TX0) (ty := .int) dX3_act_204 (ch_I (by assumption)) rfl (by decide) (Nat.le_of_ble_eq_true rfl) fl_X3_267 rfl (by decide +kernel) (fun _ => rfl) (fun _ => rfl) (cu_rand hw1 hik hs) ?_
        have hw2 := kf_re (b := false) hw1 hik hs
        refine ax_aload_n dX3_act_207 rfl ?_
        refine ax_dup dX3_act_208 rfl ?_
        refine ax_get (ci := 1) (k := 7) (T := TX0) dX3_act_209 (ch_I (by assumption)) rfl (by decide) fl_X3_297 rfl ?_
        refine ax_iload_n dX3_act_212 rfl ?_
        refine ax_S1 cs_X3_68 dX3_act_213 (ok_cbit (by first | omega | exact hw.m6 _)) (by decide) (Nat.le_refl _) (Nat.le_refl _) (Nat.le_of_ble_eq_true rfl) ?_
        refine ax_ior (nI (mk (fun m => pm κ (κ.1 18 k) (dn κ k) m || decide (m = κ.1 6 (6 * κ.1 18 k + s))))) dX3_act_216 (k_or _ _) ?_
        refine ax_put (ci := 1) (k := 7) (T := TX0) (ty := .int) dX3_act_217 (ch_I (by assumption)) rfl (by decide) (Nat.le_of_ble_eq_true rfl) fl_X3_297 rfl (by decide +kernel) (fun _ => rfl) (fun _ => rfl) (cu_dor hw2 hik hs) ?_
        refine ax_goto 240 dX3_act_220 (by decide) ?_
        refine ax_vretD dX3_act_240 rfl ⟨(Nat.le_refl _), (Nat.le_refl _)⟩ ?_
        exact congrArg (fun x => fh (ch x) ρ) (by simp only [cActX, hph, cRz]; rw [if_pos hc]; rfl)
    · skip
      refine ax_iload_n dX3_act_0 rfl ?_
      refine ax_aload_n dX3_act_1 rfl ?_
      refine ax_get (ci := 1) (k := 1) (T := TX0) dX3_act_2 (ch_I (by assumption)) rfl (by decide) fl_X3_222 rfl ?_
      refine ax_S2 cs_X3_122 dX3_act_5 (ok_ccell) (by decide) (Nat.le_refl _) (Nat.le_refl _) (Nat.le_of_ble_eq_true rfl) ?_
      refine ax_istore dX3_act_8 rfl (by decide) ?_
      refine ax_aload_n dX3_act_10 rfl ?_
      refine ax_get (ci := 3) (k := 3) (T := TX2) dX3_act_11 (ch_T (by assumption)) rfl (by decide) fl_X3_83 rfl ?_
      · refine ax_tin 175 dX3_act_14 (by rw [hph]; decide) (by rw [hph]; decide) (by rw [hph]; rfl) (by decide) ?_
        refine ax_aload_n dX3_act_175 rfl ?_
        refine ax_get (ci := 1) (k := 0) (T := TX0) dX3_act_176 (ch_I (by assumption)) rfl (by decide) fl_X3_218 rfl ?_
        refine ax_iload dX3_act_179 rfl ?_
        refine ax_aload_n dX3_act_181 rfl ?_
        refine ax_get (ci := 1) (k := 5) (T := TX0) dX3_act_182 (ch_I (by assumption)) rfl (by decide) fl_X3_178 rfl ?_
        rw [if_pos hwr]
        refine ax_aload_n dX3_act_185 rfl ?_
        refine ax_V0 cv_X3_294 dX3_act_186 (ch_I (by assumption)) rfl (ok_newVersion (by assumption)) (by decide) (Nat.le_refl _) (Nat.le_refl _) (Nat.le_of_ble_eq_true rfl) ?_
        refine ax_V3v cv_X3_300 dX3_act_189 (ch_R (by first | assumption | exact ik.r hw (by assumption))) rfl (ok_rzF hw hir hs (hw.o8 _) hv hc) (by decide) (Nat.le_refl _) (Nat.le_refl _) (Nat.le_of_ble_eq_true rfl) ?_
        have hw1 : kf κ := hw
        refine ax_aload_n dX3_act_192 rfl ?_
        refine ax_dup dX3_act_193 rfl ?_
        refine ax_get (ci := 1) (k := 6) (T := TX0) dX3_act_194 (ch_I (by assumption)) rfl (by decide) fl_X3_267 rfl ?_
        refine ax_iload_n dX3_act_197 rfl ?_
        refine ax_S1 cs_X3_68 dX3_act_198 (ok_cbit (by first | omega | exact hw.m6 _)) (by decide) (Nat.le_refl _) (Nat.le_refl _) (Nat.le_of_ble_eq_true rfl) ?_
        refine ax_iconst (-1) dX3_act_201 (by decide) ?_
        refine ax_ixor (nI (mk (fun x => decide (x = κ.1 6 (6 * κ.1 18 k + s)))) ^^^ -1) dX3_act_202 (rfl) ?_
        refine ax_iand (nI (mk (fun m => pm κ (κ.1 18 k) (fun s => κ.2.1 41 (6 * k + s)) m && !decide (m = κ.1 6 (6 * κ.1 18 k + s))))) dX3_act_203 (k_nt _ _) ?_
        refine ax_put (ci := 1) (k := 6) (T := TX0) (ty := .int) dX3_act_204 (ch_I (by assumption)) rfl (by decide) (Nat.le_of_ble_eq_true rfl) fl_X3_267 rfl (by decide +kernel) (fun _ => rfl) (fun _ => rfl) (cu_rand hw1 hik hs) ?_
        have hw2 := kf_re (b := false) hw1 hik hs
        refine ax_aload_n dX3_act_207 rfl ?_
        refine ax_dup dX3_act_208 rfl ?_
        refine ax_get (ci := 1) (k := 7) (T := TX0) dX3_act_209 (ch_I (by assumption)) rfl (by decide) fl_X3_297 rfl ?_
        refine ax_iload_n dX3_act_212 rfl ?_
        refine ax_S1 cs_X3_68 dX3_act_213 (ok_cbit (by first | omega | exact hw.m6 _)) (by decide) (Nat.le_refl _) (Nat.le_refl _) (Nat.le_of_ble_eq_true rfl) ?_
        refine ax_ior (nI (mk (fun m => pm κ (κ.1 18 k) (dn κ k) m || decide (m = κ.1 6 (6 * κ.1 18 k + s))))) dX3_act_216 (k_or _ _) ?_
        refine ax_put (ci := 1) (k := 7) (T := TX0) (ty := .int) dX3_act_217 (ch_I (by assumption)) rfl (by decide) (Nat.le_of_ble_eq_true rfl) fl_X3_297 rfl (by decide +kernel) (fun _ => rfl) (fun _ => rfl) (cu_dor hw2 hik hs) ?_
        refine ax_goto 240 dX3_act_220 (by decide) ?_
        refine ax_vretD dX3_act_240 rfl ⟨(Nat.le_refl _), (Nat.le_refl _)⟩ ?_
        exact congrArg (fun x => fh (ch x) ρ) (by simp only [cActX, hph, cRz]; rw [if_neg hc]; rfl)
  · skip
    refine ax_iload_n dX3_act_0 rfl ?_
    refine ax_aload_n dX3_act_1 rfl ?_
    refine ax_get (ci := 1) (k := 1) (T := TX0) dX3_act_2 (ch_I (by assumption)) rfl (by decide) fl_X3_222 rfl ?_
    refine ax_S2 cs_X3_122 dX3_act_5 (ok_ccell) (by decide) (Nat.le_refl _) (Nat.le_refl _) (Nat.le_of_ble_eq_true rfl) ?_
    refine ax_istore dX3_act_8 rfl (by decide) ?_
    refine ax_aload_n dX3_act_10 rfl ?_
    refine ax_get (ci := 3) (k := 3) (T := TX2) dX3_act_11 (ch_T (by assumption)) rfl (by decide) fl_X3_83 rfl ?_
    · refine ax_tin 223 dX3_act_14 (by rw [hph]; decide) (by rw [hph]; decide) (by rw [hph]; rfl) (by decide) ?_
      refine ax_aload_n dX3_act_223 rfl ?_
      refine ax_get (ci := 1) (k := 0) (T := TX0) dX3_act_224 (ch_I (by assumption)) rfl (by decide) fl_X3_218 rfl ?_
      refine ax_get (ci := 2) (k := 6) (T := TX1) dX3_act_227 (ch_R (by first | assumption | exact ik.r hw (by assumption))) rfl (by decide) fl_X3_149 rfl ?_
      refine ax_aload_n dX3_act_230 rfl ?_
      refine ax_get (ci := 1) (k := 1) (T := TX0) dX3_act_231 (ch_I (by assumption)) rfl (by decide) fl_X3_222 rfl ?_
      refine ax_bipush (-9) dX3_act_234 (by decide) ?_
      refine ct_lk dX3_act_236 (by first | assumption | exact ik.r hw (by assumption)) (by first | omega | exact hw.o8 _) ?_
      refine ax_goto 240 dX3_act_237 (by decide) ?_
      refine ax_vretD dX3_act_240 rfl ⟨(Nat.le_refl _), (Nat.le_refl _)⟩ ?_
      exact congrArg (fun x => fh (ch x) ρ) (by simp [cActX, hph, ])
def cNp (κ : ax_R) (t j : Nat) : Bool := cHa κ t (8 * t + j / 6) (j % 6)
def cNx (κ : ax_R) (t : Nat) : Option Nat := (List.range' (κ.1 44 t) (κ.1 14 t * 6 - κ.1 44 t)).find? (cNp κ t)
theorem lp_find (hw : kf κ) {t : Nat} (ht : t < κ.1 10 0) (h16 : 1 ≤ κ.1 12 t ∧ κ.1 12 t ≤ 6) : ∀ (m : Nat) (j : Nat) (V : Option Nat), j + m = κ.1 14 t * 6 → (List.range' j m).find? (cNp κ t) = V → ax_Z mX3_findNextAct 5 0 0 (ax_D (ax_i (ax_b V.isSome)) (fh (ch (nu κ 44 t (V.getD (κ.1 14 t * 6)))) ρ)) 5 [some (ax_r (1, 0)), some (ax_r (8, t)), some (ax_i (nI (κ.1 14 t * 6))), none] [] (fh (ch (nu κ 44 t j)) ρ) 0 0 := by
  intro m
  induction m with
  | zero =>
    intro j V hk hV
    have h8 := hw.i8 t
    refine ax_aload_n dX3_findNextAct_5 rfl ?_
    refine ax_get (ci := 3) (k := 4) (T := TX2) dX3_findNextAct_6 (ch_T (by assumption)) rfl (by decide) fl_X3_273 rfl ?_
    rw [nu_s]
    refine ax_iload_n dX3_findNextAct_9 rfl ?_
    refine ax_nge 57 dX3_findNextAct_10 (by decide) (by omega) (by omega) (fun c10 => ?_) (fun c10 => absurd c10 (by omega))
    refine ax_iconst (ax_b false) dX3_findNextAct_57 (by decide) ?_
    refine ax_bret dX3_findNextAct_58 rfl ⟨(Nat.le_refl _), (Nat.le_refl _)⟩ ?_ ?_
    · rw [ls_d2 hV]; rfl
    · rw [ls_d2 hV]; have e : j = κ.1 14 t * 6 := by omega
      rw [e]; rfl
  | succ m ih =>
    intro j V hk hV
    have h8 := hw.i8 t
    have hwj := kf_cu (p := j) hw ht (by omega)
    have hi : j / 6 < κ.1 14 t := by omega
    have hik : ik κ (8 * t + j / 6) := ik.of hw ht hi
    refine ax_aload_n dX3_findNextAct_5 rfl ?_
    refine ax_get (ci := 3) (k := 4) (T := TX2) dX3_findNextAct_6 (ch_T (by assumption)) rfl (by decide) fl_X3_273 rfl ?_
    rw [nu_s]
    refine ax_iload_n dX3_findNextAct_9 rfl ?_
    refine ax_nge 57 dX3_findNextAct_10 (by decide) (by omega) (by omega) (fun c10 => absurd c10 (by omega)) (fun c10 => ?_)
    refine ax_aload_n dX3_findNextAct_13 rfl ?_
    refine ax_aload_n dX3_findNextAct_14 rfl ?_
    refine ax_get (ci := 3) (k := 4) (T := TX2) dX3_findNextAct_15 (ch_T (by assumption)) rfl (by decide) fl_X3_273 rfl ?_
    rw [nu_s]
    refine ax_bipush (nI 6) dX3_findNextAct_18 (by decide) ?_
    refine ax_idivn dX3_findNextAct_20 (by decide) (by omega) (by decide) ?_
    refine ax_V1 cv_X3_214 dX3_findNextAct_21 (ch_T (by assumption)) rfl (ok_itemAt (i := j / 6) hwj ht hi) (by decide) (Nat.le_refl _) (Nat.le_refl _) (Nat.le_of_ble_eq_true rfl) ?_
    refine ax_astore_n dX3_findNextAct_24 rfl (by decide) ?_
    refine ax_aload_n dX3_findNextAct_25 rfl ?_
    refine ax_ifnull 44 dX3_findNextAct_26 (by decide) (fun c26 => absurd c26 (by intro z; cases z)) (fun c26 => ?_)
    refine ax_aload_n dX3_findNextAct_29 rfl ?_
    refine ax_aload_n dX3_findNextAct_30 rfl ?_
    refine ax_aload_n dX3_findNextAct_31 rfl ?_
    refine ax_aload_n dX3_findNextAct_32 rfl ?_
    refine ax_V0 cv_X3_287 dX3_findNextAct_33 (ch_T (by assumption)) rfl (ok_slot hwj ht) (by decide) (Nat.le_refl _) (Nat.le_refl _) (Nat.le_of_ble_eq_true rfl) ?_
    rw [nu_s]
    refine ax_V3 cv_X3_315 dX3_findNextAct_36 ch_O rfl (ok_hasAct hwj ht hik (Nat.mod_lt _ (by decide)) h16) (by decide) (Nat.le_refl _) (Nat.le_refl _) (Nat.le_of_ble_eq_true rfl) ?_
    refine ax_beq 44 dX3_findNextAct_39 (by decide) (fun c39 => ?_) (fun c39 => ?_)
    · refine ax_aload_n dX3_findNextAct_44 rfl ?_
      refine ax_dup dX3_findNextAct_45 rfl ?_
      refine ax_get (ci := 3) (k := 4) (T := TX2) dX3_findNextAct_46 (ch_T (by assumption)) rfl (by decide) fl_X3_273 rfl ?_
      rw [nu_s]
      refine ax_iconst (nI 1) dX3_findNextAct_49 (by decide) ?_
      refine ax_iaddn dX3_findNextAct_50 ?_
      refine ax_put (ci := 3) (k := 4) (T := TX2) (ty := .int) dX3_findNextAct_51 (ch_T (by assumption)) rfl (by decide) (Nat.le_of_ble_eq_true rfl) fl_X3_273 rfl (by decide +kernel) (fun _ => rfl) (fun _ => rfl) ((cu_cu (κ := nu κ 44 t j) ht).trans (congrArg (fun x => fh (ch x) ρ) nu_nu)) ?_
      refine ax_goto 5 dX3_findNextAct_54 (by decide) ?_
      refine ax_fg [true, true, true, false] rfl ?_
      exact ih (j + 1) V (by omega) (ls_d0 (p := cNp κ t) c39 hV)
    · refine ax_iconst (ax_b true) dX3_findNextAct_42 (by decide) ?_
      refine ax_bret dX3_findNextAct_43 rfl ⟨(Nat.le_refl _), (Nat.le_refl _)⟩ ?_ ?_
      · rw [ls_d1 (p := cNp κ t) c39 hV]; rfl
      · rw [ls_d1 (p := cNp κ t) c39 hV]; rfl
theorem ok_findNextAct (hw : kf κ) {t : Nat} (ht : t < κ.1 10 0) (h16 : 1 ≤ κ.1 12 t ∧ κ.1 12 t ≤ 6) (hc : κ.1 44 t ≤ κ.1 14 t * 6) : ax_Ok mX3_findNextAct yX3_findNextAct 5 0 0 [ax_r (1, 0), ax_r (8, t)] (fh (ch κ) ρ) (ax_D (ax_i (ax_b (cNx κ t).isSome)) (fh (ch (nu κ 44 t ((cNx κ t).getD (κ.1 14 t * 6)))) ρ)) := by
  refine ax_Ok.of (by decide) rfl (fun q => by cases q) (Nat.le_of_ble_eq_true rfl) rfl ?_
  refine ax_aload_n dX3_findNextAct_0 rfl ?_
  refine ax_V0 cv_X3_312 dX3_findNextAct_1 (ch_T (by assumption)) rfl (ok_cursorEnd (by assumption)) (by decide) (Nat.le_refl _) (Nat.le_refl _) (Nat.le_of_ble_eq_true rfl) ?_
  refine ax_istore_n dX3_findNextAct_4 rfl (by decide) ?_
  refine ax_hq (h2 := fh (ch (nu κ 44 t (κ.1 44 t))) ρ) (by rw [nu_self]) ?_
  exact lp_find hw ht h16 _ _ _ (by omega) rfl
end CLS4
