theorem ax_up_up {h : ax_H} {u : ax_N} {c c2 : ax_C} : ax_up (ax_up h u c) u c2 = ax_up h u c2 := by
  funext w
  by_cases e : w = u <;> simp [ax_up, e]
theorem ax_up_cm {h : ax_H} {u v : ax_N} {c c2 : ax_C} (e : u ≠ v) : ax_up (ax_up h u c) v c2 = ax_up (ax_up h v c2) u c := by
  funext w
  by_cases e1 : w = u
  · subst e1
    simp [ax_up, e]
  · simp [ax_up, e1]
theorem ax_up_id {h : ax_H} {u : ax_N} {c : ax_C} (e : h u = some c) : ax_up h u c = h := by
  funext w
  by_cases e1 : w = u
  · subst e1; simp [ax_up, e]
  · simp [ax_up, e1]
def ax_pc6 (a : Nat) : Nat := (List.range 6).countP fun k => a.testBit k
theorem sf_mod : Cond.sameField "java/util/ArrayList" "java/util/AbstractList" "modCount" "I" ∈ ax_T := List.mem_filter.mpr ⟨List.mem_append_right _ (List.mem_of_getElem? (i := 42) (by decide +kernel)), by decide +kernel⟩
section JDK
variable {h : ax_H}
theorem ax_rcat {ad : ax_N → Nat} (S0 : List ax_V) : ((S0.map (ax_v ad)).map fun v => v.category).sum ≤ 2 * S0.length := by
  induction S0 with
  | nil => exact Nat.le_refl _
  | cons x l ih =>
    have := lv_cat (ax_v ad x)
    simp only [List.map_cons, List.sum_cons, List.length_cons]
    omega
section AXM
variable {Y : ax_M} {d mc ms : Nat} {Fi : Option ax_V → ax_H → Prop} {pc : Nat} {L : List (Option ax_V)} {S : List ax_V} {uc us : Nat}
theorem ax_mmax {ix : Nat} {x y : Int32} (hcv : ax_cS Y.1 ix yJ9_max_7cf53 mJ9_max_7cf53 2) (hd : decode Y.2.1 pc = .ok (.invokestatic ix, 3)) (hdd : 1 ≤ d) (hc : uc ≤ mc) (hs : us ≤ ms) (hS8 : 2 * S.length ≤ 8)
    (kk : ax_Z Y d mc ms Fi (pc + 3) L (ax_i (if x < y then y else x) :: S) h uc us) : ax_Z Y d mc ms Fi pc L (ax_i y :: ax_i x :: S) h uc us := by
  intro p l e s m args below meth c G cs A ad0 h0 X H locs ls ad I
  obtain ⟨w1, w2, w4, w5, w6, w7⟩ := hcv
  have := ax_rcat (ad := ad) S
  exact va_mmax (R := ax_rm d mc ms) X.1 X.2.1 (X.2.2.1.trans I.2.2.1.1.symm) X.2.2.2.1 (X.2.2.2.2.1 _ w1) (X.2.2.2.2.1 _ w2) (X.2.2.2.2.1 _ w4) (X.2.2.2.2.1 _ w5) hdd (by show _ ≤ 37 * d; omega) hc hs hd (kk p l e s m args below meth c G cs A ad0 h0 X H locs ls ad (I.to (ax_mc trivial (ax_md (ax_md I.st)))))
end AXM
theorem ok_bitCount {a : Nat} (ha : a < 64) : ax_Ok mJ6_bitCount_0f7a4 yJ6_bitCount_0f7a4 1 0 0 [ax_i (nI a)] h (ax_D (ax_i (nI (ax_pc6 a))) h) := by
  refine ax_Ok.of (by decide) rfl (fun q => by cases q) (Nat.le_of_ble_eq_true rfl) rfl ?_
  have hh := trivial
  refine ax_iload_n dJ6_bitCount_0f7a4_0 rfl ?_
  refine ax_iload_n dJ6_bitCount_0f7a4_1 rfl ?_
  refine ax_iconst (nI 1) dJ6_bitCount_0f7a4_2 (by decide) ?_
  refine ax_iushr _ dJ6_bitCount_0f7a4_3 (rfl) ?_
  refine ax_ldcw dJ6_bitCount_0f7a4_4 co_J6_265 ?_
  refine ax_iand _ dJ6_bitCount_0f7a4_7 (rfl) ?_
  refine ax_isub _ dJ6_bitCount_0f7a4_8 (rfl) ?_
  refine ax_istore_n dJ6_bitCount_0f7a4_9 rfl (by decide) ?_
  refine ax_iload_n dJ6_bitCount_0f7a4_10 rfl ?_
  refine ax_ldcw dJ6_bitCount_0f7a4_11 co_J6_266 ?_
  refine ax_iand _ dJ6_bitCount_0f7a4_14 (rfl) ?_
  refine ax_iload_n dJ6_bitCount_0f7a4_15 rfl ?_
  refine ax_iconst (nI 2) dJ6_bitCount_0f7a4_16 (by decide) ?_
  refine ax_iushr _ dJ6_bitCount_0f7a4_17 (rfl) ?_
  refine ax_ldcw dJ6_bitCount_0f7a4_18 co_J6_266 ?_
  refine ax_iand _ dJ6_bitCount_0f7a4_21 (rfl) ?_
  refine ax_iadd _ dJ6_bitCount_0f7a4_22 (rfl) ?_
  refine ax_istore_n dJ6_bitCount_0f7a4_23 rfl (by decide) ?_
  refine ax_iload_n dJ6_bitCount_0f7a4_24 rfl ?_
  refine ax_iload_n dJ6_bitCount_0f7a4_25 rfl ?_
  refine ax_iconst (nI 4) dJ6_bitCount_0f7a4_26 (by decide) ?_
  refine ax_iushr _ dJ6_bitCount_0f7a4_27 (rfl) ?_
  refine ax_iadd _ dJ6_bitCount_0f7a4_28 (rfl) ?_
  refine ax_ldcw dJ6_bitCount_0f7a4_29 co_J6_267 ?_
  refine ax_iand _ dJ6_bitCount_0f7a4_32 (rfl) ?_
  refine ax_istore_n dJ6_bitCount_0f7a4_33 rfl (by decide) ?_
  refine ax_iload_n dJ6_bitCount_0f7a4_34 rfl ?_
  refine ax_iload_n dJ6_bitCount_0f7a4_35 rfl ?_
  refine ax_bipush (nI 8) dJ6_bitCount_0f7a4_36 (by decide) ?_
  refine ax_iushr _ dJ6_bitCount_0f7a4_38 (rfl) ?_
  refine ax_iadd _ dJ6_bitCount_0f7a4_39 (rfl) ?_
  refine ax_istore_n dJ6_bitCount_0f7a4_40 rfl (by decide) ?_
  refine ax_iload_n dJ6_bitCount_0f7a4_41 rfl ?_
  refine ax_iload_n dJ6_bitCount_0f7a4_42 rfl ?_
  refine ax_bipush (nI 16) dJ6_bitCount_0f7a4_43 (by decide) ?_
  refine ax_iushr _ dJ6_bitCount_0f7a4_45 (rfl) ?_
  refine ax_iadd _ dJ6_bitCount_0f7a4_46 (rfl) ?_
  refine ax_istore_n dJ6_bitCount_0f7a4_47 rfl (by decide) ?_
  refine ax_iload_n dJ6_bitCount_0f7a4_48 rfl ?_
  refine ax_bipush (nI 63) dJ6_bitCount_0f7a4_49 (by decide) ?_
  refine ax_iand _ dJ6_bitCount_0f7a4_51 (rfl) ?_
  refine ax_iretD dJ6_bitCount_0f7a4_52 rfl ⟨(Nat.le_refl _), (Nat.le_refl _)⟩ ?_ ?_
  · clear hh; revert ha; revert a; decide +kernel
  · rfl
theorem ok_chk3 {i n : Nat} (hi : i < n) (hn : n < 2 ^ 31) : ax_Ok mJ3_checkIndex_8e157 yJ3_checkIndex_8e157 1 0 0 [ax_i (nI i), ax_i (nI n), ax_z] h (ax_D (ax_i (nI i)) h) := by
  refine ax_Ok.of (by decide) rfl (fun q => by cases q) (Nat.le_of_ble_eq_true rfl) rfl ?_
  refine ax_iload_n dJ3_checkIndex_8e157_0 rfl ?_
  refine ax_zlt dJ3_checkIndex_8e157_1 9 (by decide) (by omega) ?_
  refine ax_iload_n dJ3_checkIndex_8e157_4 rfl ?_
  refine ax_iload_n dJ3_checkIndex_8e157_5 rfl ?_
  refine ax_nlt 16 dJ3_checkIndex_8e157_6 (by decide) (by omega) (by omega) (fun c6 => ?_) (fun c6 => absurd c6 (by omega))
  refine ax_iload_n dJ3_checkIndex_8e157_16 rfl ?_
  refine ax_iretD dJ3_checkIndex_8e157_17 rfl ⟨(Nat.le_refl _), (Nat.le_refl _)⟩ ?_ ?_
  · rfl
  · rfl
theorem ok_chk {i n : Nat} (hi : i < n) (hn : n < 2 ^ 31) : ax_Ok mJ15_checkIndex_7cf53 yJ15_checkIndex_7cf53 2 0 0 [ax_i (nI i), ax_i (nI n)] h (ax_D (ax_i (nI i)) h) := by
  refine ax_Ok.of (by decide) rfl (fun q => by cases q) (Nat.le_of_ble_eq_true rfl) rfl ?_
  refine ax_iload_n dJ15_checkIndex_7cf53_0 rfl ?_
  refine ax_iload_n dJ15_checkIndex_7cf53_1 rfl ?_
  refine ax_null dJ15_checkIndex_7cf53_2 ?_
  refine ax_S3 cs_J15_105 dJ15_checkIndex_7cf53_3 (ok_chk3 hi hn) (by decide) (Nat.le_refl _) (Nat.le_refl _) (Nat.le_of_ble_eq_true rfl) ?_
  refine ax_iretD dJ15_checkIndex_7cf53_6 rfl ⟨(Nat.le_refl _), (Nat.le_refl _)⟩ ?_ ?_
  · rfl
  · rfl
theorem ok_size {u : ax_N} {v0 v1 : ax_V} {n : Nat} (hu : h u = some (ax_o 0 [v0, v1, ax_i (nI n)])) : ax_Ok mJx4a65c_size_8abf5 yJx4a65c_size_8abf5 1 0 0 [ax_r u] h (ax_D (ax_i (nI n)) h) := by
  refine ax_Ok.of (by decide) rfl (fun q => by cases q) (Nat.le_of_ble_eq_true rfl) rfl ?_
  refine ax_aload_n dJx4a65c_size_8abf5_0 rfl ?_
  refine ax_get (ci := 0) (k := 2) (T := TJx4a65c) dJx4a65c_size_8abf5_1 hu rfl (by decide) fl_Jx4a65c_48 rfl ?_
  refine ax_iretD dJx4a65c_size_8abf5_4 rfl ⟨(Nat.le_refl _), (Nat.le_refl _)⟩ ?_ ?_
  · rfl
  · rfl
theorem ok_elem {u a : ax_N} {v0 v2 : ax_V} {cp i : Nat} {f : Nat → Option ax_N} (hu : h u = some (ax_o 0 [v0, ax_r a, v2])) (ha : h a = some (ax_aq cp f)) (hi : i < cp) (hn : cp < 2 ^ 31) : ax_Ok mJx4a65c_elementData_915e3 yJx4a65c_elementData_915e3 1 0 0 [ax_r u, ax_i (nI i)] h (ax_D (ax_q (f i)) h) := by
  refine ax_Ok.of (by decide) rfl (fun q => by cases q) (Nat.le_of_ble_eq_true rfl) rfl ?_
  refine ax_aload_n dJx4a65c_elementData_915e3_0 rfl ?_
  refine ax_get (ci := 0) (k := 1) (T := TJx4a65c) dJx4a65c_elementData_915e3_1 hu rfl (by decide) fl_Jx4a65c_9 rfl ?_
  refine ax_iload_n dJx4a65c_elementData_915e3_4 rfl ?_
  refine ax_aald i dJx4a65c_elementData_915e3_5 ha rfl hi hn ?_
  exact ax_aret dJx4a65c_elementData_915e3_6 rfl (Or.inl ⟨_, rfl⟩) ⟨Nat.le_refl _, Nat.le_refl _⟩ ⟨rfl, rfl⟩
theorem ok_get {u a : ax_N} {v0 : ax_V} {cp n i : Nat} {f : Nat → Option ax_N} (hu : h u = some (ax_o 0 [v0, ax_r a, ax_i (nI n)])) (ha : h a = some (ax_aq cp f)) (hi : i < n) (hnc : n ≤ cp) (hcp : cp < 2 ^ 31) : ax_Ok mJx4a65c_get_915e3 yJx4a65c_get_915e3 3 0 0 [ax_r u, ax_i (nI i)] h (ax_D (ax_q (f i)) h) := by
  refine ax_Ok.of (by decide) rfl (fun q => by cases q) (Nat.le_of_ble_eq_true rfl) rfl ?_
  refine ax_iload_n dJx4a65c_get_915e3_0 rfl ?_
  refine ax_aload_n dJx4a65c_get_915e3_1 rfl ?_
  refine ax_get (ci := 0) (k := 2) (T := TJx4a65c) dJx4a65c_get_915e3_2 hu rfl (by decide) fl_Jx4a65c_48 rfl ?_
  refine ax_S2 cs_Jx4a65c_118 dJx4a65c_get_915e3_5 (ok_chk hi (by omega)) (by decide) (Nat.le_refl _) (Nat.le_refl _) (Nat.le_of_ble_eq_true rfl) ?_
  refine ax_pop dJx4a65c_get_915e3_8 rfl ?_
  refine ax_aload_n dJx4a65c_get_915e3_9 rfl ?_
  refine ax_iload_n dJx4a65c_get_915e3_10 rfl ?_
  refine ax_V1 cv_Jx4a65c_123 dJx4a65c_get_915e3_11 hu rfl (ok_elem hu ha (by omega) (by omega)) (by decide) (Nat.le_refl _) (Nat.le_refl _) (Nat.le_of_ble_eq_true rfl) ?_
  exact ax_aret dJx4a65c_get_915e3_14 rfl (Or.inl ⟨_, rfl⟩) ⟨Nat.le_refl _, Nat.le_refl _⟩ ⟨rfl, rfl⟩
theorem ok_add3 {u a w : ax_N} {m n cp ci N : Nat} {f : Nat → Option ax_N} {fs : List ax_V} {C : String} {T : u_T} (hu : h u = some (ax_o 0 [ax_i (nI m), ax_r a, ax_i (nI n)])) (ha : h a = some (ax_aq cp f)) (hn : n < cp) (hcp : cp < 2 ^ 31) (hw : h w = some (ax_o ci fs)) (hc : vwCl[ci]? = some (C, T, N)) (hcast : ∀ U, ax_Ex U → va_Nw (.castable C "java/lang/Object") U) : ax_Ok mJx4a65c_add_72be8 yJx4a65c_add_72be8 6 1 73 [ax_r u, ax_r w, ax_r a, ax_i (nI n)] h (ax_DV (ax_up (ax_up h a (ax_aq cp (ax_uq f n (some w)))) u (ax_o 0 [ax_i (nI m), ax_r a, ax_i (nI (n + 1))]))) := by
  refine ax_Ok.of (by decide) rfl (fun q => by cases q) (Nat.le_of_ble_eq_true rfl) rfl ?_
  have hua : u ≠ a := fun e => by rw [e, ha] at hu; cases hu
  refine ax_iload_n dJx4a65c_add_72be8_0 rfl ?_
  refine ax_aload_n dJx4a65c_add_72be8_1 rfl ?_
  refine ax_alenq dJx4a65c_add_72be8_2 ha ?_
  refine ax_nne 11 dJx4a65c_add_72be8_3 (by decide) (by omega) hcp (fun _ => ?_) (fun z => absurd z (by omega))
  refine ax_aload_n dJx4a65c_add_72be8_11 rfl ?_
  refine ax_iload_n dJx4a65c_add_72be8_12 rfl ?_
  refine ax_aload_n dJx4a65c_add_72be8_13 rfl ?_
  refine ax_aast n dJx4a65c_add_72be8_14 ha rfl hn hcp hw hc hcast rfl ?_
  refine ax_aload_n dJx4a65c_add_72be8_15 rfl ?_
  refine ax_iload_n dJx4a65c_add_72be8_16 rfl ?_
  refine ax_iconst (nI 1) dJx4a65c_add_72be8_17 (by decide) ?_
  refine ax_iaddn dJx4a65c_add_72be8_18 ?_
  refine ax_put (ci := 0) (k := 2) (T := TJx4a65c) (ty := .int) dJx4a65c_add_72be8_19 (by rw [ax_up_n hua]; exact hu) rfl (by decide) (Nat.le_of_ble_eq_true rfl) fl_Jx4a65c_48 rfl (by decide +kernel) (fun _ => rfl) (fun _ => rfl) rfl ?_
  exact ax_vretD dJx4a65c_add_72be8_22 rfl ⟨Nat.zero_le _, Nat.zero_le _⟩ rfl
theorem ok_add {u a w : ax_N} {m n cp ci N : Nat} {f : Nat → Option ax_N} {fs : List ax_V} {C : String} {T : u_T} (hu : h u = some (ax_o 0 [ax_i (nI m), ax_r a, ax_i (nI n)])) (ha : h a = some (ax_aq cp f)) (hn : n < cp) (hcp : cp < 2 ^ 31) (hw : h w = some (ax_o ci fs)) (hc : vwCl[ci]? = some (C, T, N)) (hcast : ∀ U, ax_Ex U → va_Nw (.castable C "java/lang/Object") U) (hne : w ≠ u) : ax_Ok mJx4a65c_add_9ea2d yJx4a65c_add_9ea2d 7 1 73 [ax_r u, ax_r w] h (ax_D (ax_i (ax_b true)) (ax_up (ax_up h a (ax_aq cp (ax_uq f n (some w)))) u (ax_o 0 [ax_i (nI (m + 1)), ax_r a, ax_i (nI (n + 1))]))) := by
  refine ax_Ok.of (by decide) rfl (fun q => by cases q) (Nat.le_of_ble_eq_true rfl) rfl ?_
  have hua : u ≠ a := fun e => by rw [e, ha] at hu; cases hu
  have huw : w ≠ u := fun e => hne e
  refine ax_aload_n dJx4a65c_add_9ea2d_0 rfl ?_
  refine ax_dup dJx4a65c_add_9ea2d_1 rfl ?_
  refine ax_getS (ci := 0) (k := 0) (T := TJx4a65c) dJx4a65c_add_9ea2d_2 hu rfl (by decide) fl_Jx4a65c_63 sf_mod rfl ?_
  refine ax_iconst (nI 1) dJx4a65c_add_9ea2d_5 (by decide) ?_
  refine ax_iaddn dJx4a65c_add_9ea2d_6 ?_
  refine ax_putS (ci := 0) (k := 0) (T := TJx4a65c) (ty := .int) dJx4a65c_add_9ea2d_7 hu rfl (by decide) (Nat.le_of_ble_eq_true rfl) fl_Jx4a65c_63 sf_mod rfl (by decide +kernel) (fun _ => rfl) (fun _ => rfl) rfl ?_
  have hu2 : ax_up h u (ax_o 0 [ax_i (nI (m + 1)), ax_r a, ax_i (nI n)]) u = some (ax_o 0 [ax_i (nI (m + 1)), ax_r a, ax_i (nI n)]) := ax_up_s
  refine ax_aload_n dJx4a65c_add_9ea2d_10 rfl ?_
  refine ax_aload_n dJx4a65c_add_9ea2d_11 rfl ?_
  refine ax_aload_n dJx4a65c_add_9ea2d_12 rfl ?_
  refine ax_get (ci := 0) (k := 1) (T := TJx4a65c) dJx4a65c_add_9ea2d_13 hu2 rfl (by decide) fl_Jx4a65c_9 rfl ?_
  refine ax_aload_n dJx4a65c_add_9ea2d_16 rfl ?_
  refine ax_get (ci := 0) (k := 2) (T := TJx4a65c) dJx4a65c_add_9ea2d_17 hu2 rfl (by decide) fl_Jx4a65c_48 rfl ?_
  refine ax_V3v cv_Jx4a65c_131 dJx4a65c_add_9ea2d_20 hu2 rfl (ok_add3 hu2 (by rw [ax_up_n (Ne.symm hua)]; exact ha) hn hcp (by rw [ax_up_n huw]; exact hw) hc hcast) (by decide) (Nat.le_refl _) (Nat.le_refl _) (Nat.le_of_ble_eq_true rfl) ?_
  refine ax_iconst (ax_b true) dJx4a65c_add_9ea2d_23 (by decide) ?_
  refine ax_bret dJx4a65c_add_9ea2d_24 rfl ⟨Nat.le_refl _, Nat.le_refl _⟩ rfl ?_
  rw [ax_up_cm (u := u) (v := a) hua, ax_up_up]
theorem ok_grow1 {u a : ax_N} {m : Nat} (hu : h u = some (ax_o 0 [ax_i (nI m), ax_r ax_E, ax_i (nI 0)])) (ha : h a = none) (hae : a ≠ ax_E) (hau : a ≠ u) : ax_Ok mJx4a65c_grow_92f84 yJx4a65c_grow_92f84 4 1 73 [ax_r u, ax_i (nI 1)] h (ax_D (ax_r a) (ax_up (ax_up h a (ax_aq 10 (fun _ => none))) u (ax_o 0 [ax_i (nI m), ax_r a, ax_i (nI 0)]))) := by
  refine ax_Ok.of (by decide) rfl (fun q => by cases q) (Nat.le_of_ble_eq_true rfl) rfl ?_
  refine ax_aload_n dJx4a65c_grow_92f84_0 rfl ?_
  refine ax_get (ci := 0) (k := 1) (T := TJx4a65c) dJx4a65c_grow_92f84_1 hu rfl (by decide) fl_Jx4a65c_9 rfl ?_
  refine ax_alenE dJx4a65c_grow_92f84_4 ?_
  refine ax_istore_n dJx4a65c_grow_92f84_5 rfl (by decide) ?_
  refine ax_iload_n dJx4a65c_grow_92f84_6 rfl ?_
  refine ax_if_gt 20 dJx4a65c_grow_92f84_7 (by decide) (fun z => absurd z (by decide)) (fun _ => ?_)
  refine ax_aload_n dJx4a65c_grow_92f84_10 rfl ?_
  refine ax_get (ci := 0) (k := 1) (T := TJx4a65c) dJx4a65c_grow_92f84_11 hu rfl (by decide) fl_Jx4a65c_9 rfl ?_
  refine ax_gets dJx4a65c_grow_92f84_14 fl_Jx4a65c_39 ?_
  refine ax_acmp_eq 45 dJx4a65c_grow_92f84_17 (by decide) (fun _ => ?_) (fun z => absurd rfl z)
  refine ax_aload_n dJx4a65c_grow_92f84_45 rfl ?_
  refine ax_bipush (nI 10) dJx4a65c_grow_92f84_46 (by decide) ?_
  refine ax_iload_n dJx4a65c_grow_92f84_48 rfl ?_
  refine ax_mmax cs_Jx4a65c_79 dJx4a65c_grow_92f84_49 (by decide) (Nat.zero_le _) (Nat.zero_le _) (Nat.le_of_ble_eq_true rfl) ?_
  refine ax_newq a 10 dJx4a65c_grow_92f84_52 cl_Jx4a65c_7 (by decide) (by decide) (by decide) ha hae (Nat.le_of_ble_eq_true rfl) (Nat.le_of_ble_eq_true rfl) ?_
  refine ax_dupx1 dJx4a65c_grow_92f84_55 rfl rfl ?_
  refine ax_put (ci := 0) (k := 1) (T := TJx4a65c) (ty := .array (.object "java/lang/Object")) dJx4a65c_grow_92f84_56 (by rw [ax_up_n (Ne.symm hau)]; exact hu) rfl (by decide) (Nat.le_of_ble_eq_true rfl) fl_Jx4a65c_9 rfl (by decide +kernel) (fun _ => rfl) (fun _ => rfl) rfl ?_
  exact ax_aret dJx4a65c_grow_92f84_59 rfl (Or.inr ⟨_, rfl⟩) ⟨Nat.le_of_ble_eq_true rfl, Nat.le_of_ble_eq_true rfl⟩ ⟨rfl, rfl⟩
theorem ok_grow0 {u a : ax_N} {m : Nat} (hu : h u = some (ax_o 0 [ax_i (nI m), ax_r ax_E, ax_i (nI 0)])) (ha : h a = none) (hae : a ≠ ax_E) (hau : a ≠ u) : ax_Ok mJx4a65c_grow_d5877 yJx4a65c_grow_d5877 5 1 73 [ax_r u] h (ax_D (ax_r a) (ax_up (ax_up h a (ax_aq 10 (fun _ => none))) u (ax_o 0 [ax_i (nI m), ax_r a, ax_i (nI 0)]))) := by
  refine ax_Ok.of (by decide) rfl (fun q => by cases q) (Nat.le_of_ble_eq_true rfl) rfl ?_
  refine ax_aload_n dJx4a65c_grow_d5877_0 rfl ?_
  refine ax_aload_n dJx4a65c_grow_d5877_1 rfl ?_
  refine ax_get (ci := 0) (k := 2) (T := TJx4a65c) dJx4a65c_grow_d5877_2 hu rfl (by decide) fl_Jx4a65c_48 rfl ?_
  refine ax_iconst (nI 1) dJx4a65c_grow_d5877_5 (by decide) ?_
  refine ax_iaddn dJx4a65c_grow_d5877_6 ?_
  refine ax_V1 cv_Jx4a65c_69 dJx4a65c_grow_d5877_7 hu rfl (ok_grow1 hu ha hae hau) (by decide) (Nat.le_refl _) (Nat.le_refl _) (Nat.le_of_ble_eq_true rfl) ?_
  exact ax_aret dJx4a65c_grow_d5877_10 rfl (Or.inr ⟨_, rfl⟩) ⟨Nat.le_refl _, Nat.le_refl _⟩ ⟨rfl, rfl⟩
theorem ok_add3F {u a w : ax_N} {m ci N : Nat} {fs : List ax_V} {C : String} {T : u_T} (hu : h u = some (ax_o 0 [ax_i (nI m), ax_r ax_E, ax_i (nI 0)])) (ha : h a = none) (hae : a ≠ ax_E) (hau : a ≠ u) (hw : h w = some (ax_o ci fs)) (hc : vwCl[ci]? = some (C, T, N)) (hcast : ∀ U, ax_Ex U → va_Nw (.castable C "java/lang/Object") U) (hwa : w ≠ a) (hwu : w ≠ u) : ax_Ok mJx4a65c_add_72be8 yJx4a65c_add_72be8 6 1 73 [ax_r u, ax_r w, ax_r ax_E, ax_i (nI 0)] h (ax_DV (ax_up (ax_up h a (ax_aq 10 (ax_uq (fun _ => none) 0 (some w)))) u (ax_o 0 [ax_i (nI m), ax_r a, ax_i (nI 1)]))) := by
  refine ax_Ok.of (by decide) rfl (fun q => by cases q) (Nat.le_of_ble_eq_true rfl) rfl ?_
  refine ax_iload_n dJx4a65c_add_72be8_0 rfl ?_
  refine ax_aload_n dJx4a65c_add_72be8_1 rfl ?_
  refine ax_alenE dJx4a65c_add_72be8_2 ?_
  refine ax_nne 11 dJx4a65c_add_72be8_3 (by decide) (by decide) (by decide) (fun z => absurd rfl z) (fun _ => ?_)
  refine ax_aload_n dJx4a65c_add_72be8_6 rfl ?_
  refine ax_V0 cv_Jx4a65c_129 dJx4a65c_add_72be8_7 hu rfl (ok_grow0 hu ha hae hau) (by decide) (Nat.le_refl _) (Nat.le_refl _) (Nat.le_of_ble_eq_true rfl) ?_
  refine ax_astore_n dJx4a65c_add_72be8_10 rfl (by decide) ?_
  refine ax_aload_n dJx4a65c_add_72be8_11 rfl ?_
  refine ax_iload_n dJx4a65c_add_72be8_12 rfl ?_
  refine ax_aload_n dJx4a65c_add_72be8_13 rfl ?_
  refine ax_aast 0 dJx4a65c_add_72be8_14 (n := 10) (f := fun _ => none) (by rw [ax_up_n hau]; exact ax_up_s) rfl (by decide) (by decide) (by rw [ax_up_n hwu, ax_up_n hwa]; exact hw) hc hcast rfl ?_
  refine ax_aload_n dJx4a65c_add_72be8_15 rfl ?_
  refine ax_iload_n dJx4a65c_add_72be8_16 rfl ?_
  refine ax_iconst (nI 1) dJx4a65c_add_72be8_17 (by decide) ?_
  refine ax_iaddn dJx4a65c_add_72be8_18 ?_
  refine ax_put (ci := 0) (k := 2) (T := TJx4a65c) (ty := .int) dJx4a65c_add_72be8_19 (by rw [ax_up_n (Ne.symm hau)]; exact ax_up_s) rfl (by decide) (Nat.le_of_ble_eq_true rfl) fl_Jx4a65c_48 rfl (by decide +kernel) (fun _ => rfl) (fun _ => rfl) rfl ?_
  refine ax_vretD dJx4a65c_add_72be8_22 rfl ⟨Nat.le_refl _, Nat.le_refl _⟩ ?_
  rw [ax_up_cm (u := u) (v := a) (Ne.symm hau), ax_up_up, ax_up_up]
  rfl
theorem ok_addF {u a w : ax_N} {m ci N : Nat} {fs : List ax_V} {C : String} {T : u_T} (hu : h u = some (ax_o 0 [ax_i (nI m), ax_r ax_E, ax_i (nI 0)])) (ha : h a = none) (hae : a ≠ ax_E) (hau : a ≠ u) (hw : h w = some (ax_o ci fs)) (hc : vwCl[ci]? = some (C, T, N)) (hcast : ∀ U, ax_Ex U → va_Nw (.castable C "java/lang/Object") U) (hwa : w ≠ a) (hwu : w ≠ u) : ax_Ok mJx4a65c_add_9ea2d yJx4a65c_add_9ea2d 7 1 73 [ax_r u, ax_r w] h (ax_D (ax_i (ax_b true)) (ax_up (ax_up h a (ax_aq 10 (ax_uq (fun _ => none) 0 (some w)))) u (ax_o 0 [ax_i (nI (m + 1)), ax_r a, ax_i (nI 1)]))) := by
  refine ax_Ok.of (by decide) rfl (fun q => by cases q) (Nat.le_of_ble_eq_true rfl) rfl ?_
  refine ax_aload_n dJx4a65c_add_9ea2d_0 rfl ?_
  refine ax_dup dJx4a65c_add_9ea2d_1 rfl ?_
  refine ax_getS (ci := 0) (k := 0) (T := TJx4a65c) dJx4a65c_add_9ea2d_2 hu rfl (by decide) fl_Jx4a65c_63 sf_mod rfl ?_
  refine ax_iconst (nI 1) dJx4a65c_add_9ea2d_5 (by decide) ?_
  refine ax_iaddn dJx4a65c_add_9ea2d_6 ?_
  refine ax_putS (ci := 0) (k := 0) (T := TJx4a65c) (ty := .int) dJx4a65c_add_9ea2d_7 hu rfl (by decide) (Nat.le_of_ble_eq_true rfl) fl_Jx4a65c_63 sf_mod rfl (by decide +kernel) (fun _ => rfl) (fun _ => rfl) rfl ?_
  have hu2 : ax_up h u (ax_o 0 [ax_i (nI (m + 1)), ax_r ax_E, ax_i (nI 0)]) u = some (ax_o 0 [ax_i (nI (m + 1)), ax_r ax_E, ax_i (nI 0)]) := ax_up_s
  refine ax_aload_n dJx4a65c_add_9ea2d_10 rfl ?_
  refine ax_aload_n dJx4a65c_add_9ea2d_11 rfl ?_
  refine ax_aload_n dJx4a65c_add_9ea2d_12 rfl ?_
  refine ax_get (ci := 0) (k := 1) (T := TJx4a65c) dJx4a65c_add_9ea2d_13 hu2 rfl (by decide) fl_Jx4a65c_9 rfl ?_
  refine ax_aload_n dJx4a65c_add_9ea2d_16 rfl ?_
  refine ax_get (ci := 0) (k := 2) (T := TJx4a65c) dJx4a65c_add_9ea2d_17 hu2 rfl (by decide) fl_Jx4a65c_48 rfl ?_
  refine ax_V3v cv_Jx4a65c_131 dJx4a65c_add_9ea2d_20 hu2 rfl (ok_add3F hu2 (by rw [ax_up_n hau]; exact ha) hae hau (by rw [ax_up_n hwu]; exact hw) hc hcast hwa hwu) (by decide) (Nat.le_refl _) (Nat.le_refl _) (Nat.le_of_ble_eq_true rfl) ?_
  refine ax_iconst (ax_b true) dJx4a65c_add_9ea2d_23 (by decide) ?_
  refine ax_bret dJx4a65c_add_9ea2d_24 rfl ⟨Nat.le_refl _, Nat.le_refl _⟩ rfl ?_
  rw [ax_up_cm (u := u) (v := a) (Ne.symm hau), ax_up_up]
theorem oi_ac : Cond.methodLink "java/util/AbstractCollection" 1 objectInit ∈ ax_T := List.mem_filter.mpr ⟨List.mem_append_right _ (List.mem_of_getElem? (i := 35) (by decide +kernel)), by decide +kernel⟩
theorem ok_acinit {u : ax_N} : ax_Ok mJxa1e45_init_da8c8 yJxa1e45_init_da8c8 1 0 0 [ax_r u] h (ax_DV h) := by
  refine ax_Ok.of (by decide) rfl (fun _ => rfl) (Nat.le_of_ble_eq_true rfl) rfl ?_
  refine ax_aload_n dJxa1e45_init_da8c8_0 rfl ?_
  refine ax_oinit dJxa1e45_init_da8c8_1 oi_ac oi_w2 oi_w3 (by decide) (Nat.le_of_ble_eq_true rfl) ?_
  exact ax_vretD dJxa1e45_init_da8c8_4 rfl ⟨Nat.le_refl _, Nat.le_refl _⟩ rfl
theorem ok_alinit {u : ax_N} {v0 v1 v2 : ax_V} (hu : h u = some (ax_o 0 [v0, v1, v2])) : ax_Ok mJxc12de_init_da8c8 yJxc12de_init_da8c8 2 0 0 [ax_r u] h (ax_DV (ax_up h u (ax_o 0 [ax_i (nI 0), v1, v2]))) := by
  refine ax_Ok.of (by decide) rfl (fun _ => rfl) (Nat.le_of_ble_eq_true rfl) rfl ?_
  refine ax_aload_n dJxc12de_init_da8c8_0 rfl ?_
  refine ax_I0 ci_Jxc12de_1 dJxc12de_init_da8c8_1 ok_acinit (by decide) (Nat.le_refl _) (Nat.le_refl _) (Nat.le_of_ble_eq_true rfl) ?_
  refine ax_aload_n dJxc12de_init_da8c8_4 rfl ?_
  refine ax_iconst (nI 0) dJxc12de_init_da8c8_5 (by decide) ?_
  refine ax_put (ci := 0) (k := 0) (T := TJx4a65c) (ty := .int) dJxc12de_init_da8c8_6 hu rfl (by decide) (Nat.le_of_ble_eq_true rfl) fl_Jxc12de_7 rfl (by decide +kernel) (fun _ => rfl) (fun _ => rfl) rfl ?_
  exact ax_vretD dJxc12de_init_da8c8_9 rfl ⟨Nat.le_refl _, Nat.le_refl _⟩ rfl
theorem ok_linit {u : ax_N} {v0 v1 v2 : ax_V} (hu : h u = some (ax_o 0 [v0, v1, v2])) : ax_Ok mJx4a65c_init_da8c8 yJx4a65c_init_da8c8 3 0 0 [ax_r u] h (ax_DV (ax_up h u (ax_o 0 [ax_i (nI 0), ax_r ax_E, v2]))) := by
  refine ax_Ok.of (by decide) rfl (fun _ => rfl) (Nat.le_of_ble_eq_true rfl) rfl ?_
  refine ax_aload_n dJx4a65c_init_da8c8_0 rfl ?_
  refine ax_I0 ci_Jx4a65c_1 dJx4a65c_init_da8c8_1 (ok_alinit hu) (by decide) (Nat.le_refl _) (Nat.le_refl _) (Nat.le_of_ble_eq_true rfl) ?_
  refine ax_aload_n dJx4a65c_init_da8c8_4 rfl ?_
  refine ax_gets dJx4a65c_init_da8c8_5 fl_Jx4a65c_39 ?_
  refine ax_put (ci := 0) (k := 1) (T := TJx4a65c) (ty := .array (.object "java/lang/Object")) dJx4a65c_init_da8c8_8 ax_up_s rfl (by decide) (Nat.le_of_ble_eq_true rfl) fl_Jx4a65c_9 rfl (by decide +kernel) (fun _ => rfl) (fun _ => rfl) ax_up_up ?_
  exact ax_vretD dJx4a65c_init_da8c8_11 rfl ⟨Nat.le_refl _, Nat.le_refl _⟩ rfl
end JDK
