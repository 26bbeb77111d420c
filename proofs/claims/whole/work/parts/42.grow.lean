theorem gc_se : Cond.selects "[Ljava/lang/Object;" ⟨"java/lang/Object", "getClass", "()Ljava/lang/Class;"⟩ ⟨"java/lang/Object", "getClass", "()Ljava/lang/Class;"⟩ ∈ ax_T := List.mem_filter.mpr ⟨List.mem_append_right _ (List.mem_of_getElem? (i := 906) (by decide +kernel)), by decide +kernel⟩
theorem gc_im : Cond.instanceMethod ⟨"java/lang/Object", "getClass", "()Ljava/lang/Class;"⟩ ∈ ax_T := List.mem_filter.mpr ⟨List.mem_append_right _ (List.mem_of_getElem? (i := 168) (by decide +kernel)), by decide +kernel⟩
theorem gc_na : Cond.native ⟨"java/lang/Object", "getClass", "()Ljava/lang/Class;"⟩ ∈ ax_T := List.mem_filter.mpr ⟨List.mem_append_right _ (List.mem_of_getElem? (i := 176) (by decide +kernel)), by decide +kernel⟩
theorem ac_st : Cond.static arraycopyName ∈ ax_T := List.mem_filter.mpr ⟨List.mem_append_right _ (List.mem_of_getElem? (i := 187) (by decide +kernel)), by decide +kernel⟩
theorem ac_na : Cond.native arraycopyName ∈ ax_T := List.mem_filter.mpr ⟨List.mem_append_right _ (List.mem_of_getElem? (i := 188) (by decide +kernel)), by decide +kernel⟩
theorem ac_in : Cond.initialized "java/lang/System" ∈ ax_T := List.mem_filter.mpr ⟨List.mem_append_right _ (List.mem_of_getElem? (i := 10) (by decide +kernel)), by decide +kernel⟩
/-- elements that a row of Object may hold -/
def ax_el (h : ax_H) (f : Nat → Option ax_N) : Prop := ∀ (i : Nat) (v : ax_N), f i = some v → ∃ (ci : Nat) (fs : List ax_V) (C : String) (T : u_T) (N : Nat), h v = some (ax_o ci fs) ∧ vwCl[ci]? = some (C, T, N) ∧ ∀ U, ax_Ex U → va_Nw (.castable C "java/lang/Object") U
section AXG
variable {Y : ax_M} {d mc ms : Nat} {Fi : Option ax_V → ax_H → Prop} {pc : Nat} {L : List (Option ax_V)} {S : List ax_V} {h : ax_H} {uc us : Nat}
theorem ax_mmin {ix : Nat} {x y : Int32} (hcv : ax_cS Y.1 ix yJ9_min_7cf53 mJ9_min_7cf53 2) (hd : decode Y.2.1 pc = .ok (.invokestatic ix, 3)) (hdd : 1 ≤ d) (hc : uc ≤ mc) (hs : us ≤ ms) (hS8 : 2 * S.length ≤ 8)
    (kk : ax_Z Y d mc ms Fi (pc + 3) L (ax_i (if y < x then y else x) :: S) h uc us) : ax_Z Y d mc ms Fi pc L (ax_i y :: ax_i x :: S) h uc us := by
  intro p l e s m args below meth c G cs A ad0 h0 X H locs ls ad I
  obtain ⟨w1, w2, w4, w5, w6, w7⟩ := hcv
  have := ax_rcat (ad := ad) S
  exact va_mmin (R := ax_rm d mc ms) X.1 X.2.1 (X.2.2.1.trans I.2.2.1.1.symm) X.2.2.2.1 (X.2.2.2.2.1 _ w1) (X.2.2.2.2.1 _ w2) (X.2.2.2.2.1 _ w4) (X.2.2.2.2.1 _ w5) hdd (by show _ ≤ 37 * d; omega) hc hs hd (kk p l e s m args below meth c G cs A ad0 h0 X H locs ls ad (I.to (ax_mc trivial (ax_md (ax_md I.st)))))
theorem ax_acopy {ix : Nat} {u w : ax_N} {n0 n1 k : Nat} {f g : Nat → Option ax_N} {h1 : ax_H} (w1 : Cond.methodLink Y.1 ix arraycopyName ∈ ax_T) (hd : decode Y.2.1 pc = .ok (.invokestatic ix, 3)) (hu : h u = some (ax_aq n0 f)) (hw : h w = some (ax_aq n1 g)) (hk0 : k ≤ n0) (hk1 : k ≤ n1) (hk9 : k + 1 < 2 ^ 31) (hel : ax_el h f) (hdd : 2 ≤ d) (hS8 : 2 * S.length ≤ 8) (he : ax_up h w (ax_aq n1 (fun j => if j < k then f j else g j)) = h1)
    (kk : ax_Z Y d mc ms Fi (pc + 3) L S h1 uc us) : ax_Z Y d mc ms Fi pc L (ax_i (nI k) :: ax_i (nI 0) :: ax_r w :: ax_i (nI 0) :: ax_r u :: S) h uc us := by
  subst he
  intro p l e s m args below meth c G cs A ad0 h0 X H locs ls ad I
  obtain ⟨D, hD, hP, hDD⟩ := I.1
  obtain ⟨q, hqD, hq⟩ := ax_at (G := G) (cs := cs) (ad := ad) hD hu
  obtain ⟨q2, hqD2, hq2⟩ := ax_at (G := G) (cs := cs) (ad := ad) hD hw
  have mono : ∀ v, h v ≠ none → ax_up h w (ax_aq n1 (fun j => if j < k then f j else g j)) v ≠ none := fun v => (ax_dom_up hw v).mpr
  have hokc : ax_okc h (ax_aq n1 (fun j => if j < k then f j else g j)) := fun i v hv => by
    dsimp only at hv
    split at hv
    · exact I.2.2.2.1.2 u _ hu i v hv
    · exact I.2.2.2.1.2 w _ hw i v hv
  have hk : k < 2 ^ 31 := by omega
  have hc := ax_rcat (ad := ad) S
  have hnw : nativeFrameWords "java/lang/System" "arraycopy" 5 ≤ 40 := by decide +kernel
  refine va_copyM (D := G) X.1 X.2.1 (X.2.2.1.trans I.2.2.1.1.symm) X.2.2.2.1 (X.2.2.2.2.1 _ w1) (X.2.2.2.2.1 _ ac_na) (X.2.2.2.2.1 _ ac_st) (X.2.2.2.2.1 _ ac_in) X.2.2.2.2.2.2.2.2.1 hP hDD I.2.1 q q2 2 2 hq hq2 rfl rfl (sp := nI 0) (dp := nI 0) (n := nI k) (by decide) (by decide) ?_ ?_ ?_ ?_ (by show 1 ≤ d; omega) (by show _ ≤ 37 * d; omega) hd (fun H1 locs1 hP1 hD1 hS1 => ?_)
  · exact fun z => (vp_in_nI (Nat.lt_succ_self k) (by omega)) (Or.inl z)
  · rw [nI_clamp (by decide), nI_clamp hk]; omega
  · rw [nI_clamp (by decide), nI_clamp hk]; omega
  · intro i hi y hy
    rw [nI_clamp (by decide), Nat.zero_add] at hy
    cases hf : f i with
    | none => rw [hf] at hy; cases hy
    | some v =>
      rw [hf] at hy
      cases hy
      obtain ⟨ci, fs, C, T, N, g1, g2, g3⟩ := hel i v hf
      obtain ⟨q3, -, hq3⟩ := ax_at (G := G) (cs := cs) (ad := ad) hD g1
      refine va_rAny X.2.2.2.2.2.2.2.2.1 hP hq3 g2 (fun comp c0 z1 z2 => ?_)
      obtain ⟨c1, t1, f1, f2, f3⟩ := Cond.castable_spec (va_Nw.use (A := args) rfl (g3 _ X.2.2.2.2.2.2.2.2.2.2.2))
      cases z1.symm.trans f2
      cases z2.symm.trans f1
      exact f3
  · rw [nI_clamp (by decide), nI_clamp hk] at hP1 hD1
    have ef : va_cpy (fun j => (f j).map ad) (fun j => (g j).map ad) 0 0 k = fun i => ((fun j => if j < k then f j else g j) i).map ad := by
      funext i
      by_cases e : i < k
      · simp [va_cpy, e]
      · simp [va_cpy, e]
    rw [ef] at hP1 hD1
    have e1 : (ax_w cs ad h D).set q2 (ad w, .inl (cs.2.2, n1, .inr (.inr (.inr (.inr fun i => ((fun j => if j < k then f j else g j) i).map ad))))) = ax_w cs ad (ax_up h w (ax_aq n1 (fun j => if j < k then f j else g j))) D := by
      rw [← ax_set hDD hqD2]
      rfl
    rw [e1] at hP1 hD1
    exact kk p l e s m args below meth c G cs A ad0 h0 X H1 locs1 ls ad ⟨⟨D, fun v => (hD v).trans (ax_dom_up hw v).symm, hP1, hD1⟩, hS1, I.2.2.1, ax_wf_up I.2.2.2.1 hw hokc, fun v hv => ax_ok_mono mono (I.st v (List.mem_cons_of_mem _ (List.mem_cons_of_mem _ (List.mem_cons_of_mem _ (List.mem_cons_of_mem _ (List.mem_cons_of_mem _ hv)))))), fun i v hv => ax_ok_mono mono (I.2.2.2.2.2.1 i v hv), fun v hv => ⟨(I.2.2.2.2.2.2.1 v hv).1, mono v (I.2.2.2.2.2.2.1 v hv).2⟩, I.2.2.2.2.2.2.2⟩
/-- a method whose last argument is the mirror of Object[] -/
def ax_OkM (Y : ax_M) (y : MethodName) (d mc ms : Nat) (As : List ax_V) (h : ax_H) (Fi : Option ax_V → ax_H → Prop) : Prop :=
  ∀ (l : Launch) (G : va_G) (cs : ax_K) (ad : ax_N → Nat) (sz mi : Nat), ax_wf h → (∀ v ∈ As, ax_ok h v) →
    Met l y (Cond.code y Y.2.1 Y.2.2.1 Y.2.2.2.1 :: ax_T) (ax_rm d mc ms) (va_Pc (As.map (ax_v ad) ++ [.ref mi]) (fun U => (U.heap.size = sz ∧ va_K G vwCl (ax_ty cs) U ∧ ax_P G cs ad h (fun _ => True) U.heap ∧ ax_St (ad ax_E) (ax_A ad h sz) U U.heap) ∧ va_Mi "[Ljava/lang/Object;" mi U)) (ax_Qc G cs ad h (ax_A ad h sz) Fi) mc ms (ax_A ad h sz)
theorem ax_blindM {G : va_G} {cs : ax_K} {ad : ax_N → Nat} {h : ax_H} {As : List Value} {sz mi : Nat} {A : Nat → Prop} : FrameBlind (va_Pc As (fun U => (U.heap.size = sz ∧ va_K G vwCl (ax_ty cs) U ∧ ax_P G cs ad h (fun _ => True) U.heap ∧ ax_St (ad ax_E) A U U.heap) ∧ va_Mi "[Ljava/lang/Object;" mi U)) := by
  intro a U g mk q
  obtain ⟨q0, ⟨q1, q2, q3, ⟨q4, q5⟩, q6⟩, q7⟩ := q
  exact ⟨q0, ⟨q1, va_K.moved (u := U) (U := U.calling g mk a) (Vm.Alike.refl U.vm) q2, q3, ⟨va_Z.moved (u := U) (U := U.calling g mk a) (Vm.Alike.refl U.vm) q4, va_T.moved (u := U) (U := U.calling g mk a) (Vm.Alike.refl U.vm) q5⟩, q6.same (U := U.calling g mk a) rfl⟩, va_Mi.moved (u := U) (U := U.calling g mk a) (Vm.Alike.refl U.vm) q7⟩
/-- copyOf of three arguments, from its third instruction -/
theorem ok_copy3 {a a2 : ax_N} {cp N : Nat} {f : Nat → Option ax_N} (ha : h a = some (ax_aq cp f)) (hel : ax_el h f) (hN : cp ≤ N) (hN2 : N ≤ 73) (h2 : h a2 = none) (hn : a2 ≠ ax_E) : ax_OkM mJ7_copyOf_6403c yJ7_copyOf_6403c 2 1 73 [ax_r a, ax_i (nI N)] h (ax_D (ax_r a2) (ax_up h a2 (ax_aq N (fun j => if j < cp then f j else none)))) := by
  have hne : a ≠ a2 := fun e => by rw [e, h2] at ha; cases ha
  have hNc : (nI N).toNatClampNeg = N := nI_clamp (by omega)
  have hmin : (if nI N < nI cp then nI N else nI cp) = nI cp := by
    have := nI_leI (a := cp) (b := N) (by omega) (by omega)
    split
    · rename_i z
      exact absurd (this.mpr hN) (by rw [Int32.not_le]; exact z)
    · rfl
  have k : ax_Z mJ7_copyOf_6403c 2 1 73 (ax_D (ax_r a2) (ax_up h a2 (ax_aq N (fun j => if j < cp then f j else none)))) 6 [some (ax_r a), some (ax_i (nI N)), none, none] [] h 0 0 := by
    refine ax_iload_n dJ7_copyOf_6403c_6 rfl ?_
    refine ax_newq a2 N dJ7_copyOf_6403c_7 cl_J7_2 (fun z => (vp_in_nI (Nat.lt_succ_self N) (by clear hNc; omega)) (Or.inl z)) hNc (by omega) h2 hn (by omega) (by omega) ?_
    refine ax_goto 24 dJ7_copyOf_6403c_10 (by decide) ?_
    refine ax_astore_n dJ7_copyOf_6403c_24 rfl (by decide) ?_
    refine ax_aload_n dJ7_copyOf_6403c_25 rfl ?_
    refine ax_iconst (nI 0) dJ7_copyOf_6403c_26 (by decide) ?_
    refine ax_aload_n dJ7_copyOf_6403c_27 rfl ?_
    refine ax_iconst (nI 0) dJ7_copyOf_6403c_28 (by decide) ?_
    refine ax_aload_n dJ7_copyOf_6403c_29 rfl ?_
    refine ax_alenq dJ7_copyOf_6403c_30 (by rw [ax_up_n hne]; exact ha) ?_
    refine ax_iload_n dJ7_copyOf_6403c_31 rfl ?_
    refine ax_mmin cs_J7_304 dJ7_copyOf_6403c_32 (by decide) (by omega) (by omega) (Nat.le_of_ble_eq_true rfl) ?_
    rw [hmin]
    refine ax_acopy ml_J7_150 dJ7_copyOf_6403c_35 (by rw [ax_up_n hne]; exact ha) ax_up_s (Nat.le_refl _) hN (by omega) (fun i v hv => ?_) (by decide) (Nat.le_of_ble_eq_true rfl) ax_up_up ?_
    · obtain ⟨ci, fs, C, T, M, g1, g2, g3⟩ := hel i v hv
      refine ⟨ci, fs, C, T, M, ?_, g2, g3⟩
      rw [ax_up_n (fun e => by rw [e, h2] at g1; cases g1)]
      exact g1
    refine ax_aload_n dJ7_copyOf_6403c_38 rfl ?_
    exact ax_aret dJ7_copyOf_6403c_39 rfl (Or.inr ⟨_, rfl⟩) ⟨by omega, by omega⟩ ⟨rfl, rfl⟩
  intro l G cs ad sz mi hw hAs
  refine Met.ofW (cc := cJ7_copyOf_6403c) (maxL := 4) (ret := mJ7_copyOf_6403c.2.2.2.1) (by decide) rfl ?_
  intro p e s m args below meth c s₁ B hml hv
  obtain ⟨rfl, ⟨hsz, hK, hP, hSt⟩, hMi⟩ := hv
  subst hsz
  have hts := atoms_spec (ws := Cond.code yJ7_copyOf_6403c cJ7_copyOf_6403c 4 mJ7_copyOf_6403c.2.2.2.1 :: ax_T) B.pre
  have hown : s.vm.findClass RJ7 = some m.cls := findClass_of_methodNamed B.named
  have hl := lv_entry ([ax_r a, ax_i (nI N)].map (ax_v ad) ++ [Value.ref mi]) (n := 4) (Nat.le_of_ble_eq_true rfl)
  rw [lg_entry_eq]
  generalize (lg_sl ([ax_r a, ax_i (nI N)].map (ax_v ad) ++ [Value.ref mi]) ++ List.replicate (4 - (lg_sl ([ax_r a, ax_i (nI N)].map (ax_v ad) ++ [Value.ref mi])).length) Slot.unset).toArray = ls at hl ⊢
  have hl2 : ls[2]? = some (.val (.ref mi)) := hl.2.2 (2, .ref mi) (by simp [lv_args, ax_v, va_rf, Value.category])
  refine lv_aload_n B.exec B.bytes dJ7_copyOf_6403c_0 rfl hl2 ?_
  refine va_ldcM B.exec B.bytes hown (hts _ (List.mem_cons_of_mem _ cl_J7_110)) hMi dJ7_copyOf_6403c_1 ?_
  refine lv_acmp_ne (rx := some mi) (ry := some mi) (tgt := 13) B.exec B.bytes dJ7_copyOf_6403c_3 (by decide) (fun z => absurd rfl z) (fun _ => ?_)
  refine k p l e s m _ below meth c G cs (ax_A ad h s.heap.size) ad h ⟨B.exec, B.bytes, hml, hown, fun w hw => hts w (List.mem_cons_of_mem _ hw), B.returns, B.notSynchronized, fun q => (by cases q), hK, fun q hq => Or.inr hq, hSt⟩ s.heap [] ls ad ⟨ax_P_self hP, va_S.rf, ⟨hl.1, hl.2.1, fun i v hv => ?_⟩, hw, fun v hv => (by cases hv), fun i v hv => ?_, fun u hu => ⟨rfl, hu⟩, rfl⟩
  · match i, hv with
    | 0, hv => cases hv; exact hl.2.2 (0, _) (by simp [lv_args, ax_v, va_rf, Value.category])
    | 1, hv => cases hv; exact hl.2.2 (1, _) (by simp [lv_args, ax_v, va_rf, Value.category])
    | 2, hv => cases hv
    | 3, hv => cases hv
    | n + 4, hv => cases hv
  · match i, hv with
    | 0, hv => cases hv; exact hAs _ List.mem_cons_self
    | 1, hv => cases hv; exact trivial
    | 2, hv => cases hv
    | 3, hv => cases hv
    | n + 4, hv => cases hv
/-- getClass of the row, and the call with it -/
theorem ax_callM {ix ix2 n cp : Nat} {a : ax_N} {f : Nat → Option ax_N} {y : MethodName} {Y1 : ax_M} {d1 mc1 ms1 : Nat} {As : List ax_V} {Fi1 : Option ax_V → ax_H → Prop} (w0 : Cond.methodLink Y.1 ix ⟨"java/lang/Object", "getClass", "()Ljava/lang/Class;"⟩ ∈ ax_T) (hd0 : decode Y.2.1 pc = .ok (.invokevirtual ix, 3)) (ha : h a = some (ax_aq cp f)) (hcv : ax_cS Y.1 ix2 y Y1 n) (hd : decode Y.2.1 (pc + 3) = .ok (.invokestatic ix2, 3)) (hn : As.length + 1 = n) (hok : ax_OkM Y1 y d1 mc1 ms1 As h Fi1) (hdd : d1 + 1 ≤ d) (hc1 : uc + mc1 ≤ mc) (hs1 : us + ms1 ≤ ms) (hS8 : 2 * S.length ≤ 8) (hA8 : 2 * As.length ≤ 8)
    (kk : ∀ (r : Option ax_V) (h1 : ax_H), Fi1 r h1 → (∀ w, h w ≠ none → h1 w ≠ none) → ax_Z Y d mc ms Fi (pc + 3 + 3) L (r.toList ++ S) h1 (uc + mc1) (us + ms1)) : ax_Z Y d mc ms Fi pc L (ax_r a :: (As.reverse ++ S)) h uc us := by
  intro p l e s m args below meth c G cs A ad0 h0 X H locs ls ad I
  have hSt : ∀ v ∈ S, ax_ok h v := fun v hv => I.st v (List.mem_cons_of_mem _ (List.mem_append_right _ hv))
  have hAs : ∀ v ∈ As, ax_ok h v := fun v hv => I.st v (List.mem_cons_of_mem _ (List.mem_append_left _ (List.mem_reverse.mpr hv)))
  obtain ⟨w1, w2, w4, w5, w6, w7⟩ := hcv
  have hAin := ax_A_in I.1 I.2.1.1 X.2.2.2.2.2.2.2.2.2.1
  have hcat : (((S.map (ax_v ad))).map fun v => v.category).sum ≤ 8 := Nat.le_trans (ax_rcat S) hS8
  obtain ⟨mi, hMi⟩ := X.2.2.2.2.2.2.2.2.2.2.2.2.2.1
  have hM := hok l G cs ad H.size mi I.2.2.2.1 hAs
  obtain ⟨D, hD, hPP, hDD⟩ := I.1
  obtain ⟨q, hqD, hq⟩ := ax_at (G := G) (cs := cs) (ad := ad) hD ha
  have hcls : s.vm.findClass "[Ljava/lang/Object;" = some cs.2.2 := va_nmO (X.2.2.2.2.2.2.2.2.1.2 2 _ rfl).2 (by decide +kernel)
  have hcA := ax_rcat (ad := ad) (As.reverse ++ S)
  rw [List.length_append, List.length_reverse] at hcA
  refine va_getC (C := "[Ljava/lang/Object;") (mi := mi) X.1 X.2.1 (X.2.2.1.trans I.2.2.1.1.symm) X.2.2.2.1 (X.2.2.2.2.1 _ w0) X.2.2.2.2.2.2.2.2.2.2.2.2.1.use (X.2.2.2.2.1 _ gc_se) (X.2.2.2.2.1 _ gc_im) (X.2.2.2.2.1 _ gc_na) hMi ⟨vp_cell cs.2.2 (cp, _), hPP q _ hq, rfl, hcls⟩ (by show 1 ≤ d; omega) (by show _ ≤ 37 * d; omega) hd0 ?_
  refine ax_cont X I hSt (va_runS (As := As.map (ax_v ad) ++ [.ref mi]) (bytes := Y1.2.1) (maxL := Y1.2.2.1) (ret := Y1.2.2.2.1) (n := n) ⟨X.1, X.2.1, X.2.2.1, X.2.2.2.1, X.2.2.2.2.1⟩ hM ?_ ?_ rfl (by simpa using hn) I.2.2.1.1 (by simp) (lv_room hcat) hd ⟨hc1, hs1⟩) kk
  · refine va_cwS n X.2.2.2.2.1 (ax_good (fun w h => h) (fun w hw => ?_)) rfl rfl rfl w6 ⟨hdd, ?_⟩
    · simp only [va_wsS, List.mem_append, List.mem_cons, List.not_mem_nil, or_false] at hw
      rcases hw with (rfl | rfl | rfl) | rfl | hw
      · exact w1
      · exact w2
      · exact w4
      · exact w5
      · exact hw
    · show 8 + (Y1.2.2.1 + 11) + 37 * d1 ≤ 37 * d
      omega
  · exact ⟨ax_blindM, fun U hU hW => ⟨rfl, ⟨by rw [hU], va_K.moved hW.alike X.2.2.2.2.2.2.2.2.1, by rw [hU]; exact ax_P_A I.1 (fun _ _ => trivial), ax_St_to (by rw [I.2.2.2.2.2.2.2]; exact X.2.2.2.2.2.2.2.2.2.2) I.2.1 hAin hW hU⟩, va_Mi.moved hW.alike hMi⟩⟩
theorem ok_copy2 {a a2 : ax_N} {cp N : Nat} {f : Nat → Option ax_N} (ha : h a = some (ax_aq cp f)) (hel : ax_el h f) (hN : cp ≤ N) (hN2 : N ≤ 73) (h2 : h a2 = none) (hn : a2 ≠ ax_E) : ax_Ok mJ7_copyOf_1904c yJ7_copyOf_1904c 3 1 73 [ax_r a, ax_i (nI N)] h (ax_D (ax_r a2) (ax_up h a2 (ax_aq N (fun j => if j < cp then f j else none)))) := by
  refine ax_Ok.of (by decide) rfl (fun q => by cases q) (Nat.le_of_ble_eq_true rfl) rfl ?_
  refine ax_aload_n dJ7_copyOf_1904c_0 rfl ?_
  refine ax_iload_n dJ7_copyOf_1904c_1 rfl ?_
  refine ax_aload_n dJ7_copyOf_1904c_2 rfl ?_
  refine ax_callM (S := []) (As := [ax_r a, ax_i (nI N)]) ml_J7_86 dJ7_copyOf_1904c_3 ha cs_J7_300 dJ7_copyOf_1904c_6 rfl (ok_copy3 ha hel hN hN2 h2 hn) (by decide) (by decide) (by decide) (by decide) (Nat.le_of_ble_eq_true rfl) (fun r h1 hF _ => ?_)
  obtain ⟨rfl, rfl⟩ := hF
  exact ax_aret dJ7_copyOf_1904c_9 rfl (Or.inr ⟨_, rfl⟩) ⟨Nat.le_refl _, Nat.le_refl _⟩ ⟨rfl, rfl⟩
/-- a static call of a nest mate -/
theorem ax_callSN {ix n : Nat} {y : MethodName} {host : String} {Y1 : ax_M} {d1 mc1 ms1 : Nat} {As : List ax_V} {Fi1 : Option ax_V → ax_H → Prop} (hne : ∀ U, ax_Ex U → va_Nw (.methodLinkNest Y.1 ix y host) U) (w2 : Cond.static y ∈ ax_T) (w4 : Cond.initialized y.cls ∈ ax_T) (w5 : Cond.code y Y1.2.1 Y1.2.2.1 Y1.2.2.2.1 ∈ ax_T) (w6 : y.cls ≠ "java/lang/invoke/MethodHandle" ∧ y.cls ≠ "java/lang/invoke/VarHandle" ∧ (parseMethodDescriptor y.desc).map (fun d => d.parameters.length) = some n) (w7 : Y1.2.2.1 ≤ 18) (hd : decode Y.2.1 pc = .ok (.invokestatic ix, 3)) (hn : As.length = n) (hok : ax_Ok Y1 y d1 mc1 ms1 As h Fi1) (hdd : d1 + 1 ≤ d) (hc1 : uc + mc1 ≤ mc) (hs1 : us + ms1 ≤ ms) (hS8 : 2 * S.length ≤ 8)
    (kk : ∀ (r : Option ax_V) (h1 : ax_H), Fi1 r h1 → (∀ w, h w ≠ none → h1 w ≠ none) → ax_Z Y d mc ms Fi (pc + 3) L (r.toList ++ S) h1 (uc + mc1) (us + ms1)) : ax_Z Y d mc ms Fi pc L (As.reverse ++ S) h uc us := by
  intro p l e s m args below meth c G cs A ad0 h0 X H locs ls ad I
  have hSt : ∀ v ∈ S, ax_ok h v := fun v hv => I.st v (List.mem_append_right _ hv)
  have hAs : ∀ v ∈ As, ax_ok h v := fun v hv => I.st v (List.mem_append_left _ (List.mem_reverse.mpr hv))
  have hM := hok l G cs ad H.size I.2.2.2.1 hAs
  have hAin := ax_A_in I.1 I.2.1.1 X.2.2.2.2.2.2.2.2.2.1
  have hcat : (((S.map (ax_v ad))).map fun v => v.category).sum ≤ 8 := Nat.le_trans (ax_rcat S) hS8
  refine ax_cont X I hSt (va_runSN (As := As.map (ax_v ad)) (bytes := Y1.2.1) (maxL := Y1.2.2.1) (ret := Y1.2.2.2.1) (n := n) (host := host) ⟨X.1, X.2.1, X.2.2.1, X.2.2.2.1, X.2.2.2.2.1⟩ hM ⟨?_, X.2.2.2.2.1 _ w2, trivial⟩ ?_ rfl (by simpa using hn) I.2.2.1.1 (by simp) (lv_room hcat) hd ⟨hc1, hs1⟩) kk
  · refine va_cnB n X.2.2.2.2.1 (ax_good (fun w h => h) (fun w hw => ?_)) rfl rfl rfl (hne _ X.2.2.2.2.2.2.2.2.2.2.2) (X.2.2.2.2.1 _ w4) w6 ⟨hdd, ?_⟩
    · rcases List.mem_cons.mp hw with rfl | hw
      · exact w5
      · exact hw
    · show 8 + (Y1.2.2.1 + 11) + 37 * d1 ≤ 37 * d
      omega
  · exact ⟨ax_blind, fun U hU hW => ⟨rfl, by rw [hU], va_K.moved hW.alike X.2.2.2.2.2.2.2.2.1, by rw [hU]; exact ax_P_A I.1 (fun _ _ => trivial), ax_St_to (by rw [I.2.2.2.2.2.2.2]; exact X.2.2.2.2.2.2.2.2.2.2) I.2.1 hAin hW hU⟩⟩
-- growing
def ax_gr (cp : Nat) : Prop := cp = 10 ∨ cp = 15 ∨ cp = 22 ∨ cp = 33 ∨ cp = 49
theorem ax_gr1 {cp : Nat} (h : ax_gr cp) : (if nI 1 < nI (cp / 2) then nI (cp / 2) else nI 1) = nI (cp / 2) ∧ ¬ nI (cp + cp / 2) ≤ nI 0 ∧ ¬ (2147483639 : Int32) < nI (cp + cp / 2) ∧ nI cp >>> (nI 1 &&& 31) = nI (cp / 2) ∧ nI (cp + 1) - nI cp = nI 1 ∧ 0 < nI cp ∧ 10 ≤ cp ∧ cp + cp / 2 ≤ 73 := by
  rcases h with rfl | rfl | rfl | rfl | rfl <;> decide +kernel
theorem ok_newLen {cp : Nat} (hcp : ax_gr cp) : ax_Ok mJ8_newLength_cabcc yJ8_newLength_cabcc 1 0 0 [ax_i (nI cp), ax_i (nI 1), ax_i (nI (cp / 2))] h (ax_D (ax_i (nI (cp + cp / 2))) h) := by
  obtain ⟨e1, e2, e3, -⟩ := ax_gr1 hcp
  refine ax_Ok.of (by decide) rfl (fun q => by cases q) (Nat.le_of_ble_eq_true rfl) rfl ?_
  refine ax_iload_n dJ8_newLength_cabcc_0 rfl ?_
  refine ax_iload_n dJ8_newLength_cabcc_1 rfl ?_
  refine ax_iload_n dJ8_newLength_cabcc_2 rfl ?_
  refine ax_mmax cs_J8_194 dJ8_newLength_cabcc_3 (by decide) (by decide) (by decide) (Nat.le_of_ble_eq_true rfl) ?_
  rw [e1]
  refine ax_iaddn dJ8_newLength_cabcc_6 ?_
  refine ax_istore_n dJ8_newLength_cabcc_7 rfl (by decide) ?_
  refine ax_iconst (nI 0) dJ8_newLength_cabcc_8 (by decide) ?_
  refine ax_iload_n dJ8_newLength_cabcc_9 rfl ?_
  refine ax_icmp_ge 21 dJ8_newLength_cabcc_10 (by decide) (fun z => absurd z e2) (fun _ => ?_)
  refine ax_iload_n dJ8_newLength_cabcc_13 rfl ?_
  refine ax_ldc dJ8_newLength_cabcc_14 co_J8_200 ?_
  refine ax_icmp_gt 21 dJ8_newLength_cabcc_16 (by decide) (fun z => absurd z e3) (fun _ => ?_)
  refine ax_iload_n dJ8_newLength_cabcc_19 rfl ?_
  exact ax_iretD dJ8_newLength_cabcc_20 rfl ⟨Nat.le_refl _, Nat.le_refl _⟩ rfl rfl
end AXG
section JDKG
variable {h : ax_H}
theorem ok_grow1G {u a a2 : ax_N} {m cp : Nat} {f : Nat → Option ax_N} (hu : h u = some (ax_o 0 [ax_i (nI m), ax_r a, ax_i (nI cp)])) (ha : h a = some (ax_aq cp f)) (hcp : ax_gr cp) (hel : ax_el h f) (h2 : h a2 = none) (hae : a2 ≠ ax_E) : ax_Ok mJx4a65c_grow_92f84 yJx4a65c_grow_92f84 4 1 73 [ax_r u, ax_i (nI (cp + 1))] h (ax_D (ax_r a2) (ax_up (ax_up h a2 (ax_aq (cp + cp / 2) (fun j => if j < cp then f j else none))) u (ax_o 0 [ax_i (nI m), ax_r a2, ax_i (nI cp)]))) := by
  refine ax_Ok.of (by decide) rfl (fun q => by cases q) (Nat.le_of_ble_eq_true rfl) rfl ?_
  have hu2 : a2 ≠ u := fun e => by rw [e, hu] at h2; cases h2
  have hua : u ≠ a := fun e => by rw [e, ha] at hu; cases hu
  obtain ⟨e1, e2, e3, e4, e5, e6, e7, e8⟩ := ax_gr1 hcp
  refine ax_aload_n dJx4a65c_grow_92f84_0 rfl ?_
  refine ax_get (ci := 0) (k := 1) (T := TJx4a65c) dJx4a65c_grow_92f84_1 hu rfl (by decide) fl_Jx4a65c_9 rfl ?_
  refine ax_alenq dJx4a65c_grow_92f84_4 ha ?_
  refine ax_istore_n dJx4a65c_grow_92f84_5 rfl (by decide) ?_
  refine ax_iload_n dJx4a65c_grow_92f84_6 rfl ?_
  refine ax_if_gt 20 dJx4a65c_grow_92f84_7 (by decide) (fun _ => ?_) (fun z => absurd e6 z)
  refine ax_iload_n dJx4a65c_grow_92f84_20 rfl ?_
  refine ax_iload_n dJx4a65c_grow_92f84_21 rfl ?_
  refine ax_iload_n dJx4a65c_grow_92f84_22 rfl ?_
  refine ax_isub _ dJx4a65c_grow_92f84_23 e5 ?_
  refine ax_iload_n dJx4a65c_grow_92f84_24 rfl ?_
  refine ax_iconst (nI 1) dJx4a65c_grow_92f84_25 (by decide) ?_
  refine ax_ishr _ dJx4a65c_grow_92f84_26 e4 ?_
  refine ax_S3 cs_Jx4a65c_73 dJx4a65c_grow_92f84_27 (ok_newLen hcp) (by decide) (Nat.zero_le _) (Nat.zero_le _) (Nat.le_of_ble_eq_true rfl) ?_
  refine ax_istore_n dJx4a65c_grow_92f84_30 rfl (by decide) ?_
  refine ax_aload_n dJx4a65c_grow_92f84_31 rfl ?_
  refine ax_aload_n dJx4a65c_grow_92f84_32 rfl ?_
  refine ax_get (ci := 0) (k := 1) (T := TJx4a65c) dJx4a65c_grow_92f84_33 hu rfl (by decide) fl_Jx4a65c_9 rfl ?_
  refine ax_iload_n dJx4a65c_grow_92f84_36 rfl ?_
  refine ax_S2 cs_Jx4a65c_66 dJx4a65c_grow_92f84_37 (ok_copy2 ha hel (by omega) e8 h2 hae) (by decide) (by decide) (by decide) (Nat.le_of_ble_eq_true rfl) ?_
  refine ax_dupx1 dJx4a65c_grow_92f84_40 rfl rfl ?_
  refine ax_put (ci := 0) (k := 1) (T := TJx4a65c) (ty := .array (.object "java/lang/Object")) dJx4a65c_grow_92f84_41 (by rw [ax_up_n (Ne.symm hu2)]; exact hu) rfl (by decide) (Nat.le_of_ble_eq_true rfl) fl_Jx4a65c_9 rfl (by decide +kernel) (fun _ => rfl) (fun _ => rfl) rfl ?_
  exact ax_aret dJx4a65c_grow_92f84_44 rfl (Or.inr ⟨_, rfl⟩) ⟨Nat.le_refl _, Nat.le_refl _⟩ ⟨rfl, rfl⟩
theorem ok_grow0G {u a a2 : ax_N} {m cp : Nat} {f : Nat → Option ax_N} (hu : h u = some (ax_o 0 [ax_i (nI m), ax_r a, ax_i (nI cp)])) (ha : h a = some (ax_aq cp f)) (hcp : ax_gr cp) (hel : ax_el h f) (h2 : h a2 = none) (hae : a2 ≠ ax_E) : ax_Ok mJx4a65c_grow_d5877 yJx4a65c_grow_d5877 5 1 73 [ax_r u] h (ax_D (ax_r a2) (ax_up (ax_up h a2 (ax_aq (cp + cp / 2) (fun j => if j < cp then f j else none))) u (ax_o 0 [ax_i (nI m), ax_r a2, ax_i (nI cp)]))) := by
  refine ax_Ok.of (by decide) rfl (fun q => by cases q) (Nat.le_of_ble_eq_true rfl) rfl ?_
  refine ax_aload_n dJx4a65c_grow_d5877_0 rfl ?_
  refine ax_aload_n dJx4a65c_grow_d5877_1 rfl ?_
  refine ax_get (ci := 0) (k := 2) (T := TJx4a65c) dJx4a65c_grow_d5877_2 hu rfl (by decide) fl_Jx4a65c_48 rfl ?_
  refine ax_iconst (nI 1) dJx4a65c_grow_d5877_5 (by decide) ?_
  refine ax_iaddn dJx4a65c_grow_d5877_6 ?_
  refine ax_V1 cv_Jx4a65c_69 dJx4a65c_grow_d5877_7 hu rfl (ok_grow1G hu ha hcp hel h2 hae) (by decide) (Nat.le_refl _) (Nat.le_refl _) (Nat.le_of_ble_eq_true rfl) ?_
  exact ax_aret dJx4a65c_grow_d5877_10 rfl (Or.inr ⟨_, rfl⟩) ⟨Nat.le_refl _, Nat.le_refl _⟩ ⟨rfl, rfl⟩
theorem ok_add3G {u a a2 : ax_N} {m cp : Nat} {f : Nat → Option ax_N} {w : ax_N} {ci N : Nat} {fs : List ax_V} {C : String} {T : u_T} (hu : h u = some (ax_o 0 [ax_i (nI m), ax_r a, ax_i (nI cp)])) (ha : h a = some (ax_aq cp f)) (hcp : ax_gr cp) (hel : ax_el h f) (h2 : h a2 = none) (hae : a2 ≠ ax_E) (hw : h w = some (ax_o ci fs)) (hc : vwCl[ci]? = some (C, T, N)) (hcast : ∀ U, ax_Ex U → va_Nw (.castable C "java/lang/Object") U) (hwu : w ≠ u) : ax_Ok mJx4a65c_add_72be8 yJx4a65c_add_72be8 6 1 73 [ax_r u, ax_r w, ax_r a, ax_i (nI cp)] h (ax_DV (ax_up (ax_up h a2 (ax_aq (cp + cp / 2) (ax_uq (fun j => if j < cp then f j else none) cp (some w)))) u (ax_o 0 [ax_i (nI m), ax_r a2, ax_i (nI (cp + 1))]))) := by
  refine ax_Ok.of (by decide) rfl (fun q => by cases q) (Nat.le_of_ble_eq_true rfl) rfl ?_
  have hu2 : a2 ≠ u := fun e => by rw [e, hu] at h2; cases h2
  have hua : u ≠ a := fun e => by rw [e, ha] at hu; cases hu
  obtain ⟨e1, e2, e3, e4, e5, e6, e7, e8⟩ := ax_gr1 hcp
  have hwa : w ≠ a2 := fun e => by rw [e, h2] at hw; cases hw
  refine ax_iload_n dJx4a65c_add_72be8_0 rfl ?_
  refine ax_aload_n dJx4a65c_add_72be8_1 rfl ?_
  refine ax_alenq dJx4a65c_add_72be8_2 ha ?_
  refine ax_nne 11 dJx4a65c_add_72be8_3 (by decide) (by omega) (by omega) (fun z => absurd rfl z) (fun _ => ?_)
  refine ax_aload_n dJx4a65c_add_72be8_6 rfl ?_
  refine ax_V0 cv_Jx4a65c_129 dJx4a65c_add_72be8_7 hu rfl (ok_grow0G hu ha hcp hel h2 hae) (by decide) (Nat.le_refl _) (Nat.le_refl _) (Nat.le_of_ble_eq_true rfl) ?_
  refine ax_astore_n dJx4a65c_add_72be8_10 rfl (by decide) ?_
  refine ax_aload_n dJx4a65c_add_72be8_11 rfl ?_
  refine ax_iload_n dJx4a65c_add_72be8_12 rfl ?_
  refine ax_aload_n dJx4a65c_add_72be8_13 rfl ?_
  refine ax_aast cp dJx4a65c_add_72be8_14 (n := cp + cp / 2) (f := fun j => if j < cp then f j else none) (by rw [ax_up_n hu2]; exact ax_up_s) rfl (by omega) (by omega) (by rw [ax_up_n hwu, ax_up_n hwa]; exact hw) hc hcast rfl ?_
  refine ax_aload_n dJx4a65c_add_72be8_15 rfl ?_
  refine ax_iload_n dJx4a65c_add_72be8_16 rfl ?_
  refine ax_iconst (nI 1) dJx4a65c_add_72be8_17 (by decide) ?_
  refine ax_iaddn dJx4a65c_add_72be8_18 ?_
  refine ax_put (ci := 0) (k := 2) (T := TJx4a65c) (ty := .int) dJx4a65c_add_72be8_19 (by rw [ax_up_n (Ne.symm hu2)]; exact ax_up_s) rfl (by decide) (Nat.le_of_ble_eq_true rfl) fl_Jx4a65c_48 rfl (by decide +kernel) (fun _ => rfl) (fun _ => rfl) rfl ?_
  refine ax_vretD dJx4a65c_add_72be8_22 rfl ⟨Nat.le_refl _, Nat.le_refl _⟩ ?_
  rw [ax_up_cm (u := u) (v := a2) (Ne.symm hu2), ax_up_up, ax_up_up]
  rfl
theorem ok_addG {u a a2 : ax_N} {m cp : Nat} {f : Nat → Option ax_N} {w : ax_N} {ci N : Nat} {fs : List ax_V} {C : String} {T : u_T} (hu : h u = some (ax_o 0 [ax_i (nI m), ax_r a, ax_i (nI cp)])) (ha : h a = some (ax_aq cp f)) (hcp : ax_gr cp) (hel : ax_el h f) (h2 : h a2 = none) (hae : a2 ≠ ax_E) (hw : h w = some (ax_o ci fs)) (hc : vwCl[ci]? = some (C, T, N)) (hcast : ∀ U, ax_Ex U → va_Nw (.castable C "java/lang/Object") U) (hwu : w ≠ u) : ax_Ok mJx4a65c_add_9ea2d yJx4a65c_add_9ea2d 7 1 73 [ax_r u, ax_r w] h (ax_D (ax_i (ax_b true)) (ax_up (ax_up h a2 (ax_aq (cp + cp / 2) (ax_uq (fun j => if j < cp then f j else none) cp (some w)))) u (ax_o 0 [ax_i (nI (m + 1)), ax_r a2, ax_i (nI (cp + 1))]))) := by
  refine ax_Ok.of (by decide) rfl (fun q => by cases q) (Nat.le_of_ble_eq_true rfl) rfl ?_
  have hu2 : a2 ≠ u := fun e => by rw [e, hu] at h2; cases h2
  have hua : u ≠ a := fun e => by rw [e, ha] at hu; cases hu
  obtain ⟨e1, e2, e3, e4, e5, e6, e7, e8⟩ := ax_gr1 hcp
  have hel3 : ax_el (ax_up h u (ax_o 0 [ax_i (nI (m + 1)), ax_r a, ax_i (nI cp)])) f := fun i v hv => by
    obtain ⟨ci, fs, C, T, M, g1, g2, g3⟩ := hel i v hv
    by_cases e : v = u
    · subst e
      rw [hu] at g1
      cases g1
      exact ⟨0, _, C, T, M, ax_up_s, g2, g3⟩
    · exact ⟨ci, fs, C, T, M, by rw [ax_up_n e]; exact g1, g2, g3⟩
  refine ax_aload_n dJx4a65c_add_9ea2d_0 rfl ?_
  refine ax_dup dJx4a65c_add_9ea2d_1 rfl ?_
  refine ax_getS (ci := 0) (k := 0) (T := TJx4a65c) dJx4a65c_add_9ea2d_2 hu rfl (by decide) fl_Jx4a65c_63 sf_mod rfl ?_
  refine ax_iconst (nI 1) dJx4a65c_add_9ea2d_5 (by decide) ?_
  refine ax_iaddn dJx4a65c_add_9ea2d_6 ?_
  refine ax_putS (ci := 0) (k := 0) (T := TJx4a65c) (ty := .int) dJx4a65c_add_9ea2d_7 hu rfl (by decide) (Nat.le_of_ble_eq_true rfl) fl_Jx4a65c_63 sf_mod rfl (by decide +kernel) (fun _ => rfl) (fun _ => rfl) rfl ?_
  have hu3 : ax_up h u (ax_o 0 [ax_i (nI (m + 1)), ax_r a, ax_i (nI cp)]) u = some (ax_o 0 [ax_i (nI (m + 1)), ax_r a, ax_i (nI cp)]) := ax_up_s
  refine ax_aload_n dJx4a65c_add_9ea2d_10 rfl ?_
  refine ax_aload_n dJx4a65c_add_9ea2d_11 rfl ?_
  refine ax_aload_n dJx4a65c_add_9ea2d_12 rfl ?_
  refine ax_get (ci := 0) (k := 1) (T := TJx4a65c) dJx4a65c_add_9ea2d_13 hu3 rfl (by decide) fl_Jx4a65c_9 rfl ?_
  refine ax_aload_n dJx4a65c_add_9ea2d_16 rfl ?_
  refine ax_get (ci := 0) (k := 2) (T := TJx4a65c) dJx4a65c_add_9ea2d_17 hu3 rfl (by decide) fl_Jx4a65c_48 rfl ?_
  refine ax_V3v cv_Jx4a65c_131 dJx4a65c_add_9ea2d_20 hu3 rfl (ok_add3G hu3 (by rw [ax_up_n (Ne.symm hua)]; exact ha) hcp hel3 (by rw [ax_up_n hu2]; exact h2) hae (by rw [ax_up_n hwu]; exact hw) hc hcast hwu) (by decide) (Nat.le_refl _) (Nat.le_refl _) (Nat.le_of_ble_eq_true rfl) ?_
  refine ax_iconst (ax_b true) dJx4a65c_add_9ea2d_23 (by decide) ?_
  refine ax_bret dJx4a65c_add_9ea2d_24 rfl ⟨Nat.le_refl _, Nat.le_refl _⟩ rfl ?_
  rw [ax_up_cm (u := u) (v := a2) (Ne.symm hu2), ax_up_up]
end JDKG
