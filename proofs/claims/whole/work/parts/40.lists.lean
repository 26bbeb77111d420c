/-! Rows of references, the JDK's empty array, fields by another name -/
def ax_uq (f : Nat → Option ax_N) (k : Nat) (r : Option ax_N) : Nat → Option ax_N := fun j => if j = k then r else f j
section AXL
variable {Y : ax_M} {d mc ms : Nat} {Fi : Option ax_V → ax_H → Prop} {pc : Nat} {L : List (Option ax_V)} {S : List ax_V} {h : ax_H} {uc us : Nat}
theorem ax_aald {u : ax_N} {n : Nat} {f : Nat → Option ax_N} {x : Int32} (j : Nat) (hd : decode Y.2.1 pc = .ok (.aaload, 1)) (hu : h u = some (ax_aq n f)) (hx : x = nI j) (hj : j < n) (hn : n < 2 ^ 31)
    (kk : ax_Z Y d mc ms Fi (pc + 1) L (ax_q (f j) :: S) h uc us) : ax_Z Y d mc ms Fi pc L (ax_i x :: ax_r u :: S) h uc us := by
  subst hx
  intro p l e s m args below meth c G cs A ad0 h0 X H locs ls ad I
  obtain ⟨D, hD, hP, hDD⟩ := I.1
  obtain ⟨q, -, hq⟩ := ax_at (G := G) (cs := cs) (ad := ad) hD hu
  have hok : ax_ok h (ax_q (f j)) := by
    have h1 := I.2.2.2.1.2 u _ hu
    cases hf : f j with
    | none => trivial
    | some w => exact h1 j w hf
  have k1 := kk p l e s m args below meth c G cs A ad0 h0 X H locs ls ad (I.to (ax_mc hok (ax_md (ax_md I.st))))
  refine va_aldq (D := G) X.1 X.2.1 X.2.2.2.2.2.2.2.2.1 hP q 2 hq rfl (vp_in_nI hj hn) hd ?_
  rw [nI_clamp (by omega)]
  exact k1
theorem ax_aast {u w : ax_N} {n ci : Nat} {f : Nat → Option ax_N} {fs : List ax_V} {C : String} {T : u_T} {N : Nat} {x : Int32} {h1 : ax_H} (j : Nat) (hd : decode Y.2.1 pc = .ok (.aastore, 1)) (hu : h u = some (ax_aq n f)) (hx : x = nI j) (hj : j < n) (hn : n < 2 ^ 31) (hw : h w = some (ax_o ci fs)) (hc : vwCl[ci]? = some (C, T, N)) (hcast : ∀ U, ax_Ex U → va_Nw (.castable C "java/lang/Object") U) (he : ax_up h u (ax_aq n (ax_uq f j (some w))) = h1)
    (kk : ax_Z Y d mc ms Fi (pc + 1) L S h1 uc us) : ax_Z Y d mc ms Fi pc L (ax_r w :: ax_i x :: ax_r u :: S) h uc us := by
  subst he
  subst hx
  intro p l e s m args below meth c G cs A ad0 h0 X H locs ls ad I
  obtain ⟨D, hD, hP, hDD⟩ := I.1
  obtain ⟨q, hqD, hq⟩ := ax_at (G := G) (cs := cs) (ad := ad) hD hu
  obtain ⟨q2, -, hq2⟩ := ax_at (G := G) (cs := cs) (ad := ad) hD hw
  have mono : ∀ v, h v ≠ none → ax_up h u (ax_aq n (ax_uq f j (some w))) v ≠ none := fun v => (ax_dom_up hu v).mpr
  have hokc : ax_okc h (ax_aq n (ax_uq f j (some w))) := fun i v hv => by
    unfold ax_uq at hv
    split at hv
    · cases hv
      exact Or.inl (by rw [hw]; exact fun z => by cases z)
    · exact I.2.2.2.1.2 u _ hu i v hv
  refine va_astqO (D := G) X.1 X.2.1 X.2.2.2.2.2.2.2.2.1 hP hDD I.2.1 q 2 q2 ci hq rfl (hcast _ X.2.2.2.2.2.2.2.2.2.2.2) hq2 hc (vp_in_nI hj hn) hd (fun H1 locs1 hP1 hD1 hS1 => ?_)
  rw [nI_clamp (by omega)] at hP1 hD1
  have ef : va_up (fun j => (f j).map ad) j (some (ad w)) = fun i => (ax_uq f j (some w) i).map ad := by
    funext i
    by_cases e : i = j
    · simp [va_up, ax_uq, e]
    · simp [va_up, ax_uq, e]
  rw [ef] at hP1 hD1
  have e1 : (ax_w cs ad h D).set q (ad u, .inl (cs.2.2, n, .inr (.inr (.inr (.inr fun i => (ax_uq f j (some w) i).map ad))))) = ax_w cs ad (ax_up h u (ax_aq n (ax_uq f j (some w)))) D := by
    rw [← ax_set hDD hqD]
    rfl
  rw [e1] at hP1 hD1
  exact kk p l e s m args below meth c G cs A ad0 h0 X H1 locs1 ls ad ⟨⟨D, fun v => (hD v).trans (ax_dom_up hu v).symm, hP1, hD1⟩, hS1, I.2.2.1, ax_wf_up I.2.2.2.1 hu hokc, fun v hv => ax_ok_mono mono (ax_md (ax_md (ax_md I.st)) v hv), fun i v hv => ax_ok_mono mono (I.2.2.2.2.2.1 i v hv), fun v hv => ⟨(I.2.2.2.2.2.2.1 v hv).1, mono v (I.2.2.2.2.2.2.1 v hv).2⟩, I.2.2.2.2.2.2.2⟩
theorem ax_newq {ix : Nat} {x : Int32} (u : ax_N) (N : Nat) (hd : decode Y.2.1 pc = .ok (.anewarray ix, 3)) (w1 : Cond.classLink Y.1 ix "java/lang/Object" ∈ ax_T) (hx : ¬ x < 0) (hN : x.toNatClampNeg = N) (hb : N ≤ 1000000) (hu : h u = none) (hn : u ≠ ax_E) (hc1 : uc + 1 ≤ mc) (hs1 : us + N ≤ ms)
    (kk : ax_Z Y d mc ms Fi (pc + 3) L (ax_r u :: S) (ax_up h u (ax_aq N (fun _ => none))) (uc + 1) (us + N)) : ax_Z Y d mc ms Fi pc L (ax_i x :: S) h uc us := by
  intro p l e s m args below meth c G cs A ad0 h0 X H locs ls ad I
  obtain ⟨D, hD, hP, hDD⟩ := I.1
  refine va_newq (D := G) X.1 X.2.1 X.2.2.2.1 (X.2.2.2.2.1 _ w1) X.2.2.2.2.2.2.2.2.2.2.2.1 X.2.2.2.2.2.2.2.2.1 hP hDD I.2.1 X.2.2.2.2.2.2.2.2.2.1 hx hN (by omega) hc1 hs1 hd (fun q cA H1 hK1 hP1 hD1 hS1 => ?_)
  obtain ⟨_, _, -, -, -, e1⟩ : va_RA s cA (.object "java/lang/Object") := (hK1.2 3 _ rfl).2
  obtain ⟨_, _, -, -, -, e2⟩ : va_RA s cs.2.2 (.object "java/lang/Object") := (X.2.2.2.2.2.2.2.2.1.2 2 _ rfl).2
  have e3 : cA = cs.2.2 := Option.some.inj (e1.symm.trans e2)
  subst e3
  obtain ⟨I1, e4⟩ := ax_grown (u := u) (c := ax_aq N (fun _ => none)) (q := q) I hD (ax_md I.st) hu hn (fun i v hv => by cases hv) hP1 hD1 hS1
  have k1 := kk p l e s m args below meth c G cs A ad0 h0 X H1 locs ls _ I1
  have e5 : (ax_r u :: S).map (ax_v (ax_ad ad u q)) = Value.ref q :: S.map (ax_v ad) := by
    rw [e4]
    show va_rf (some (ax_ad ad u q u)) :: _ = _
    rw [ax_ad_s]
    rfl
  rw [e5] at k1
  exact k1
theorem ax_alenq {u : ax_N} {n : Nat} {f : Nat → Option ax_N} (hd : decode Y.2.1 pc = .ok (.arraylength, 1)) (hu : h u = some (ax_aq n f))
    (kk : ax_Z Y d mc ms Fi (pc + 1) L (ax_i (nI n) :: S) h uc us) : ax_Z Y d mc ms Fi pc L (ax_r u :: S) h uc us := by
  intro p l e s m args below meth c G cs A ad0 h0 X H locs ls ad I
  obtain ⟨D, hD, hP, hDD⟩ := I.1
  obtain ⟨q, -, hq⟩ := ax_at (G := G) (cs := cs) (ad := ad) hD hu
  exact va_alen (D := G) X.1 X.2.1 X.2.2.2.2.2.2.2.2.1 hP q 2 hq (ty := .object "java/lang/Object") rfl rfl hd (kk p l e s m args below meth c G cs A ad0 h0 X H locs ls ad (I.to (ax_mc trivial (ax_md I.st))))
theorem ax_alenE (hd : decode Y.2.1 pc = .ok (.arraylength, 1)) (kk : ax_Z Y d mc ms Fi (pc + 1) L (ax_i (nI 0) :: S) h uc us) : ax_Z Y d mc ms Fi pc L (ax_r ax_E :: S) h uc us := by
  intro p l e s m args below meth c G cs A ad0 h0 X H locs ls ad I
  have hT := X.2.2.2.2.2.2.2.2.2.2.1.2
  rw [← I.2.2.2.2.2.2.2] at hT
  exact va_tlen X.1 X.2.1 hT I.2.1 (v := nI 0) rfl hd (kk p l e s m args below meth c G cs A ad0 h0 X H locs ls ad (I.to (ax_mc trivial (ax_md I.st))))
theorem ax_gets {ix : Nat} (hd : decode Y.2.1 pc = .ok (.getstatic ix, 3)) (w1 : Cond.fieldLink Y.1 ix "java/util/ArrayList" "DEFAULTCAPACITY_EMPTY_ELEMENTDATA" "[Ljava/lang/Object;" ∈ ax_T) (kk : ax_Z Y d mc ms Fi (pc + 3) L (ax_r ax_E :: S) h uc us) : ax_Z Y d mc ms Fi pc L S h uc us := by
  intro p l e s m args below meth c G cs A ad0 h0 X H locs ls ad I
  have hZ := X.2.2.2.2.2.2.2.2.2.2.1.1
  rw [← I.2.2.2.2.2.2.2] at hZ
  exact va_gets X.1 X.2.1 hZ I.2.1 X.2.2.2.1 (X.2.2.2.2.1 _ w1) (fun _ h9 => h9) hd (kk p l e s m args below meth c G cs A ad0 h0 X H locs ls ad (I.to (ax_mc (Or.inr rfl) I.st)))
theorem ax_ldcw {ix : Nat} {v : Int32} (hd : decode Y.2.1 pc = .ok (.ldc_w ix, 3)) (hc : Cond.constant Y.1 ix v ∈ ax_T) (k : ax_Z Y d mc ms Fi (pc + 3) L (ax_i v :: S) h uc us) : ax_Z Y d mc ms Fi pc L S h uc us := by
  intro p l e s m args below meth c G cs A ad0 h0 X H locs ls ad I
  exact lv_ldcw X.1 X.2.1 X.2.2.2.1 (X.2.2.2.2.1 _ hc) hd (k p l e s m args below meth c G cs A ad0 h0 X H locs ls ad (I.to (ax_mc trivial I.st)))
theorem ax_dupx1 {v w : ax_V} (hd : decode Y.2.1 pc = .ok (.dup_x1, 1)) (hc : ax_c1 v = true) (hc2 : ax_c1 w = true) (k : ax_Z Y d mc ms Fi (pc + 1) L (v :: w :: v :: S) h uc us) : ax_Z Y d mc ms Fi pc L (v :: w :: S) h uc us := by
  intro p l e s m args below meth c G cs A ad0 h0 X H locs ls ad I
  exact lv_dup_x1 X.1 X.2.1 hd (ax_cat1 hc) (ax_cat1 hc2) (k p l e s m args below meth c G cs A ad0 h0 X H locs ls ad (I.to (ax_mc (I.st _ List.mem_cons_self) (ax_mc (I.st _ (List.mem_cons_of_mem _ List.mem_cons_self)) (ax_mc (I.st _ List.mem_cons_self) (ax_md (ax_md I.st)))))))
theorem ax_getS {ix ci k : Nat} {u : ax_N} {fs : List ax_V} {C ref : String} {T : u_T} {N : Nat} {v : ax_V} (hd : decode Y.2.1 pc = .ok (.getfield ix, 3)) (hu : h u = some (ax_o ci fs)) (hc : vwCl[ci]? = some (C, T, N)) (hk : k < N) (hl : Cond.fieldLink Y.1 ix ref (T k).2.1 (T k).2.2.1 ∈ ax_T) (hsm : Cond.sameField ref (T k).1 (T k).2.1 (T k).2.2.1 ∈ ax_T) (hv : fs[k]? = some v)
    (kk : ax_Z Y d mc ms Fi (pc + 3) L (v :: S) h uc us) : ax_Z Y d mc ms Fi pc L (ax_r u :: S) h uc us := by
  intro p l e s m args below meth c G cs A ad0 h0 X H locs ls ad I
  obtain ⟨D, hD, hP, hDD⟩ := I.1
  obtain ⟨q, -, hq⟩ := ax_at (G := G) (cs := cs) (ad := ad) hD hu
  exact va_get (D := G) X.1 X.2.1 X.2.2.2.2.1 (ax_cls hc).1 X.2.2.2.1 X.2.2.2.2.2.2.2.2.1 hP q hq hc k hk (X.2.2.2.2.1 _ hl) (u_same (X.2.2.2.2.1 _ hsm)) (by simp [hv]) hd
    (kk p l e s m args below meth c G cs A ad0 h0 X H locs ls ad (I.to (ax_mc (I.2.2.2.1.2 u _ hu v (List.mem_of_getElem? hv)) (ax_md I.st))))
theorem ax_putS {ix ci k : Nat} {u : ax_N} {fs : List ax_V} {C ref : String} {T : u_T} {N : Nat} {v : ax_V} {ty : FieldType} {h1 : ax_H} (hd : decode Y.2.1 pc = .ok (.putfield ix, 3)) (hu : h u = some (ax_o ci fs)) (hc : vwCl[ci]? = some (C, T, N)) (hk : k < N) (hkl : k < fs.length) (hl : Cond.fieldLink Y.1 ix ref (T k).2.1 (T k).2.2.1 ∈ ax_T) (hsm : Cond.sameField ref (T k).1 (T k).2.1 (T k).2.2.1 ∈ ax_T) (hfin : (T k).2.2.2 = false) (hty : parseFieldDescriptor (T k).2.2.1 = some ty)
    (hn : ∀ ad, narrow ty (ax_v ad v) = ax_v ad v) (hf : ∀ ad, fits ty (ax_v ad v) = true) (he : ax_up h u (ax_o ci (fs.set k v)) = h1)
    (kk : ax_Z Y d mc ms Fi (pc + 3) L S h1 uc us) : ax_Z Y d mc ms Fi pc L (v :: ax_r u :: S) h uc us := by
  subst he
  intro p l e s m args below meth c G cs A ad0 h0 X H locs ls ad I
  obtain ⟨D, hD, hP, hDD⟩ := I.1
  obtain ⟨q, hqD, hq⟩ := ax_at (G := G) (cs := cs) (ad := ad) hD hu
  obtain ⟨hin, ty0, hty0, hnm⟩ := ax_cls hc
  have hokc : ax_okc h (ax_o ci (fs.set k v)) := fun w hw => by
    rcases List.mem_or_eq_of_mem_set hw with q | q
    · exact I.2.2.2.1.2 u _ hu w q
    · rw [q]; exact I.st _ List.mem_cons_self
  have mono : ∀ w, h w ≠ none → ax_up h u (ax_o ci (fs.set k v)) w ≠ none := fun w => (ax_dom_up hu w).mpr
  refine va_put (D := G) X.1 X.2.1 X.2.2.2.2.1 hin ty0 hty0 hnm X.2.2.2.1 X.2.2.2.2.2.2.2.2.1 hP hDD I.2.1 q hq hc k hk (X.2.2.2.2.1 _ hl) (u_same (X.2.2.2.2.1 _ hsm)) hfin hty (hn ad) (hf ad) (by simpa using hkl) hd (fun H1 locs1 hP1 hD1 hS1 => ?_)
  have e1 : (ax_w cs ad h D).set q (ad u, .inr (ci, (fs.map (ax_v ad)).set k (ax_v ad v))) = ax_w cs ad (ax_up h u (ax_o ci (fs.set k v))) D := by
    rw [← ax_set hDD hqD]
    simp [ax_c, List.map_set]
  rw [e1] at hP1 hD1
  exact kk p l e s m args below meth c G cs A ad0 h0 X H1 locs1 ls ad ⟨⟨D, fun w => (hD w).trans (ax_dom_up hu w).symm, hP1, hD1⟩, hS1, I.2.2.1, ax_wf_up I.2.2.2.1 hu hokc, fun w hw => ax_ok_mono mono (ax_md (ax_md I.st) w hw), fun i w hw => ax_ok_mono mono (I.2.2.2.2.2.1 i w hw), fun w hw => ⟨(I.2.2.2.2.2.2.1 w hw).1, mono w (I.2.2.2.2.2.2.1 w hw).2⟩, I.2.2.2.2.2.2.2⟩
end AXL
