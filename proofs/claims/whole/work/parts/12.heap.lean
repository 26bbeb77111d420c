theorem ax_cw0 : (∀ w ∈ u_ws RJx4a65c TJx4a65c 3, w ∈ tables_1) := by decide +kernel
theorem ax_cw1 : (∀ w ∈ u_ws RX0 TX0 8, w ∈ tables_1) := by decide +kernel
theorem ax_cw2 : (∀ w ∈ u_ws RX1 TX1 7, w ∈ tables_1) := by decide +kernel
theorem ax_cw3 : (∀ w ∈ u_ws RX2 TX2 7, w ∈ tables_1) := by decide +kernel
theorem ax_cw4 : (∀ w ∈ u_ws RX3 TX3 7, w ∈ tables_1) := by decide +kernel
theorem ax_cw5 : (∀ w ∈ u_ws RX4 TX4 33, w ∈ tables_1) := by decide +kernel
theorem ax_cg (C : String) (T : u_T) (N : Nat) : ∀ w ∈ u_ws C T N, goodWord w = true := by
  intro w hw
  obtain ⟨k, -, rfl⟩ := List.mem_map.mp hw
  unfold u_lay
  split <;> rfl
theorem ax_inT {w : Cond} (h1 : w ∈ tables_1) (h2 : goodWord w = true) : w ∈ ax_T := List.mem_filter.mpr ⟨List.mem_append_right _ h1, h2⟩
/-- the classes of the world -/
theorem ax_cls {ci : Nat} {C : String} {T : u_T} {N : Nat} (hc : vwCl[ci]? = some (C, T, N)) : (∀ w ∈ u_ws C T N, w ∈ ax_T) ∧ ∃ ty0 : Nat → FieldType, (∀ k, k < N → parseFieldDescriptor (T k).2.2.1 = some (ty0 k)) ∧ ∀ a, a < N → ∀ b, b < N → a ≠ b → (T a).2.1 ≠ (T b).2.1 := by
  match ci, hc with
  | 0, hc => cases hc; exact ⟨fun w h => ax_inT (ax_cw0 w h) (ax_cg _ _ _ w h), tyJx4a65c, tyJx4a65c_ok, nmJx4a65c⟩
  | 1, hc => cases hc; exact ⟨fun w h => ax_inT (ax_cw1 w h) (ax_cg _ _ _ w h), tyX0, tyX0_ok, nmX0⟩
  | 2, hc => cases hc; exact ⟨fun w h => ax_inT (ax_cw2 w h) (ax_cg _ _ _ w h), tyX1, tyX1_ok, nmX1⟩
  | 3, hc => cases hc; exact ⟨fun w h => ax_inT (ax_cw3 w h) (ax_cg _ _ _ w h), tyX2, tyX2_ok, nmX2⟩
  | 4, hc => cases hc; exact ⟨fun w h => ax_inT (ax_cw4 w h) (ax_cg _ _ _ w h), tyX3, tyX3_ok, nmX3⟩
  | 5, hc => cases hc; exact ⟨fun w h => ax_inT (ax_cw5 w h) (ax_cg _ _ _ w h), tyX4, tyX4_ok, nmX4⟩
  | n + 6, hc => cases hc
theorem ax_good {big : List Cond} {l : List Cond} (hb : ∀ w ∈ ax_T, w ∈ big) (h : ∀ w ∈ l, w ∈ ax_T) : GoodIn big l := fun w hw => ⟨hb w (h w hw), good_of_word (List.mem_filter.mp (h w hw)).2⟩
section AXH
variable {Y : ax_M} {d mc ms : Nat} {Fi : Option ax_V → ax_H → Prop} {pc : Nat} {L : List (Option ax_V)} {S : List ax_V} {h : ax_H} {uc us : Nat}
theorem ax_get {ix ci k : Nat} {u : ax_N} {fs : List ax_V} {C : String} {T : u_T} {N : Nat} {v : ax_V} (hd : decode Y.2.1 pc = .ok (.getfield ix, 3)) (hu : h u = some (ax_o ci fs)) (hc : vwCl[ci]? = some (C, T, N)) (hk : k < N) (hl : Cond.fieldLink Y.1 ix (T k).1 (T k).2.1 (T k).2.2.1 ∈ ax_T) (hv : fs[k]? = some v)
    (kk : ax_Z Y d mc ms Fi (pc + 3) L (v :: S) h uc us) : ax_Z Y d mc ms Fi pc L (ax_r u :: S) h uc us := by
  intro p l e s m args below meth c G cs A ad0 h0 X H locs ls ad I
  obtain ⟨D, hD, hP, hDD⟩ := I.1
  obtain ⟨q, -, hq⟩ := ax_at (G := G) (cs := cs) (ad := ad) hD hu
  exact va_get (D := G) X.1 X.2.1 X.2.2.2.2.1 (ax_cls hc).1 X.2.2.2.1 X.2.2.2.2.2.2.2.2.1 hP q hq hc k hk (X.2.2.2.2.1 _ hl) (fun _ h9 => h9) (by simp [hv]) hd
    (kk p l e s m args below meth c G cs A ad0 h0 X H locs ls ad (I.to (ax_mc (I.2.2.2.1.2 u _ hu v (List.mem_of_getElem? hv)) (ax_md I.st))))
theorem ax_put {ix ci k : Nat} {u : ax_N} {fs : List ax_V} {C : String} {T : u_T} {N : Nat} {v : ax_V} {ty : FieldType} {h1 : ax_H} (hd : decode Y.2.1 pc = .ok (.putfield ix, 3)) (hu : h u = some (ax_o ci fs)) (hc : vwCl[ci]? = some (C, T, N)) (hk : k < N) (hkl : k < fs.length) (hl : Cond.fieldLink Y.1 ix (T k).1 (T k).2.1 (T k).2.2.1 ∈ ax_T) (hfin : (T k).2.2.2 = false) (hty : parseFieldDescriptor (T k).2.2.1 = some ty)
    (hn : ∀ ad, narrow ty (ax_v ad v) = ax_v ad v) (hf : ∀ ad, fits ty (ax_v ad v) = true) (he : ax_up h u (ax_o ci (fs.set k v)) = h1)
    (kk : ax_Z Y d mc ms Fi (pc + 3) L S h1 uc us) : ax_Z Y d mc ms Fi pc L (v :: ax_r u :: S) h uc us := by
  subst he
  intro p l e s m args below meth c G cs A ad0 h0 X H locs ls ad I
  obtain ⟨D, hD, hP, hDD⟩ := I.1
  obtain ⟨q, hqD, hq⟩ := ax_at (G := G) (cs := cs) (ad := ad) hD hu
  obtain ⟨hin, ty0, hty0, hnm⟩ := ax_cls hc
  have hokc : ax_okc h (ax_o ci (fs.set k v)) := fun w hw => by
    rcases List.mem_or_eq_of_mem_set hw with q | q
    · exact I.2.2.2.1.2 u _ hu w q
    · rw [q]; exact I.st _ List.mem_cons_self
  have mono : ∀ w, h w ≠ none → ax_up h u (ax_o ci (fs.set k v)) w ≠ none := fun w => (ax_dom_up hu w).mpr
  refine va_put (D := G) X.1 X.2.1 X.2.2.2.2.1 hin ty0 hty0 hnm X.2.2.2.1 X.2.2.2.2.2.2.2.2.1 hP hDD I.2.1 q hq hc k hk (X.2.2.2.2.1 _ hl) (fun _ h9 => h9) hfin hty (hn ad) (hf ad) (by simpa using hkl) hd (fun H1 locs1 hP1 hD1 hS1 => ?_)
  have e1 : (ax_w cs ad h D).set q (ad u, .inr (ci, (fs.map (ax_v ad)).set k (ax_v ad v))) = ax_w cs ad (ax_up h u (ax_o ci (fs.set k v))) D := by
    rw [← ax_set hDD hqD]
    simp [ax_c, List.map_set]
  rw [e1] at hP1 hD1
  exact kk p l e s m args below meth c G cs A ad0 h0 X H1 locs1 ls ad ⟨⟨D, fun w => (hD w).trans (ax_dom_up hu w).symm, hP1, hD1⟩, hS1, I.2.2.1, ax_wf_up I.2.2.2.1 hu hokc, fun w hw => ax_ok_mono mono (ax_md (ax_md I.st) w hw), fun i w hw => ax_ok_mono mono (I.2.2.2.2.2.1 i w hw), fun w hw => ⟨(I.2.2.2.2.2.2.1 w hw).1, mono w (I.2.2.2.2.2.2.1 w hw).2⟩, I.2.2.2.2.2.2.2⟩
theorem ax_putF {ix ci k : Nat} {u : ax_N} {fs : List ax_V} {C : String} {T : u_T} {N : Nat} {v : ax_V} {ty : FieldType} {h1 : ax_H} (hd : decode Y.2.1 pc = .ok (.putfield ix, 3)) (hu : h u = some (ax_o ci fs)) (hc : vwCl[ci]? = some (C, T, N)) (hk : k < N) (hkl : k < fs.length) (hl : Cond.fieldLink Y.1 ix (T k).1 (T k).2.1 (T k).2.2.1 ∈ ax_T) (hfin : (T k).2.2.2 = true) (hi : Y.2.2.2.2 = true) (hdecl : (T k).1 = Y.1) (hty : parseFieldDescriptor (T k).2.2.1 = some ty)
    (hn : ∀ ad, narrow ty (ax_v ad v) = ax_v ad v) (hf : ∀ ad, fits ty (ax_v ad v) = true) (he : ax_up h u (ax_o ci (fs.set k v)) = h1)
    (kk : ax_Z Y d mc ms Fi (pc + 3) L S h1 uc us) : ax_Z Y d mc ms Fi pc L (v :: ax_r u :: S) h uc us := by
  subst he
  intro p l e s m args below meth c G cs A ad0 h0 X H locs ls ad I
  obtain ⟨D, hD, hP, hDD⟩ := I.1
  obtain ⟨q, hqD, hq⟩ := ax_at (G := G) (cs := cs) (ad := ad) hD hu
  obtain ⟨hin, ty0, hty0, hnm⟩ := ax_cls hc
  have hokc : ax_okc h (ax_o ci (fs.set k v)) := fun w hw => by
    rcases List.mem_or_eq_of_mem_set hw with q | q
    · exact I.2.2.2.1.2 u _ hu w q
    · rw [q]; exact I.st _ List.mem_cons_self
  have mono : ∀ w, h w ≠ none → ax_up h u (ax_o ci (fs.set k v)) w ≠ none := fun w => (ax_dom_up hu w).mpr
  refine va_putF (D := G) X.1 X.2.1 X.2.2.2.2.1 hin ty0 hty0 hnm X.2.2.2.1 X.2.2.2.2.2.2.2.2.1 hP hDD I.2.1 q hq hc k hk (X.2.2.2.2.1 _ hl) (fun _ h9 => h9) hfin (X.2.2.2.2.2.2.2.1 hi) hdecl hty (hn ad) (hf ad) (by simpa using hkl) hd (fun H1 locs1 hP1 hD1 hS1 => ?_)
  have e1 : (ax_w cs ad h D).set q (ad u, .inr (ci, (fs.map (ax_v ad)).set k (ax_v ad v))) = ax_w cs ad (ax_up h u (ax_o ci (fs.set k v))) D := by
    rw [← ax_set hDD hqD]
    simp [ax_c, List.map_set]
  rw [e1] at hP1 hD1
  exact kk p l e s m args below meth c G cs A ad0 h0 X H1 locs1 ls ad ⟨⟨D, fun w => (hD w).trans (ax_dom_up hu w).symm, hP1, hD1⟩, hS1, I.2.2.1, ax_wf_up I.2.2.2.1 hu hokc, fun w hw => ax_ok_mono mono (ax_md (ax_md I.st) w hw), fun i w hw => ax_ok_mono mono (I.2.2.2.2.2.1 i w hw), fun w hw => ⟨(I.2.2.2.2.2.2.1 w hw).1, mono w (I.2.2.2.2.2.2.1 w hw).2⟩, I.2.2.2.2.2.2.2⟩
-- arrays
theorem ax_iald {u : ax_N} {n : Nat} {f : Nat → Int32} {x : Int32} (hd : decode Y.2.1 pc = .ok (.iaload, 1)) (hu : h u = some (ax_ai n f)) (hx : vp_in x n)
    (kk : ax_Z Y d mc ms Fi (pc + 1) L (ax_i (f x.toNatClampNeg) :: S) h uc us) : ax_Z Y d mc ms Fi pc L (ax_i x :: ax_r u :: S) h uc us := by
  intro p l e s m args below meth c G cs A ad0 h0 X H locs ls ad I
  obtain ⟨D, hD, hP, hDD⟩ := I.1
  obtain ⟨q, -, hq⟩ := ax_at (G := G) (cs := cs) (ad := ad) hD hu
  exact va_iald (D := G) X.1 X.2.1 X.2.2.2.2.2.2.2.2.1 hP q 0 hq rfl hx hd (kk p l e s m args below meth c G cs A ad0 h0 X H locs ls ad (I.to (ax_mc trivial (ax_md (ax_md I.st)))))
theorem ax_zald {u : ax_N} {n : Nat} {f : Nat → Int32} {x : Int32} (hd : decode Y.2.1 pc = .ok (.baload, 1)) (hu : h u = some (ax_az n f)) (hx : vp_in x n)
    (kk : ax_Z Y d mc ms Fi (pc + 1) L (ax_i (f x.toNatClampNeg) :: S) h uc us) : ax_Z Y d mc ms Fi pc L (ax_i x :: ax_r u :: S) h uc us := by
  intro p l e s m args below meth c G cs A ad0 h0 X H locs ls ad I
  obtain ⟨D, hD, hP, hDD⟩ := I.1
  obtain ⟨q, -, hq⟩ := ax_at (G := G) (cs := cs) (ad := ad) hD hu
  exact va_zald (D := G) X.1 X.2.1 X.2.2.2.2.2.2.2.2.1 hP q 1 hq rfl hx hd (kk p l e s m args below meth c G cs A ad0 h0 X H locs ls ad (I.to (ax_mc trivial (ax_md (ax_md I.st)))))
theorem ax_alen {u : ax_N} {b : Bool} {n : Nat} {f : Nat → Int32} (v : Int32) (hd : decode Y.2.1 pc = .ok (.arraylength, 1)) (hu : h u = some (.inl (b, n, f))) (hv : Int32.ofNat n = v)
    (kk : ax_Z Y d mc ms Fi (pc + 1) L (ax_i v :: S) h uc us) : ax_Z Y d mc ms Fi pc L (ax_r u :: S) h uc us := by
  intro p l e s m args below meth c G cs A ad0 h0 X H locs ls ad I
  obtain ⟨D, hD, hP, hDD⟩ := I.1
  obtain ⟨q, -, hq⟩ := ax_at (G := G) (cs := cs) (ad := ad) hD hu
  have k1 := kk p l e s m args below meth c G cs A ad0 h0 X H locs ls ad (I.to (ax_mc trivial (ax_md I.st)))
  cases b with
  | false => exact va_alen (D := G) X.1 X.2.1 X.2.2.2.2.2.2.2.2.1 hP q 0 hq (ty := .int) rfl hv hd k1
  | true => exact va_alen (D := G) X.1 X.2.1 X.2.2.2.2.2.2.2.2.1 hP q 1 hq (ty := .boolean) rfl hv hd k1
theorem ax_iast {u : ax_N} {n : Nat} {f : Nat → Int32} {x y : Int32} {h1 : ax_H} (hd : decode Y.2.1 pc = .ok (.iastore, 1)) (hu : h u = some (ax_ai n f)) (hx : vp_in x n) (he : ax_up h u (ax_ai n (upd f x.toNatClampNeg y)) = h1)
    (kk : ax_Z Y d mc ms Fi (pc + 1) L S h1 uc us) : ax_Z Y d mc ms Fi pc L (ax_i y :: ax_i x :: ax_r u :: S) h uc us := by
  subst he
  intro p l e s m args below meth c G cs A ad0 h0 X H locs ls ad I
  obtain ⟨D, hD, hP, hDD⟩ := I.1
  obtain ⟨q, hqD, hq⟩ := ax_at (G := G) (cs := cs) (ad := ad) hD hu
  have mono : ∀ w, h w ≠ none → ax_up h u (ax_ai n (upd f x.toNatClampNeg y)) w ≠ none := fun w => (ax_dom_up hu w).mpr
  refine va_iast (D := G) X.1 X.2.1 X.2.2.2.2.2.2.2.2.1 hP hDD I.2.1 q 0 hq rfl hx hd (fun H1 locs1 hP1 hD1 hS1 => ?_)
  have e1 : (ax_w cs ad h D).set q (ad u, .inl (cs.1, n, .inl (upd f x.toNatClampNeg y))) = ax_w cs ad (ax_up h u (ax_ai n (upd f x.toNatClampNeg y))) D := by
    rw [← ax_set hDD hqD]
    rfl
  have hP1 : va_P G vwCl ((ax_w cs ad h D).set q (ad u, .inl (cs.1, n, .inl (upd f x.toNatClampNeg y)))) H1 := hP1
  have hD1 : va_D A ((ax_w cs ad h D).set q (ad u, .inl (cs.1, n, .inl (upd f x.toNatClampNeg y)))) := hD1
  rw [e1] at hP1 hD1
  exact kk p l e s m args below meth c G cs A ad0 h0 X H1 locs1 ls ad ⟨⟨D, fun w => (hD w).trans (ax_dom_up hu w).symm, hP1, hD1⟩, hS1, I.2.2.1, ax_wf_up I.2.2.2.1 hu trivial, fun w hw => ax_ok_mono mono (ax_md (ax_md (ax_md I.st)) w hw), fun i w hw => ax_ok_mono mono (I.2.2.2.2.2.1 i w hw), fun w hw => ⟨(I.2.2.2.2.2.2.1 w hw).1, mono w (I.2.2.2.2.2.2.1 w hw).2⟩, I.2.2.2.2.2.2.2⟩
theorem ax_zast {u : ax_N} {n : Nat} {f : Nat → Int32} {x y : Int32} {h1 : ax_H} (hd : decode Y.2.1 pc = .ok (.bastore, 1)) (hu : h u = some (ax_az n f)) (hx : vp_in x n) (hy : y = 0 ∨ y = 1) (he : ax_up h u (ax_az n (upd f x.toNatClampNeg y)) = h1)
    (kk : ax_Z Y d mc ms Fi (pc + 1) L S h1 uc us) : ax_Z Y d mc ms Fi pc L (ax_i y :: ax_i x :: ax_r u :: S) h uc us := by
  subst he
  intro p l e s m args below meth c G cs A ad0 h0 X H locs ls ad I
  obtain ⟨D, hD, hP, hDD⟩ := I.1
  obtain ⟨q, hqD, hq⟩ := ax_at (G := G) (cs := cs) (ad := ad) hD hu
  have mono : ∀ w, h w ≠ none → ax_up h u (ax_az n (upd f x.toNatClampNeg y)) w ≠ none := fun w => (ax_dom_up hu w).mpr
  have hnar : vp_nar .boolean y = y := by rcases hy with q | q <;> subst q <;> decide
  refine va_zast (D := G) X.1 X.2.1 X.2.2.2.2.2.2.2.2.1 hP hDD I.2.1 q 1 hq rfl hx hd (fun H1 locs1 hP1 hD1 hS1 => ?_)
  rw [hnar] at hP1 hD1
  have e1 : (ax_w cs ad h D).set q (ad u, .inl (cs.2.1, n, .inl (upd f x.toNatClampNeg y))) = ax_w cs ad (ax_up h u (ax_az n (upd f x.toNatClampNeg y))) D := by
    rw [← ax_set hDD hqD]
    rfl
  have hP1 : va_P G vwCl ((ax_w cs ad h D).set q (ad u, .inl (cs.2.1, n, .inl (upd f x.toNatClampNeg y)))) H1 := hP1
  have hD1 : va_D A ((ax_w cs ad h D).set q (ad u, .inl (cs.2.1, n, .inl (upd f x.toNatClampNeg y)))) := hD1
  rw [e1] at hP1 hD1
  exact kk p l e s m args below meth c G cs A ad0 h0 X H1 locs1 ls ad ⟨⟨D, fun w => (hD w).trans (ax_dom_up hu w).symm, hP1, hD1⟩, hS1, I.2.2.1, ax_wf_up I.2.2.2.1 hu trivial, fun w hw => ax_ok_mono mono (ax_md (ax_md (ax_md I.st)) w hw), fun i w hw => ax_ok_mono mono (I.2.2.2.2.2.1 i w hw), fun w hw => ⟨(I.2.2.2.2.2.2.1 w hw).1, mono w (I.2.2.2.2.2.2.1 w hw).2⟩, I.2.2.2.2.2.2.2⟩
end AXH
