section AXN
variable {Y : ax_M} {d mc ms : Nat} {Fi : Option ax_V → ax_H → Prop} {pc : Nat} {L : List (Option ax_V)} {S : List ax_V} {h : ax_H} {uc us : Nat}
/-- one cell more: what goes on in the machine goes on in the abstract heap -/
theorem ax_grown {s : State} {G : va_G} {cs : ax_K} {A : Nat → Prop} {ad0 : ax_N → Nat} {h0 : ax_H} {H H1 : Heap} {locs : List Loc} {ls : Array Slot} {ad : ax_N → Nat} {S0 : List ax_V} {D : List ax_N} {u : ax_N} {q : Nat} {c : ax_C} (I : ax_I Y s G cs A ad0 h0 H locs ls ad L S0 h) (hD : ∀ u, u ∈ D ↔ h u ≠ none) (hS : ∀ v ∈ S, ax_ok h v) (hu : h u = none) (hn : u ≠ ax_E) (hc : ax_okc h c)
    (hP : va_P G vwCl (ax_w cs ad h D ++ [(q, ax_c cs ad c)]) H1) (hA : va_D A (ax_w cs ad h D ++ [(q, ax_c cs ad c)])) (hSS : va_S A s.heap H1 locs) :
    ax_I Y s G cs A ad0 h0 H1 locs ls (ax_ad ad u q) L (ax_r u :: S) (ax_up h u c) ∧ S.map (ax_v ad) = S.map (ax_v (ax_ad ad u q)) := by
  have same : ∀ w, h w ≠ none → ax_ad ad u q w = ad w := fun w hh => ax_ad_n (fun e => hh (by rw [e, hu]))
  have hE : ax_ad ad u q ax_E = ad ax_E := ax_ad_n (Ne.symm hn)
  have mono : ∀ w, h w ≠ none → ax_up h u c w ≠ none := fun w hh => by
    by_cases e : w = u
    · subst e; rw [ax_up_s]; exact fun z => by cases z
    · rw [ax_up_n e]; exact hh
  refine ⟨⟨ax_push hD I.2.2.2.1 hu hn hc hP hA, hSS, ⟨I.2.2.1.1, I.2.2.1.2.1, fun i w hw => ?_⟩, ax_wf_new I.2.2.2.1 hn hc, ax_mc (Or.inl (by rw [ax_up_s]; exact fun z => by cases z)) (fun w hw => ax_ok_mono mono (hS w hw)), fun i w hw => ax_ok_mono mono (I.2.2.2.2.2.1 i w hw), fun w hw => ?_, by rw [hE]; exact I.2.2.2.2.2.2.2⟩, (ax_S_eq same hE hS).symm⟩
  · rw [ax_v_eq same hE (I.2.2.2.2.2.1 i w hw)]
    exact I.2.2.1.2.2 i w hw
  · obtain ⟨g1, g2⟩ := I.2.2.2.2.2.2.1 w hw
    exact ⟨(same w g2).trans g1, mono w g2⟩
theorem ax_newi {x : Int32} (u : ax_N) (N : Nat) (hd : decode Y.2.1 pc = .ok (.newarray .int, 2)) (ha : Cond.arrayClass .int ∈ ax_T) (hx : ¬ x < 0) (hN : x.toNatClampNeg = N) (hb : N ≤ 1000000) (hu : h u = none) (hn : u ≠ ax_E) (hc1 : uc + 1 ≤ mc) (hs1 : us + N ≤ ms)
    (kk : ax_Z Y d mc ms Fi (pc + 2) L (ax_r u :: S) (ax_up h u (ax_ai N (fun _ => 0))) (uc + 1) (us + N)) : ax_Z Y d mc ms Fi pc L (ax_i x :: S) h uc us := by
  intro p l e s m args below meth c G cs A ad0 h0 X H locs ls ad I
  obtain ⟨D, hD, hP, hDD⟩ := I.1
  refine va_newa (D := G) (atype := .int) (ty := .int) (a0 := (N, .inl (fun _ => 0))) X.1 X.2.1 (X.2.2.2.2.1 _ ha) rfl X.2.2.2.2.2.2.2.2.1 hP hDD I.2.1 X.2.2.2.2.2.2.2.2.2.1 (fun cA => rfl) hx hN (by show N * 4 ≤ _; omega) hc1 hs1 hd (fun q cA H1 hK1 hP1 hD1 hS1 => ?_)
  have e1 : s.vm.findClass ("[" ++ FieldType.int.toString) = some cA := (hK1.2 3 _ rfl).2
  have e2 : s.vm.findClass ("[" ++ FieldType.int.toString) = some cs.1 := (X.2.2.2.2.2.2.2.2.1.2 0 _ rfl).2
  have e3 : cA = cs.1 := Option.some.inj (e1.symm.trans e2)
  subst e3
  obtain ⟨I1, e4⟩ := ax_grown (u := u) (c := ax_ai N (fun _ => 0)) (q := q) I hD (ax_md I.st) hu hn trivial hP1 hD1 hS1
  have k1 := kk p l e s m args below meth c G cs A ad0 h0 X H1 locs ls _ I1
  have e5 : (ax_r u :: S).map (ax_v (ax_ad ad u q)) = Value.ref q :: S.map (ax_v ad) := by
    rw [e4]
    show va_rf (some (ax_ad ad u q u)) :: _ = _
    rw [ax_ad_s]
    rfl
  rw [e5] at k1
  exact k1
theorem ax_newz {x : Int32} (u : ax_N) (N : Nat) (hd : decode Y.2.1 pc = .ok (.newarray .boolean, 2)) (ha : Cond.arrayClass .boolean ∈ ax_T) (hx : ¬ x < 0) (hN : x.toNatClampNeg = N) (hb : N ≤ 1000000) (hu : h u = none) (hn : u ≠ ax_E) (hc1 : uc + 1 ≤ mc) (hs1 : us + N ≤ ms)
    (kk : ax_Z Y d mc ms Fi (pc + 2) L (ax_r u :: S) (ax_up h u (ax_az N (fun _ => 0))) (uc + 1) (us + N)) : ax_Z Y d mc ms Fi pc L (ax_i x :: S) h uc us := by
  intro p l e s m args below meth c G cs A ad0 h0 X H locs ls ad I
  obtain ⟨D, hD, hP, hDD⟩ := I.1
  refine va_newa (D := G) (atype := .boolean) (ty := .boolean) (a0 := (N, .inl (fun _ => 0))) X.1 X.2.1 (X.2.2.2.2.1 _ ha) rfl X.2.2.2.2.2.2.2.2.1 hP hDD I.2.1 X.2.2.2.2.2.2.2.2.2.1 (fun cA => rfl) hx hN (by show N * 1 ≤ _; omega) hc1 hs1 hd (fun q cA H1 hK1 hP1 hD1 hS1 => ?_)
  have e1 : s.vm.findClass ("[" ++ FieldType.boolean.toString) = some cA := (hK1.2 3 _ rfl).2
  have e2 : s.vm.findClass ("[" ++ FieldType.boolean.toString) = some cs.2.1 := (X.2.2.2.2.2.2.2.2.1.2 1 _ rfl).2
  have e3 : cA = cs.2.1 := Option.some.inj (e1.symm.trans e2)
  subst e3
  obtain ⟨I1, e4⟩ := ax_grown (u := u) (c := ax_az N (fun _ => 0)) (q := q) I hD (ax_md I.st) hu hn trivial hP1 hD1 hS1
  have k1 := kk p l e s m args below meth c G cs A ad0 h0 X H1 locs ls _ I1
  have e5 : (ax_r u :: S).map (ax_v (ax_ad ad u q)) = Value.ref q :: S.map (ax_v ad) := by
    rw [e4]
    show va_rf (some (ax_ad ad u q u)) :: _ = _
    rw [ax_ad_s]
    rfl
  rw [e5] at k1
  exact k1
theorem ax_new {ix ci N : Nat} {C : String} {T : u_T} {fs : List ax_V} (u : ax_N) (hd : decode Y.2.1 pc = .ok (.new ix, 3)) (hc : vwCl[ci]? = some (C, T, N)) (w1 : Cond.classLink Y.1 ix C ∈ ax_T) (w2 : Cond.instantiable C N ∈ ax_T) (w3 : Cond.initialized C ∈ ax_T) (hfs : ∀ (ad : ax_N → Nat) (ty : Nat → FieldType), (∀ k, k < N → parseFieldDescriptor (T k).2.2.1 = some (ty k)) → ∀ j, j < N → defaultValue (ty j) = vp_V (fs.map (ax_v ad)) j) (hok : ∀ v ∈ fs, ∀ h1 : ax_H, ax_ok h1 v) (hu : h u = none) (hn : u ≠ ax_E) (hc1 : uc + 1 ≤ mc) (hs1 : us + N ≤ ms)
    (kk : ax_Z Y d mc ms Fi (pc + 3) L (ax_r u :: S) (ax_up h u (ax_o ci fs)) (uc + 1) (us + N)) : ax_Z Y d mc ms Fi pc L S h uc us := by
  intro p l e s m args below meth c G cs A ad0 h0 X H locs ls ad I
  obtain ⟨D, hD, hP, hDD⟩ := I.1
  obtain ⟨hin, ty0, hty0, hnm⟩ := ax_cls hc
  refine va_new (D := G) (fs := fs.map (ax_v ad)) X.1 X.2.1 X.2.2.2.2.1 hin ty0 hty0 X.2.2.2.1 (X.2.2.2.2.1 _ w1) (X.2.2.2.2.1 _ w2) (X.2.2.2.2.1 _ w3) X.2.2.2.2.2.2.2.2.1 hP hDD I.2.1 X.2.2.2.2.2.2.2.2.2.1 hc (hfs ad ty0 hty0) hc1 hs1 hd (fun q H1 hP1 hD1 hS1 => ?_)
  obtain ⟨I1, e4⟩ := ax_grown (u := u) (c := ax_o ci fs) (q := q) I hD I.st hu hn (fun v hv => hok v hv h) hP1 hD1 hS1
  have k1 := kk p l e s m args below meth c G cs A ad0 h0 X H1 locs ls _ I1
  have e5 : (ax_r u :: S).map (ax_v (ax_ad ad u q)) = Value.ref q :: S.map (ax_v ad) := by
    rw [e4]
    show va_rf (some (ax_ad ad u q u)) :: _ = _
    rw [ax_ad_s]
    rfl
  rw [e5] at k1
  exact k1
theorem ax_oinit {ix : Nat} {u : ax_N} (hd : decode Y.2.1 pc = .ok (.invokespecial ix, 3)) (w1 : Cond.methodLink Y.1 ix objectInit ∈ ax_T) (w2 : Cond.instanceMethod objectInit ∈ ax_T) (w3 : Cond.code objectInit ⟨#[0xb1]⟩ 1 none ∈ ax_T) (hdd : 1 ≤ d) (hS8 : 2 * S.length ≤ 8)
    (kk : ax_Z Y d mc ms Fi (pc + 3) L S h uc us) : ax_Z Y d mc ms Fi pc L (ax_r u :: S) h uc us := by
  intro p l e s m args below meth c G cs A ad0 h0 X H locs ls ad I
  have hcat : (((S.map (ax_v ad))).map fun v => v.category).sum ≤ 8 := by
    have : ∀ S0 : List ax_V, ((S0.map (ax_v ad)).map fun v => v.category).sum ≤ 2 * S0.length := by
      intro S0
      induction S0 with
      | nil => exact Nat.le_refl _
      | cons x l ih =>
        have := lv_cat (ax_v ad x)
        simp only [List.map_cons, List.sum_cons, List.length_cons]
        omega
    exact Nat.le_trans (this S) hS8
  have hroom : 2 * (F0 m pc ls ((ax_r u :: S).map (ax_v ad))).monitorRoom + ((S.map (ax_v ad)).map fun v => v.category).sum + 12 ≤ (ax_rm d mc ms).locals := by
    show 2 * 0 + _ + 12 ≤ 37 * d
    omega
  exact W.objInit X.1 X.2.1 X.2.2.2.1 (X.2.2.2.2.1 _ w1) (X.2.2.2.2.1 _ w2) (X.2.2.2.2.1 _ w3) rfl (by rw [X.2.2.1]; exact I.2.2.1.1) rfl hd hdd hroom (kk p l e s m args below meth c G cs A ad0 h0 X H locs ls ad (I.to (ax_md I.st)))
theorem ax_cast {ix ci N : Nat} {C : String} {T : u_T} {fs : List ax_V} {u : ax_N} (hd : decode Y.2.1 pc = .ok (.checkcast ix, 3)) (w1 : Cond.classLink Y.1 ix C ∈ ax_T) (hu : h u = some (ax_o ci fs)) (hc : vwCl[ci]? = some (C, T, N))
    (kk : ax_Z Y d mc ms Fi (pc + 3) L (ax_r u :: S) h uc us) : ax_Z Y d mc ms Fi pc L (ax_r u :: S) h uc us := by
  intro p l e s m args below meth c G cs A ad0 h0 X H locs ls ad I
  obtain ⟨D, hD, hP, hDD⟩ := I.1
  obtain ⟨q, -, hq⟩ := ax_at (G := G) (cs := cs) (ad := ad) hD hu
  exact va_castS X.1 X.2.1 X.2.2.2.1 (X.2.2.2.2.1 _ w1) (X.2.2.2.2.2.2.2.2.1.1 ci _ hc).2 (va_recv X.2.2.2.2.2.2.2.2.1 hP hc hq) hd (kk p l e s m args below meth c G cs A ad0 h0 X H locs ls ad I)
theorem ax_castN {ix : Nat} (hd : decode Y.2.1 pc = .ok (.checkcast ix, 3)) (kk : ax_Z Y d mc ms Fi (pc + 3) L (ax_z :: S) h uc us) : ax_Z Y d mc ms Fi pc L (ax_z :: S) h uc us := by
  intro p l e s m args below meth c G cs A ad0 h0 X H locs ls ad I
  exact lv_castN X.1 X.2.1 hd (kk p l e s m args below meth c G cs A ad0 h0 X H locs ls ad I)
end AXN
-- reading and writing at a place that is a number
section AXJ
variable {Y : ax_M} {d mc ms : Nat} {Fi : Option ax_V → ax_H → Prop} {pc : Nat} {L : List (Option ax_V)} {S : List ax_V} {h : ax_H} {uc us : Nat}
theorem ax_ialdn {u : ax_N} {n : Nat} {f : Nat → Int32} {x : Int32} (j : Nat) (hd : decode Y.2.1 pc = .ok (.iaload, 1)) (hu : h u = some (ax_ai n f)) (hx : x = nI j) (hj : j < n) (hn : n < 2 ^ 31)
    (kk : ax_Z Y d mc ms Fi (pc + 1) L (ax_i (f j) :: S) h uc us) : ax_Z Y d mc ms Fi pc L (ax_i x :: ax_r u :: S) h uc us := by
  subst hx
  refine ax_iald hd hu (vp_in_nI hj hn) ?_
  rw [nI_clamp (by omega)]
  exact kk
theorem ax_zaldn {u : ax_N} {n : Nat} {f : Nat → Int32} {x : Int32} (j : Nat) (hd : decode Y.2.1 pc = .ok (.baload, 1)) (hu : h u = some (ax_az n f)) (hx : x = nI j) (hj : j < n) (hn : n < 2 ^ 31)
    (kk : ax_Z Y d mc ms Fi (pc + 1) L (ax_i (f j) :: S) h uc us) : ax_Z Y d mc ms Fi pc L (ax_i x :: ax_r u :: S) h uc us := by
  subst hx
  refine ax_zald hd hu (vp_in_nI hj hn) ?_
  rw [nI_clamp (by omega)]
  exact kk
theorem ax_iastn {u : ax_N} {n : Nat} {f : Nat → Int32} {x y : Int32} {h1 : ax_H} (j : Nat) (hd : decode Y.2.1 pc = .ok (.iastore, 1)) (hu : h u = some (ax_ai n f)) (hx : x = nI j) (hj : j < n) (hn : n < 2 ^ 31) (he : ax_up h u (ax_ai n (upd f j y)) = h1)
    (kk : ax_Z Y d mc ms Fi (pc + 1) L S h1 uc us) : ax_Z Y d mc ms Fi pc L (ax_i y :: ax_i x :: ax_r u :: S) h uc us := by
  subst hx
  exact ax_iast hd hu (vp_in_nI hj hn) (by rw [nI_clamp (by omega)]; exact he) kk
theorem ax_zastn {u : ax_N} {n : Nat} {f : Nat → Int32} {x y : Int32} {h1 : ax_H} (j : Nat) (hd : decode Y.2.1 pc = .ok (.bastore, 1)) (hu : h u = some (ax_az n f)) (hx : x = nI j) (hj : j < n) (hn : n < 2 ^ 31) (hy : y = 0 ∨ y = 1) (he : ax_up h u (ax_az n (upd f j y)) = h1)
    (kk : ax_Z Y d mc ms Fi (pc + 1) L S h1 uc us) : ax_Z Y d mc ms Fi pc L (ax_i y :: ax_i x :: ax_r u :: S) h uc us := by
  subst hx
  exact ax_zast hd hu (vp_in_nI hj hn) hy (by rw [nI_clamp (by omega)]; exact he) kk
end AXJ
