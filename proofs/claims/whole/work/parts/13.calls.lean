/-- what a call of an instance method, a static one, a constructor needs of the tables -/
def ax_cV (own : String) (ix : Nat) (y : MethodName) (Y1 : ax_M) (n : Nat) : Prop :=
  Cond.methodLink own ix y ∈ ax_T ∧ Cond.instanceMethod y ∈ ax_T ∧ Cond.selects y.cls y y ∈ ax_T ∧ Cond.initialized y.cls ∈ ax_T ∧ Cond.code y Y1.2.1 Y1.2.2.1 Y1.2.2.2.1 ∈ ax_T ∧ (y.cls ≠ "java/lang/invoke/MethodHandle" ∧ y.cls ≠ "java/lang/invoke/VarHandle" ∧ (parseMethodDescriptor y.desc).map (fun d => d.parameters.length) = some n) ∧ Y1.2.2.1 ≤ 18
def ax_cS (own : String) (ix : Nat) (y : MethodName) (Y1 : ax_M) (n : Nat) : Prop :=
  Cond.methodLink own ix y ∈ ax_T ∧ Cond.static y ∈ ax_T ∧ Cond.initialized y.cls ∈ ax_T ∧ Cond.code y Y1.2.1 Y1.2.2.1 Y1.2.2.2.1 ∈ ax_T ∧ (y.cls ≠ "java/lang/invoke/MethodHandle" ∧ y.cls ≠ "java/lang/invoke/VarHandle" ∧ (parseMethodDescriptor y.desc).map (fun d => d.parameters.length) = some n) ∧ Y1.2.2.1 ≤ 18
def ax_cI (own : String) (ix : Nat) (y : MethodName) (Y1 : ax_M) (n : Nat) : Prop :=
  Cond.methodLink own ix y ∈ ax_T ∧ Cond.instanceMethod y ∈ ax_T ∧ Cond.initialized y.cls ∈ ax_T ∧ Cond.code y Y1.2.1 Y1.2.2.1 none ∈ ax_T ∧ (y.cls ≠ "java/lang/invoke/MethodHandle" ∧ y.cls ≠ "java/lang/invoke/VarHandle" ∧ (parseMethodDescriptor y.desc).map (fun d => d.parameters.length) = some n) ∧ Y1.2.2.1 ≤ 18 ∧ y.name = "<init>" ∧ Y1.2.2.2.1 = none
theorem ax_A_in {G : va_G} {cs : ax_K} {ad : ax_N → Nat} {h : ax_H} {A : Nat → Prop} {H H0 : Heap} (hP : ax_P G cs ad h A H) (hs : H0.size ≤ H.size) (hA : ∀ q, H0.size ≤ q → A q) : ∀ q, ax_A ad h H.size q → A q := by
  obtain ⟨D, hD, hPP, hDD⟩ := hP
  intro q hq
  rcases hq with ⟨u, hu, rfl⟩ | hq
  · cases hc : h u with
    | none => exact absurd hc hu
    | some c0 =>
      obtain ⟨k, -, hk⟩ := ax_at (G := G) (cs := cs) (ad := ad) hD hc
      exact hDD.2 k _ hk
  · exact hA q (Nat.le_trans hs hq)
theorem ax_P_A {G : va_G} {cs : ax_K} {ad : ax_N → Nat} {h : ax_H} {A B : Nat → Prop} {H : Heap} (hP : ax_P G cs ad h A H) (hAB : ∀ q, A q → B q) : ax_P G cs ad h B H := by
  obtain ⟨D, hD, hPP, hDD⟩ := hP
  exact ⟨D, hD, hPP, hDD.weaken (fun k q _ => hAB q.1)⟩
theorem ax_P_self {G : va_G} {cs : ax_K} {ad : ax_N → Nat} {h : ax_H} {A : Nat → Prop} {H : Heap} {sz : Nat} (hP : ax_P G cs ad h A H) : ax_P G cs ad h (ax_A ad h sz) H := by
  obtain ⟨D, hD, hPP, hDD⟩ := hP
  refine ⟨D, hD, hPP, hDD.1, fun k q hk => Or.inl ?_⟩
  simp only [ax_w, List.getElem?_map] at hk
  cases hu : D[k]? with
  | none => rw [hu] at hk; cases hk
  | some u =>
    rw [hu] at hk
    cases hk
    exact ⟨u, (hD u).mp (List.mem_of_getElem? hu), rfl⟩
theorem ax_St_to {e0 : Nat} {A B : Nat → Prop} {s U : State} {H : Heap} {locs : List Loc} (h : ax_St e0 A s s.heap) (hS : va_S A s.heap H locs) (hB : ∀ q, B q → A q) (hvm : s.WarmedH U.vm) (hU : U.heap = H) : ax_St e0 B U U.heap := by
  subst hU
  exact ⟨⟨((h.1.1.kept (fun a h1 h2 => hS.2.1 a h1 h2)).narrow hB).moved hvm.alike, ((h.1.2.kept (fun a h1 h2 => hS.2.1 a h1 h2)).narrow hB).moved hvm.alike⟩, h.2.warm hvm⟩
theorem ax_blind {G : va_G} {cs : ax_K} {ad : ax_N → Nat} {h : ax_H} {As : List Value} {sz : Nat} {A : Nat → Prop} : FrameBlind (va_Pc As (fun U => U.heap.size = sz ∧ va_K G vwCl (ax_ty cs) U ∧ ax_P G cs ad h (fun _ => True) U.heap ∧ ax_St (ad ax_E) A U U.heap)) := by
  intro a U g mk q
  obtain ⟨q0, q1, q2, q3, ⟨q4, q5⟩, q6⟩ := q
  exact ⟨q0, q1, va_K.moved (u := U) (U := U.calling g mk a) (Vm.Alike.refl U.vm) q2, q3, ⟨va_Z.moved (u := U) (U := U.calling g mk a) (Vm.Alike.refl U.vm) q4, va_T.moved (u := U) (U := U.calling g mk a) (Vm.Alike.refl U.vm) q5⟩, q6.same (U := U.calling g mk a) rfl⟩
section AXCC
variable {Y : ax_M} {d mc ms : Nat} {Fi : Option ax_V → ax_H → Prop} {pc : Nat} {L : List (Option ax_V)} {S : List ax_V} {h : ax_H} {uc us : Nat}
/-- behind a call -/
theorem ax_cont {p : Program} {l : Launch} {e : Env} {s : State} {m : MethodId} {args : Array Value} {below : List Frame} {meth : Method} {c : Code} {G : va_G} {cs : ax_K} {A : Nat → Prop} {ad0 : ax_N → Nat} {h0 : ax_H} {H : Heap} {locs : List Loc} {ls : Array Slot} {ad : ax_N → Nat} {st0 : List Value} {S0 : List ax_V} {mc1 ms1 : Nat} {a : Array Value} {Fi1 : Option ax_V → ax_H → Prop}
    (X : ax_X Y p s m args meth c G cs A (ad0 ax_E)) (I : ax_I Y s G cs A ad0 h0 H locs ls ad L S0 h) (hS0 : ∀ v ∈ S, ax_ok h v)
    (hr : va_Run p l e (ax_rm d mc ms) s m args below meth c H locs uc us mc1 ms1 (F0 m pc ls st0) (S.map (ax_v ad)) (ax_Qc G cs ad h (ax_A ad h H.size) Fi1 a) (ax_A ad h H.size))
    (kk : ∀ (r : Option ax_V) (h1 : ax_H), Fi1 r h1 → (∀ u, h u ≠ none → h1 u ≠ none) → ax_Z Y d mc ms Fi (pc + 3) L (r.toList ++ S) h1 (uc + mc1) (us + ms1)) :
    W p l e (ax_rm d mc ms) s m args below meth c H locs uc us (MQ below (ax_Qc G cs ad0 h0 A Fi) args s mc ms A) (F0 m pc ls st0) := by
  have hAin := ax_A_in I.1 I.2.1.1 X.2.2.2.2.2.2.2.2.2.1
  intro T hT XS
  obtain ⟨v, st₀, t, T', Lc, q0, X', hL, e1, e2, ⟨⟨r, h1, ad1, hv, hF, hP1, hw1, hok1, had, hE⟩, hz, hk⟩, st⟩ := hr T hT XS
  rw [q0] at hz hk
  cases hv
  have same : ∀ u, h u ≠ none → ad1 u = ad u := fun u hu => (had u hu).1
  have mono : ∀ u, h u ≠ none → h1 u ≠ none := fun u hu => (had u hu).2
  have hS1 : va_S A s.heap T'.heap (locs ++ Lc) := by
    refine ⟨Nat.le_trans I.2.1.1 (by rw [e1]; exact hz), fun q g1 g2 => ?_, fun q hq => ?_⟩
    · rw [e1, hk q (Nat.lt_of_lt_of_le g1 I.2.1.1) (fun z => g2 (hAin q z))]
      exact I.2.1.2.1 q g1 g2
    · rcases List.mem_append.mp hq with g | g
      · exact I.2.1.2.2 q g
      · exact hAin _ (hL q g)
  have hSe : (r.map (ax_v ad1)).toList ++ S.map (ax_v ad) = (r.toList ++ S).map (ax_v ad1) := by
    rw [List.map_append, ax_S_eq same hE hS0]
    cases r <;> rfl
  have I1 : ax_I Y s G cs A ad0 h0 T'.heap (locs ++ Lc) ls ad1 L (r.toList ++ S) h1 := by
    refine ⟨by rw [e1]; exact ax_P_A hP1 hAin, hS1, ⟨I.2.2.1.1, I.2.2.1.2.1, fun i w hw => ?_⟩, hw1, fun w hw => ?_, fun i w hw => ax_ok_mono mono (I.2.2.2.2.2.1 i w hw), fun u hu => ?_, by rw [hE]; exact I.2.2.2.2.2.2.2⟩
    · rw [ax_v_eq same hE (I.2.2.2.2.2.1 i w hw)]
      exact I.2.2.1.2.2 i w hw
    · rcases List.mem_append.mp hw with g | g
      · cases r with
        | none => cases g
        | some x =>
          rw [List.mem_singleton.mp g]
          exact hok1 x rfl
      · exact ax_ok_mono mono (hS0 w g)
    · obtain ⟨g1, g2⟩ := I.2.2.2.2.2.2.1 u hu
      exact ⟨(same u g2).trans g1, mono u g2⟩
  obtain ⟨t2, a1, b1⟩ := kk r h1 hF mono p l e s m args below meth c G cs A ad0 h0 X T'.heap (locs ++ Lc) ls ad1 I1 T' rfl X'
  refine ⟨t2, st t2 ?_, b1⟩
  rw [hSe]
  exact a1
theorem ax_callV {ix n ci : Nat} {y : MethodName} {Y1 : ax_M} {d1 mc1 ms1 : Nat} {As : List ax_V} {u : ax_N} {fs : List ax_V} {T : u_T} {N : Nat} {Fi1 : Option ax_V → ax_H → Prop} (hcv : ax_cV Y.1 ix y Y1 n) (hd : decode Y.2.1 pc = .ok (.invokevirtual ix, 3)) (hu : h u = some (ax_o ci fs)) (hci : vwCl[ci]? = some (y.cls, T, N)) (hn : As.length = n) (hok : ax_Ok Y1 y d1 mc1 ms1 (ax_r u :: As) h Fi1) (hdd : d1 + 1 ≤ d) (hc1 : uc + mc1 ≤ mc) (hs1 : us + ms1 ≤ ms) (hS8 : 2 * S.length ≤ 8)
    (kk : ∀ (r : Option ax_V) (h1 : ax_H), Fi1 r h1 → (∀ w, h w ≠ none → h1 w ≠ none) → ax_Z Y d mc ms Fi (pc + 3) L (r.toList ++ S) h1 (uc + mc1) (us + ms1)) : ax_Z Y d mc ms Fi pc L (As.reverse ++ ax_r u :: S) h uc us := by
  intro p l e s m args below meth c G cs A ad0 h0 X H locs ls ad I
  have hSt : ∀ v ∈ S, ax_ok h v := fun v hv => I.st v (List.mem_append_right _ (List.mem_cons_of_mem _ hv))
  have hAs : ∀ v ∈ ax_r u :: As, ax_ok h v := ax_mc (I.st _ (List.mem_append_right _ List.mem_cons_self)) (fun v hv => I.st v (List.mem_append_left _ (List.mem_reverse.mpr hv)))
  have hM := hok l G cs ad H.size I.2.2.2.1 hAs
  obtain ⟨w1, w2, w3, w4, w5, w6, w7⟩ := hcv
  have hAin := ax_A_in I.1 I.2.1.1 X.2.2.2.2.2.2.2.2.2.1
  have hcat : (((S.map (ax_v ad))).map fun v => v.category).sum ≤ 8 := by
    have : ∀ S0 : List ax_V, ((S0.map (ax_v ad)).map fun v => v.category).sum ≤ 2 * S0.length := by
      intro S0
      induction S0 with
      | nil => exact Nat.le_refl _
      | cons x l ih =>
        have := lv_cat (ax_v ad x)
        simp only [List.map_cons, List.sum_cons, List.length_cons]
        omega
    exact Nat.le_trans (this S) hS8
  refine ax_cont X I hSt (va_runV (As := As.map (ax_v ad)) (b := ad u) (C := y.cls) (bytes := Y1.2.1) (maxL := Y1.2.2.1) (ret := Y1.2.2.2.1) (n := n) ⟨X.1, X.2.1, X.2.2.1, X.2.2.2.1, X.2.2.2.2.1⟩ hM ?_ ?_ rfl (by simpa using hn) I.2.2.1.1 (by simp [ax_v, va_rf]) (lv_room hcat) hd ⟨hc1, hs1⟩) kk
  · refine cwV n X.2.2.2.2.1 (ax_good (fun w h => h) (fun w hw => ?_)) rfl rfl rfl ⟨rfl, w6⟩ ⟨hdd, ?_⟩
    · simp only [wsV, List.mem_append, List.mem_cons, List.not_mem_nil, or_false] at hw
      rcases hw with (rfl | rfl | rfl | rfl) | rfl | hw
      · exact w1
      · exact w2
      · exact w3
      · exact w4
      · exact w5
      · exact hw
    · show 8 + (Y1.2.2.1 + 11) + 37 * d1 ≤ 37 * d
      omega
  · obtain ⟨D, hD, hPP, hDD⟩ := I.1
    obtain ⟨k, -, hk⟩ := ax_at (G := G) (cs := cs) (ad := ad) hD hu
    exact ⟨ax_blind, va_recv X.2.2.2.2.2.2.2.2.1 hPP hci hk, fun U hU hW => ⟨rfl, by rw [hU], va_K.moved hW.alike X.2.2.2.2.2.2.2.2.1, by rw [hU]; exact ax_P_A I.1 (fun _ _ => trivial), ax_St_to (by rw [I.2.2.2.2.2.2.2]; exact X.2.2.2.2.2.2.2.2.2.2) I.2.1 hAin hW hU⟩⟩
theorem ax_callS {ix n : Nat} {y : MethodName} {Y1 : ax_M} {d1 mc1 ms1 : Nat} {As : List ax_V} {Fi1 : Option ax_V → ax_H → Prop} (hcv : ax_cS Y.1 ix y Y1 n) (hd : decode Y.2.1 pc = .ok (.invokestatic ix, 3)) (hn : As.length = n) (hok : ax_Ok Y1 y d1 mc1 ms1 As h Fi1) (hdd : d1 + 1 ≤ d) (hc1 : uc + mc1 ≤ mc) (hs1 : us + ms1 ≤ ms) (hS8 : 2 * S.length ≤ 8)
    (kk : ∀ (r : Option ax_V) (h1 : ax_H), Fi1 r h1 → (∀ w, h w ≠ none → h1 w ≠ none) → ax_Z Y d mc ms Fi (pc + 3) L (r.toList ++ S) h1 (uc + mc1) (us + ms1)) : ax_Z Y d mc ms Fi pc L (As.reverse ++ S) h uc us := by
  intro p l e s m args below meth c G cs A ad0 h0 X H locs ls ad I
  have hSt : ∀ v ∈ S, ax_ok h v := fun v hv => I.st v (List.mem_append_right _ hv)
  have hAs : ∀ v ∈ As, ax_ok h v := fun v hv => I.st v (List.mem_append_left _ (List.mem_reverse.mpr hv))
  have hM := hok l G cs ad H.size I.2.2.2.1 hAs
  obtain ⟨w1, w2, w4, w5, w6, w7⟩ := hcv
  have hAin := ax_A_in I.1 I.2.1.1 X.2.2.2.2.2.2.2.2.2.1
  have hcat : (((S.map (ax_v ad))).map fun v => v.category).sum ≤ 8 := by
    have : ∀ S0 : List ax_V, ((S0.map (ax_v ad)).map fun v => v.category).sum ≤ 2 * S0.length := by
      intro S0
      induction S0 with
      | nil => exact Nat.le_refl _
      | cons x l ih =>
        have := lv_cat (ax_v ad x)
        simp only [List.map_cons, List.sum_cons, List.length_cons]
        omega
    exact Nat.le_trans (this S) hS8
  refine ax_cont X I hSt (va_runS (As := As.map (ax_v ad)) (bytes := Y1.2.1) (maxL := Y1.2.2.1) (ret := Y1.2.2.2.1) (n := n) ⟨X.1, X.2.1, X.2.2.1, X.2.2.2.1, X.2.2.2.2.1⟩ hM ?_ ?_ rfl (by simpa using hn) I.2.2.1.1 (by simp) (lv_room hcat) hd ⟨hc1, hs1⟩) kk
  · refine va_cwS n X.2.2.2.2.1 (ax_good (fun w h => h) (fun w hw => ?_)) rfl rfl rfl w6 ⟨hdd, ?_⟩
    · simp only [va_wsS, List.mem_append, List.mem_cons, List.not_mem_nil, or_false] at hw
      rcases hw with (rfl | rfl | rfl) | rfl | hw
      · exact w1
      · exact w2
      · exact w4
      · exact w5
      · exact hw
    · show 8 + (Y1.2.2.1 + 11) + 37 * d1 ≤ 37 * d
      omega
  · exact ⟨ax_blind, fun U hU hW => ⟨rfl, by rw [hU], va_K.moved hW.alike X.2.2.2.2.2.2.2.2.1, by rw [hU]; exact ax_P_A I.1 (fun _ _ => trivial), ax_St_to (by rw [I.2.2.2.2.2.2.2]; exact X.2.2.2.2.2.2.2.2.2.2) I.2.1 hAin hW hU⟩⟩
theorem ax_callI {ix n : Nat} {y : MethodName} {Y1 : ax_M} {d1 mc1 ms1 : Nat} {As : List ax_V} {u : ax_N} {Fi1 : Option ax_V → ax_H → Prop} (hcv : ax_cI Y.1 ix y Y1 n) (hd : decode Y.2.1 pc = .ok (.invokespecial ix, 3)) (hn : As.length = n) (hok : ax_Ok Y1 y d1 mc1 ms1 (ax_r u :: As) h Fi1) (hdd : d1 + 1 ≤ d) (hc1 : uc + mc1 ≤ mc) (hs1 : us + ms1 ≤ ms) (hS8 : 2 * S.length ≤ 8)
    (kk : ∀ (r : Option ax_V) (h1 : ax_H), Fi1 r h1 → (∀ w, h w ≠ none → h1 w ≠ none) → ax_Z Y d mc ms Fi (pc + 3) L (r.toList ++ S) h1 (uc + mc1) (us + ms1)) : ax_Z Y d mc ms Fi pc L (As.reverse ++ ax_r u :: S) h uc us := by
  intro p l e s m args below meth c G cs A ad0 h0 X H locs ls ad I
  have hSt : ∀ v ∈ S, ax_ok h v := fun v hv => I.st v (List.mem_append_right _ (List.mem_cons_of_mem _ hv))
  have hAs : ∀ v ∈ ax_r u :: As, ax_ok h v := ax_mc (I.st _ (List.mem_append_right _ List.mem_cons_self)) (fun v hv => I.st v (List.mem_append_left _ (List.mem_reverse.mpr hv)))
  have hM := hok l G cs ad H.size I.2.2.2.1 hAs
  obtain ⟨w1, w2, w4, w5, w6, w7, w8, w9⟩ := hcv
  rw [w9] at hM
  have hAin := ax_A_in I.1 I.2.1.1 X.2.2.2.2.2.2.2.2.2.1
  have hcat : (((S.map (ax_v ad))).map fun v => v.category).sum ≤ 8 := by
    have : ∀ S0 : List ax_V, ((S0.map (ax_v ad)).map fun v => v.category).sum ≤ 2 * S0.length := by
      intro S0
      induction S0 with
      | nil => exact Nat.le_refl _
      | cons x l ih =>
        have := lv_cat (ax_v ad x)
        simp only [List.map_cons, List.sum_cons, List.length_cons]
        omega
    exact Nat.le_trans (this S) hS8
  have hts := X.2.2.2.2.1
  refine ax_cont X I hSt (va_runI (As := As.map (ax_v ad)) (b := ad u) (bytes := Y1.2.1) (maxL := Y1.2.2.1) (n := n) ⟨X.1, X.2.1, X.2.2.1, X.2.2.2.1, X.2.2.2.2.1⟩ hM (cwI n hts (ax_good (fun w h => h) (fun w hw => ?_)) rfl rfl rfl (hts _ w4) (hts _ w1) (hts _ w2) w8 w6 ⟨hdd, ?_⟩) ?_ rfl (by simpa using hn) I.2.2.1.1 (by simp [ax_v, va_rf]) (lv_room hcat) hd ⟨hc1, hs1⟩) kk
  · rcases List.mem_cons.mp hw with rfl | hw
    · exact w5
    · exact hw
  · show 8 + (Y1.2.2.1 + 11) + 37 * d1 ≤ 37 * d
    omega
  · exact ⟨ax_blind, fun U hU hW => ⟨rfl, by rw [hU], va_K.moved hW.alike X.2.2.2.2.2.2.2.2.1, by rw [hU]; exact ax_P_A I.1 (fun _ _ => trivial), ax_St_to (by rw [I.2.2.2.2.2.2.2]; exact X.2.2.2.2.2.2.2.2.2.2) I.2.1 hAin hW hU⟩⟩
end AXCC
/-- the locals at a method's entry -/
def ax_L0 (n : Nat) (As : List ax_V) : List (Option ax_V) :=
  let l := As.flatMap fun v => match v with
    | .inr (.inl x) => [some (.inr (.inl x)), none]
    | v => [some v]
  l ++ List.replicate (n - l.length) none
def ax_fl (As : List ax_V) : List (Option ax_V) := As.flatMap fun v => match v with
    | .inr (.inl x) => [some (.inr (.inl x)), none]
    | v => [some v]
theorem ax_fl_mem {ad : ax_N → Nat} : ∀ (As : List ax_V) (b i : Nat) (v : ax_V), (ax_fl As)[i]? = some (some v) → (b + i, ax_v ad v) ∈ lv_args b (As.map (ax_v ad)) ∧ v ∈ As
  | [], b, i, v, hi => by simp [ax_fl] at hi
  | w :: As, b, i, v, hi => by
    rcases w with x | x | r
    · have e : ax_fl (Sum.inl x :: As) = some (Sum.inl x) :: ax_fl As := rfl
      rw [e] at hi
      have e2 : lv_args b ((Sum.inl x :: As).map (ax_v ad)) = (b, Value.int x) :: lv_args (b + 1) (As.map (ax_v ad)) := rfl
      rw [e2]
      cases i with
      | zero => cases hi; exact ⟨List.mem_cons_self, List.mem_cons_self⟩
      | succ i =>
        obtain ⟨g1, g2⟩ := ax_fl_mem (ad := ad) As (b + 1) i v hi
        rw [show b + (i + 1) = b + 1 + i by omega]
        exact ⟨List.mem_cons_of_mem _ g1, List.mem_cons_of_mem _ g2⟩
    · have e : ax_fl (Sum.inr (Sum.inl x) :: As) = some (Sum.inr (Sum.inl x)) :: none :: ax_fl As := rfl
      rw [e] at hi
      have e2 : lv_args b ((Sum.inr (Sum.inl x) :: As).map (ax_v ad)) = (b, Value.long x) :: lv_args (b + 2) (As.map (ax_v ad)) := rfl
      rw [e2]
      match i, hi with
      | 0, hi => cases hi; exact ⟨List.mem_cons_self, List.mem_cons_self⟩
      | 1, hi => cases hi
      | i + 2, hi =>
        obtain ⟨g1, g2⟩ := ax_fl_mem (ad := ad) As (b + 2) i v hi
        rw [show b + (i + 2) = b + 2 + i by omega]
        exact ⟨List.mem_cons_of_mem _ g1, List.mem_cons_of_mem _ g2⟩
    · have e : ax_fl (Sum.inr (Sum.inr r) :: As) = some (Sum.inr (Sum.inr r)) :: ax_fl As := rfl
      rw [e] at hi
      have e2 : lv_args b ((Sum.inr (Sum.inr r) :: As).map (ax_v ad)) = (b, ax_v ad (ax_q r)) :: lv_args (b + 1) (As.map (ax_v ad)) := by
        cases r <;> rfl
      rw [e2]
      cases i with
      | zero => cases hi; exact ⟨List.mem_cons_self, List.mem_cons_self⟩
      | succ i =>
        obtain ⟨g1, g2⟩ := ax_fl_mem (ad := ad) As (b + 1) i v hi
        rw [show b + (i + 1) = b + 1 + i by omega]
        exact ⟨List.mem_cons_of_mem _ g1, List.mem_cons_of_mem _ g2⟩
theorem ax_fl_len {ad : ax_N → Nat} : ∀ (As : List ax_V), (lg_sl (As.map (ax_v ad))).length = (ax_fl As).length
  | [] => rfl
  | w :: As => by
    have ih := ax_fl_len (ad := ad) As
    have e1 : lg_sl ((w :: As).map (ax_v ad)) = (if (ax_v ad w).category = 2 then [Slot.val (ax_v ad w), Slot.second] else [Slot.val (ax_v ad w)]) ++ lg_sl (As.map (ax_v ad)) := rfl
    rw [e1]
    rcases w with x | x | r
    · have e : ax_fl (Sum.inl x :: As) = some (Sum.inl x) :: ax_fl As := rfl
      rw [e, List.length_append, ih]
      simp [ax_v, Value.category]
      omega
    · have e : ax_fl (Sum.inr (Sum.inl x) :: As) = some (Sum.inr (Sum.inl x)) :: none :: ax_fl As := rfl
      rw [e, List.length_append, ih]
      simp [ax_v, Value.category]
      omega
    · have e : ax_fl (Sum.inr (Sum.inr r) :: As) = some (Sum.inr (Sum.inr r)) :: ax_fl As := rfl
      have e3 := ax_cat (ad := ad) (r := r)
      rw [e, List.length_append, ih]
      have e4 : (ax_v ad (Sum.inr (Sum.inr r))).category = 1 := e3
      simp [e4]
      omega
theorem ax_fl_at {n : Nat} {As : List ax_V} {i : Nat} {v : ax_V} (hi : (ax_L0 n As)[i]? = some (some v)) : (ax_fl As)[i]? = some (some v) := by
  have e : ax_L0 n As = ax_fl As ++ List.replicate (n - (ax_fl As).length) none := rfl
  rw [e] at hi
  by_cases hl : i < (ax_fl As).length
  · rw [List.getElem?_append_left hl] at hi
    exact hi
  · rw [List.getElem?_append_right (by omega), List.getElem?_replicate] at hi
    split at hi
    · cases hi
    · cases hi
/-- a contract out of the walk from the entry -/
theorem ax_Ok.of {Y : ax_M} {y : MethodName} {d mc ms : Nat} {As : List ax_V} {h : ax_H} {Fi : Option ax_V → ax_H → Prop} {L : List (Option ax_V)} (hy : plainName y.cls = true) (hY : y.cls = Y.1) (hi : Y.2.2.2.2 = true → y.name = "<init>") (hlen : (ax_fl As).length ≤ Y.2.2.1) (hL : ax_L0 Y.2.2.1 As = L) (k : ax_Z Y d mc ms Fi 0 L [] h 0 0) : ax_Ok Y y d mc ms As h Fi := by
  subst hL
  intro l G cs ad sz hw hAs
  refine Met.ofW (cc := Y.2.1) (maxL := Y.2.2.1) (ret := Y.2.2.2.1) hy rfl ?_
  intro p e s m args below meth c s₁ B hml hv
  obtain ⟨rfl, hsz, hK, hP, hSt⟩ := hv
  subst hsz
  have hts := atoms_spec (ws := Cond.code y Y.2.1 Y.2.2.1 Y.2.2.2.1 :: ax_T) B.pre
  have hown : s.vm.findClass Y.1 = some m.cls := by rw [← hY]; exact findClass_of_methodNamed B.named
  have hin : Y.2.2.2.2 = true → meth.name = "<init>" := fun q => by rw [(name_of_methodNamed B.named B.method).1]; exact hi q
  have hl := lv_entry (As.map (ax_v ad)) (n := Y.2.2.1) (by rw [ax_fl_len]; exact hlen)
  rw [lg_entry_eq]
  generalize (lg_sl (As.map (ax_v ad)) ++ List.replicate (Y.2.2.1 - (lg_sl (As.map (ax_v ad))).length) Slot.unset).toArray = ls at hl ⊢
  refine k p l e s m _ below meth c G cs (ax_A ad h s.heap.size) ad h ⟨B.exec, B.bytes, hml, hown, fun w hw => hts w (List.mem_cons_of_mem _ hw), B.returns, B.notSynchronized, hin, hK, fun q hq => Or.inr hq, hSt⟩ s.heap [] ls ad ⟨ax_P_self hP, va_S.rf, ⟨hl.1, hl.2.1, fun i v hv => ?_⟩, hw, fun v hv => (by cases hv), fun i v hv => ?_, fun u hu => ⟨rfl, hu⟩, rfl⟩
  · have := (ax_fl_mem (ad := ad) As 0 i v (ax_fl_at hv)).1
    rw [Nat.zero_add] at this
    exact hl.2.2 _ this
  · exact hAs v (ax_fl_mem (ad := ad) As 0 i v (ax_fl_at hv)).2
