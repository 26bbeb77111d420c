/-! An abstract heap over names: a name is a pair of numbers; a cell is an int or boolean array, an array of references, or an object. ad gives each name its address. -/
abbrev ax_N : Type := Nat × Nat
abbrev ax_V : Type := Int32 ⊕ (Int64 ⊕ Option ax_N)
abbrev ax_C : Type := (Bool × Nat × (Nat → Int32)) ⊕ ((Nat × (Nat → Option ax_N)) ⊕ (Nat × List ax_V))
abbrev ax_H : Type := ax_N → Option ax_C
abbrev ax_i (x : Int32) : ax_V := .inl x
abbrev ax_l (x : Int64) : ax_V := .inr (.inl x)
abbrev ax_q (r : Option ax_N) : ax_V := .inr (.inr r)
abbrev ax_r (u : ax_N) : ax_V := .inr (.inr (some u))
abbrev ax_z : ax_V := .inr (.inr none)
abbrev ax_o (ci : Nat) (fs : List ax_V) : ax_C := .inr (.inr (ci, fs))
abbrev ax_ai (n : Nat) (f : Nat → Int32) : ax_C := .inl (false, n, f)
abbrev ax_az (n : Nat) (f : Nat → Int32) : ax_C := .inl (true, n, f)
abbrev ax_aq (n : Nat) (f : Nat → Option ax_N) : ax_C := .inr (.inl (n, f))
/-- the name of the JDK's empty array of an ArrayList: it is no cell of the world -/
abbrev ax_E : ax_N := (99, 0)
def ax_up (h : ax_H) (u : ax_N) (c : ax_C) : ax_H := fun w => if w = u then some c else h w
theorem ax_up_s {h : ax_H} {u : ax_N} {c : ax_C} : ax_up h u c u = some c := by simp [ax_up]
theorem ax_up_n {h : ax_H} {u w : ax_N} {c : ax_C} (e : w ≠ u) : ax_up h u c w = h w := by simp [ax_up, e]
def ax_v (ad : ax_N → Nat) : ax_V → Value
  | .inl x => .int x
  | .inr (.inl x) => .long x
  | .inr (.inr r) => va_rf (r.map ad)
abbrev ax_K : Type := ClassId × ClassId × ClassId
def ax_c (cs : ax_K) (ad : ax_N → Nat) : ax_C → va_E
  | .inl (b, n, f) => .inl (if b then cs.2.1 else cs.1, n, .inl f)
  | .inr (.inl (n, f)) => .inl (cs.2.2, n, .inr (.inr (.inr (.inr fun j => (f j).map ad))))
  | .inr (.inr (ci, fs)) => .inr (ci, fs.map (ax_v ad))
def ax_e (cs : ax_K) (ad : ax_N → Nat) : Option ax_C → va_E
  | some c => ax_c cs ad c
  | none => .inr (0, [])
def ax_w (cs : ax_K) (ad : ax_N → Nat) (h : ax_H) (D : List ax_N) : va_W := D.map fun u => (ad u, ax_e cs ad (h u))
abbrev ax_ty (cs : ax_K) : List (ClassId × FieldType) := [(cs.1, .int), (cs.2.1, .boolean), (cs.2.2, .object "java/lang/Object")]
def ax_ok (h : ax_H) : ax_V → Prop
  | .inr (.inr (some u)) => h u ≠ none ∨ u = ax_E
  | _ => True
def ax_okc (h : ax_H) : ax_C → Prop
  | .inl _ => True
  | .inr (.inl (_, f)) => ∀ (j : Nat) (u : ax_N), f j = some u → h u ≠ none ∨ u = ax_E
  | .inr (.inr (_, fs)) => ∀ v ∈ fs, ax_ok h v
def ax_wf (h : ax_H) : Prop := h ax_E = none ∧ ∀ u c, h u = some c → ax_okc h c
def ax_P (G : va_G) (cs : ax_K) (ad : ax_N → Nat) (h : ax_H) (A : Nat → Prop) (H : Heap) : Prop :=
  ∃ D : List ax_N, (∀ u, u ∈ D ↔ h u ≠ none) ∧ va_P G vwCl (ax_w cs ad h D) H ∧ va_D A (ax_w cs ad h D)
def ax_A (ad : ax_N → Nat) (h : ax_H) (sz : Nat) : Nat → Prop := fun q => (∃ u, h u ≠ none ∧ ad u = q) ∨ sz ≤ q
/-- what else of the tables the JDK's lists and the nest mates want -/
def ax_Ex (U : State) : Prop := va_AO "java/lang/Object" U ∧ va_Dc U ∧ (∃ mi : Nat, va_Mi "[Ljava/lang/Object;" mi U) ∧ va_Nw (.methodLinkNest "LockLookMemory$Region" 34 yX3_bit "LockLookMemory") U ∧ va_Nw (.castable "LockLookMemory$Region" "java/lang/Object") U ∧ va_Nw (.castable "LockLookMemory$Transaction" "java/lang/Object") U ∧ va_Nw (.castable "LockLookMemory$Item" "java/lang/Object") U
theorem ax_Ex.warm {s U : State} (hW : s.WarmedH U.vm) (h : ax_Ex s) : ax_Ex U := by
  obtain ⟨h1, h2, ⟨mi, h3⟩, h4, h5, h6, h7⟩ := h
  exact ⟨va_AO.moved hW.alike h1, va_Dc.moved hW.alike h2, ⟨mi, va_Mi.moved hW.alike h3⟩, va_Nw.warmM hW h4, va_Nw.warmC hW h5, va_Nw.warmC hW h6, va_Nw.warmC hW h7⟩
theorem ax_Ex.same {s U : State} (hv : s.vm = U.vm) (h : ax_Ex s) : ax_Ex U := by
  have ha : s.vm.Alike U.vm := by rw [hv]; exact Vm.Alike.refl _
  obtain ⟨h1, h2, ⟨mi, h3⟩, h4, h5, h6, h7⟩ := h
  exact ⟨va_AO.moved ha h1, va_Dc.moved ha h2, ⟨mi, va_Mi.moved ha h3⟩, va_Nw.same rfl hv h4, va_Nw.same rfl hv h5, va_Nw.same rfl hv h6, va_Nw.same rfl hv h7⟩
def ax_St (e0 : Nat) (A : Nat → Prop) (U : State) (H : Heap) : Prop :=
  (va_Z "java/util/ArrayList" "DEFAULTCAPACITY_EMPTY_ELEMENTDATA" "[Ljava/lang/Object;" (.ref e0) A U H ∧ va_T (.object "java/lang/Object") e0 0 (fun _ => .null) A U H) ∧ ax_Ex U
/-- a method: its class, its code, its locals, what it returns, whether it is a constructor -/
abbrev ax_M : Type := String × ByteArray × Nat × Option FieldType × Bool
def ax_X (Y : ax_M) (p : Program) (s : State) (m : MethodId) (args : Array Value) (meth : Method) (c : Code) (G : va_G) (cs : ax_K) (A : Nat → Prop) (e0 : Nat) : Prop :=
  p.tables.exec = Jvm.exec ∧ c.code = Y.2.1 ∧ c.maxLocals = Y.2.2.1 ∧ s.vm.findClass Y.1 = some m.cls ∧ (∀ w ∈ ax_T, w.before args s = true) ∧ meth.sig.returnType = Y.2.2.2.1 ∧ meth.locks = false ∧ (Y.2.2.2.2 = true → meth.name = "<init>") ∧ va_K G vwCl (ax_ty cs) s ∧ (∀ q, s.heap.size ≤ q → A q) ∧ ax_St e0 A s s.heap
def ax_lv (ad : ax_N → Nat) (L : List (Option ax_V)) (ls : Array Slot) (n : Nat) : Prop :=
  ls.size = n ∧ lv_wf ls ∧ ∀ (i : Nat) (v : ax_V), L[i]? = some (some v) → ls[i]? = some (.val (ax_v ad v))
def ax_I (Y : ax_M) (s : State) (G : va_G) (cs : ax_K) (A : Nat → Prop) (ad0 : ax_N → Nat) (h0 : ax_H) (H : Heap) (locs : List Loc) (ls : Array Slot) (ad : ax_N → Nat) (L : List (Option ax_V)) (S : List ax_V) (h : ax_H) : Prop :=
  ax_P G cs ad h A H ∧ va_S A s.heap H locs ∧ ax_lv ad L ls Y.2.2.1 ∧ ax_wf h ∧ (∀ v ∈ S, ax_ok h v) ∧ (∀ (i : Nat) (v : ax_V), L[i]? = some (some v) → ax_ok h v) ∧ (∀ u, h0 u ≠ none → ad u = ad0 u ∧ h u ≠ none) ∧ ad ax_E = ad0 ax_E
def ax_rm (d mc ms : Nat) : Room := { frames := d, cells := mc, slots := ms, locals := 37 * d }
def ax_Qc (G : va_G) (cs : ax_K) (ad0 : ax_N → Nat) (h0 : ax_H) (A : Nat → Prop) (Fi : Option ax_V → ax_H → Prop) : Array Value → State → Outcome → State → Prop := fun _ st o t =>
  (∃ (r : Option ax_V) (h1 : ax_H) (ad1 : ax_N → Nat), o = .returned (r.map (ax_v ad1)) ∧ Fi r h1 ∧ ax_P G cs ad1 h1 A t.heap ∧ ax_wf h1 ∧ (∀ v, r = some v → ax_ok h1 v) ∧ (∀ u, h0 u ≠ none → ad1 u = ad0 u ∧ h1 u ≠ none) ∧ ad1 ax_E = ad0 ax_E) ∧ va_F A st t
/-- from this point the method comes to an end with Fi -/
def ax_Z (Y : ax_M) (d mc ms : Nat) (Fi : Option ax_V → ax_H → Prop) (pc : Nat) (L : List (Option ax_V)) (S : List ax_V) (h : ax_H) (uc us : Nat) : Prop :=
  ∀ (p : Program) (l : Launch) (e : Env) (s : State) (m : MethodId) (args : Array Value) (below : List Frame) (meth : Method) (c : Code) (G : va_G) (cs : ax_K) (A : Nat → Prop) (ad0 : ax_N → Nat) (h0 : ax_H), ax_X Y p s m args meth c G cs A (ad0 ax_E) →
    ∀ (H : Heap) (locs : List Loc) (ls : Array Slot) (ad : ax_N → Nat), ax_I Y s G cs A ad0 h0 H locs ls ad L S h →
      W p l e (ax_rm d mc ms) s m args below meth c H locs uc us (MQ below (ax_Qc G cs ad0 h0 A Fi) args s mc ms A) (F0 m pc ls (S.map (ax_v ad)))
/-- the contract of a method: from the heap h with the arguments As it ends, and Fi holds of its answer and heap -/
def ax_Ok (Y : ax_M) (y : MethodName) (d mc ms : Nat) (As : List ax_V) (h : ax_H) (Fi : Option ax_V → ax_H → Prop) : Prop :=
  ∀ (l : Launch) (G : va_G) (cs : ax_K) (ad : ax_N → Nat) (sz : Nat), ax_wf h → (∀ v ∈ As, ax_ok h v) →
    Met l y (Cond.code y Y.2.1 Y.2.2.1 Y.2.2.2.1 :: ax_T) (ax_rm d mc ms) (va_Pc (As.map (ax_v ad)) (fun U => U.heap.size = sz ∧ va_K G vwCl (ax_ty cs) U ∧ ax_P G cs ad h (fun _ => True) U.heap ∧ ax_St (ad ax_E) (ax_A ad h sz) U U.heap)) (ax_Qc G cs ad h (ax_A ad h sz) Fi) mc ms (ax_A ad h sz)
-- values under another map
theorem ax_v_eq {ad ad1 : ax_N → Nat} {h : ax_H} (hd : ∀ u, h u ≠ none → ad1 u = ad u) (he : ad1 ax_E = ad ax_E) {v : ax_V} (hv : ax_ok h v) : ax_v ad1 v = ax_v ad v := by
  rcases v with x | x | r
  · rfl
  · rfl
  · cases r with
    | none => rfl
    | some u =>
      show va_rf (some (ad1 u)) = va_rf (some (ad u))
      rcases hv with hv | hv
      · rw [hd u hv]
      · rw [hv, he]
theorem ax_S_eq {ad ad1 : ax_N → Nat} {h : ax_H} (hd : ∀ u, h u ≠ none → ad1 u = ad u) (he : ad1 ax_E = ad ax_E) {S : List ax_V} (hS : ∀ v ∈ S, ax_ok h v) : S.map (ax_v ad1) = S.map (ax_v ad) :=
  List.map_congr_left fun v hv => ax_v_eq hd he (hS v hv)
theorem ax_c_eq {ad ad1 : ax_N → Nat} {h : ax_H} {cs : ax_K} (hd : ∀ u, h u ≠ none → ad1 u = ad u) (he : ad1 ax_E = ad ax_E) {c : ax_C} (hc : ax_okc h c) : ax_c cs ad1 c = ax_c cs ad c := by
  rcases c with x | ⟨n, f⟩ | ⟨ci, fs⟩
  · rfl
  · show Sum.inl (cs.2.2, n, _) = Sum.inl (cs.2.2, n, _)
    have e : (fun j => (f j).map ad1) = fun j => (f j).map ad := by
      funext j
      cases hj : f j with
      | none => rfl
      | some u =>
        rcases hc j u hj with hv | hv
        · show some (ad1 u) = some (ad u); rw [hd u hv]
        · show some (ad1 u) = some (ad u); rw [hv, he]
    rw [e]
  · show Sum.inr (ci, fs.map (ax_v ad1)) = Sum.inr (ci, fs.map (ax_v ad))
    rw [ax_S_eq hd he hc]
theorem ax_ok_mono {h h1 : ax_H} (hd : ∀ u, h u ≠ none → h1 u ≠ none) {v : ax_V} (hv : ax_ok h v) : ax_ok h1 v := by
  rcases v with x | x | r
  · trivial
  · trivial
  · cases r with
    | none => trivial
    | some u => exact hv.imp (hd u) id
theorem ax_okc_mono {h h1 : ax_H} (hd : ∀ u, h u ≠ none → h1 u ≠ none) {c : ax_C} (hc : ax_okc h c) : ax_okc h1 c := by
  rcases c with x | ⟨n, f⟩ | ⟨ci, fs⟩
  · trivial
  · exact fun j u hj => (hc j u hj).imp (hd u) id
  · exact fun v hv => ax_ok_mono hd (hc v hv)
-- places
theorem ax_at {G : va_G} {cs : ax_K} {ad : ax_N → Nat} {h : ax_H} {D : List ax_N} (hD : ∀ u, u ∈ D ↔ h u ≠ none) {u : ax_N} {c : ax_C} (hu : h u = some c) : ∃ k : Nat, D[k]? = some u ∧ (ax_w cs ad h D)[k]? = some (ad u, ax_c cs ad c) := by
  obtain ⟨k, hk⟩ := List.getElem?_of_mem ((hD u).mpr (by rw [hu]; exact fun z => by cases z))
  exact ⟨k, hk, by simp [ax_w, hk, hu, ax_e]⟩
theorem ax_set {cs : ax_K} {ad : ax_N → Nat} {h : ax_H} {A : Nat → Prop} {D : List ax_N} (hA : va_D A (ax_w cs ad h D)) {u : ax_N} {k : Nat} (hk : D[k]? = some u) (c : ax_C) : (ax_w cs ad h D).set k (ad u, ax_c cs ad c) = ax_w cs ad (ax_up h u c) D := by
  have hl : k < D.length := (List.getElem?_eq_some_iff.mp hk).1
  apply List.ext_getElem?
  intro j
  by_cases hj : j = k
  · subst hj
    rw [List.getElem?_set_self (by simpa [ax_w] using hl)]
    simp [ax_w, hk, ax_up, ax_e]
  · rw [List.getElem?_set_ne (Ne.symm hj)]
    simp only [ax_w, List.getElem?_map]
    cases hw : D[j]? with
    | none => rfl
    | some w =>
      have hne : w ≠ u := by
        intro e
        subst e
        exact hj (hA.1 j k (ad w, ax_e cs ad (h w)) (ad w, ax_e cs ad (h w)) (by simp [ax_w, hw]) (by simp [ax_w, hk]) rfl)
      simp [ax_up, hne]
theorem ax_dom_up {h : ax_H} {u : ax_N} {c c0 : ax_C} (hu : h u = some c0) (w : ax_N) : ax_up h u c w ≠ none ↔ h w ≠ none := by
  by_cases e : w = u
  · subst e; simp [ax_up, hu]
  · simp [ax_up, e]
theorem ax_wf_up {h : ax_H} {u : ax_N} {c c0 : ax_C} (hw : ax_wf h) (hu : h u = some c0) (hc : ax_okc h c) : ax_wf (ax_up h u c) := by
  have mono : ∀ w, h w ≠ none → ax_up h u c w ≠ none := fun w => (ax_dom_up hu w).mpr
  refine ⟨?_, fun w d hd => ?_⟩
  · by_cases e : ax_E = u
    · rw [← e, hw.1] at hu; cases hu
    · rw [ax_up_n e]; exact hw.1
  · by_cases e : w = u
    · subst e
      rw [ax_up_s] at hd
      cases hd
      exact ax_okc_mono mono hc
    · rw [ax_up_n e] at hd
      exact ax_okc_mono mono (hw.2 w d hd)
/-- a new cell -/
theorem ax_wf_new {h : ax_H} {u : ax_N} {c : ax_C} (hw : ax_wf h) (hn : u ≠ ax_E) (hc : ax_okc h c) : ax_wf (ax_up h u c) := by
  have mono : ∀ w, h w ≠ none → ax_up h u c w ≠ none := fun w hh => by
    by_cases e : w = u
    · subst e; rw [ax_up_s]; exact fun z => by cases z
    · rw [ax_up_n e]; exact hh
  refine ⟨by rw [ax_up_n (Ne.symm hn)]; exact hw.1, fun w d hd => ?_⟩
  by_cases e : w = u
  · subst e
    rw [ax_up_s] at hd
    cases hd
    exact ax_okc_mono mono hc
  · rw [ax_up_n e] at hd
    exact ax_okc_mono mono (hw.2 w d hd)
/-- the map with one address more -/
def ax_ad (ad : ax_N → Nat) (u : ax_N) (q : Nat) : ax_N → Nat := fun w => if w = u then q else ad w
theorem ax_ad_n {ad : ax_N → Nat} {u w : ax_N} {q : Nat} (e : w ≠ u) : ax_ad ad u q w = ad w := by simp [ax_ad, e]
theorem ax_ad_s {ad : ax_N → Nat} {u : ax_N} {q : Nat} : ax_ad ad u q u = q := by simp [ax_ad]
theorem ax_push {G : va_G} {cs : ax_K} {ad : ax_N → Nat} {h : ax_H} {A : Nat → Prop} {H : Heap} {D : List ax_N} {u : ax_N} {q : Nat} {c : ax_C} (hD : ∀ u, u ∈ D ↔ h u ≠ none) (hw : ax_wf h) (hu : h u = none) (hn : u ≠ ax_E) (hc : ax_okc h c)
    (hP : va_P G vwCl (ax_w cs ad h D ++ [(q, ax_c cs ad c)]) H) (hA : va_D A (ax_w cs ad h D ++ [(q, ax_c cs ad c)])) : ax_P G cs (ax_ad ad u q) (ax_up h u c) A H := by
  have same : ∀ w, h w ≠ none → ax_ad ad u q w = ad w := fun w hh => ax_ad_n (fun e => hh (by rw [e, hu]))
  have hE : ax_ad ad u q ax_E = ad ax_E := ax_ad_n (Ne.symm hn)
  have e : ax_w cs (ax_ad ad u q) (ax_up h u c) (D ++ [u]) = ax_w cs ad h D ++ [(q, ax_c cs ad c)] := by
    simp only [ax_w, List.map_append, List.map_cons, List.map_nil]
    congr 1
    · refine List.map_congr_left fun w hwD => ?_
      have hh := (hD w).mp hwD
      have hne : w ≠ u := fun e => hh (by rw [e, hu])
      rw [same w hh, ax_up_n hne]
      cases hc2 : h w with
      | none => exact absurd hc2 hh
      | some d =>
        show (ad w, ax_c cs (ax_ad ad u q) d) = (ad w, ax_c cs ad d)
        rw [ax_c_eq same hE (hw.2 w d hc2)]
    · rw [ax_ad_s, ax_up_s]
      show [(q, ax_c cs (ax_ad ad u q) c)] = [(q, ax_c cs ad c)]
      rw [ax_c_eq same hE hc]
  refine ⟨D ++ [u], fun w => ?_, by rw [e]; exact hP, by rw [e]; exact hA⟩
  by_cases ew : w = u
  · subst ew; simp [ax_up]
  · simp [ax_up, ew, hD w]
