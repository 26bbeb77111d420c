section AXR
variable {Y : ax_M} {d mc ms : Nat} {Fi : Option ax_V → ax_H → Prop} {pc : Nat} {L : List (Option ax_V)} {S : List ax_V} {h : ax_H} {uc us : Nat}
theorem ax_I.to {s : State} {G : va_G} {cs : ax_K} {A : Nat → Prop} {ad0 : ax_N → Nat} {h0 : ax_H} {H : Heap} {locs : List Loc} {ls : Array Slot} {ad : ax_N → Nat} (I : ax_I Y s G cs A ad0 h0 H locs ls ad L S h) {S1 : List ax_V} (hS : ∀ v ∈ S1, ax_ok h v) : ax_I Y s G cs A ad0 h0 H locs ls ad L S1 h := ⟨I.1, I.2.1, I.2.2.1, I.2.2.2.1, hS, I.2.2.2.2.2⟩
theorem ax_I.st {s : State} {G : va_G} {cs : ax_K} {A : Nat → Prop} {ad0 : ax_N → Nat} {h0 : ax_H} {H : Heap} {locs : List Loc} {ls : Array Slot} {ad : ax_N → Nat} (I : ax_I Y s G cs A ad0 h0 H locs ls ad L S h) : ∀ v ∈ S, ax_ok h v := I.2.2.2.2.1
theorem ax_mc {v : ax_V} (hv : ax_ok h v) (hS : ∀ v ∈ S, ax_ok h v) : ∀ w ∈ v :: S, ax_ok h w := fun w hw => by
  rcases List.mem_cons.mp hw with e | e
  · rw [e]; exact hv
  · exact hS w e
theorem ax_md {v : ax_V} (hS : ∀ w ∈ v :: S, ax_ok h w) : ∀ w ∈ S, ax_ok h w := fun w hw => hS w (List.mem_cons_of_mem _ hw)
theorem ax_cat {ad : ax_N → Nat} {r : Option ax_N} : (ax_v ad (ax_q r)).category = 1 := by cases r <;> rfl
def ax_c1 : ax_V → Bool
  | .inr (.inl _) => false
  | _ => true
theorem ax_cat1 {ad : ax_N → Nat} {v : ax_V} (hv : ax_c1 v = true) : (ax_v ad v).category = 1 := by
  rcases v with x | x | r
  · rfl
  · cases hv
  · exact ax_cat
def ax_nl (L : List (Option ax_V)) : Bool := L.all fun o => match o with
  | some (.inr (.inl _)) => false
  | _ => true
theorem ax_nl_at {i : Nat} {v : ax_V} (hn : ax_nl L = true) (hi : L[i]? = some (some v)) : ax_c1 v = true := by
  have h1 := List.all_eq_true.mp hn (some v) (List.mem_of_getElem? hi)
  rcases v with x | x | r
  · rfl
  · cases h1
  · rfl
def ax_lvl (ad : ax_N → Nat) (L : List (Option ax_V)) : List (Nat × Value) := (List.range L.length).filterMap fun i => match L[i]? with
  | some (some v) => some (i, ax_v ad v)
  | _ => none
theorem ax_lvl_has {ad : ax_N → Nat} {ls : Array Slot} {n : Nat} (hl : ax_lv ad L ls n) : lv_has ls n (ax_lvl ad L) := by
  refine ⟨hl.1, hl.2.1, fun q hq => ?_⟩
  obtain ⟨i, -, hi⟩ := List.mem_filterMap.mp hq
  split at hi
  · rename_i v hv
    cases hi
    exact hl.2.2 i v hv
  · cases hi
theorem ax_lvl_mem {ad : ax_N → Nat} {i : Nat} {v : ax_V} (hi : L[i]? = some (some v)) : (i, ax_v ad v) ∈ ax_lvl ad L := by
  refine List.mem_filterMap.mpr ⟨i, List.mem_range.mpr (List.getElem?_eq_some_iff.mp hi).1, ?_⟩
  simp [hi]
theorem ax_lv_set {ad : ax_N → Nat} {ls1 : Array Slot} {n i : Nat} {w : ax_V} (hn : ax_nl L = true) (h1 : lv_has ls1 n ((i, ax_v ad w) :: (ax_lvl ad L).filter (fun q => !(q.1 == i) && !(q.1 + 1 == i && q.2.category == 2)))) : ax_lv ad (L.set i (some w)) ls1 n := by
  refine ⟨h1.1, h1.2.1, fun j v hj => ?_⟩
  by_cases e : j = i
  · subst e
    have hlt : j < L.length := by
      have := (List.getElem?_eq_some_iff.mp hj).1
      simpa using this
    rw [List.getElem?_set_self hlt] at hj
    cases hj
    exact h1.2.2 (j, ax_v ad w) List.mem_cons_self
  · rw [List.getElem?_set_ne (Ne.symm e)] at hj
    refine h1.2.2 (j, ax_v ad v) (List.mem_cons_of_mem _ (List.mem_filter.mpr ⟨ax_lvl_mem hj, ?_⟩))
    have hc := ax_cat1 (ad := ad) (ax_nl_at hn hj)
    simp [e, hc]
theorem ax_lok_set {i : Nat} {w : ax_V} (hw : ax_ok h w) (hL : ∀ (i : Nat) (v : ax_V), L[i]? = some (some v) → ax_ok h v) : ∀ (j : Nat) (v : ax_V), (L.set i (some w))[j]? = some (some v) → ax_ok h v := fun j v hj => by
  by_cases e : j = i
  · subst e
    have hlt : j < L.length := by
      have := (List.getElem?_eq_some_iff.mp hj).1
      simpa using this
    rw [List.getElem?_set_self hlt] at hj
    cases hj
    exact hw
  · rw [List.getElem?_set_ne (Ne.symm e)] at hj
    exact hL j v hj
theorem ax_widen {uc1 us1 : Nat} (h1 : uc ≤ uc1) (h2 : us ≤ us1) (k : ax_Z Y d mc ms Fi pc L S h uc1 us1) : ax_Z Y d mc ms Fi pc L S h uc us := by
  intro p l e s m args below meth c G cs A ad0 h0 X H locs ls ad I
  exact W.widen h1 h2 (k p l e s m args below meth c G cs A ad0 h0 X H locs ls ad I)

theorem ax_iconst {n : Int} (v : Int32) (hd : decode Y.2.1 pc = .ok (.iconst n, 1)) (hv : Int32.ofInt n = v) (k : ax_Z Y d mc ms Fi (pc + 1) L (ax_i v :: S) h uc us) : ax_Z Y d mc ms Fi pc L S h uc us := by
  intro p l e s m args below meth c G cs A ad0 h0 X H locs ls ad I
  exact lv_iconst X.1 X.2.1 hd hv (k p l e s m args below meth c G cs A ad0 h0 X H locs ls ad (I.to (ax_mc trivial I.st)))

theorem ax_bipush {n : Int} (v : Int32) (hd : decode Y.2.1 pc = .ok (.bipush n, 2)) (hv : (Int8.ofInt n).toInt32 = v) (k : ax_Z Y d mc ms Fi (pc + 2) L (ax_i v :: S) h uc us) : ax_Z Y d mc ms Fi pc L S h uc us := by
  intro p l e s m args below meth c G cs A ad0 h0 X H locs ls ad I
  exact lv_bipush X.1 X.2.1 hd hv (k p l e s m args below meth c G cs A ad0 h0 X H locs ls ad (I.to (ax_mc trivial I.st)))

theorem ax_sipush {n : Int} (v : Int32) (hd : decode Y.2.1 pc = .ok (.sipush n, 3)) (hv : (Int16.ofInt n).toInt32 = v) (k : ax_Z Y d mc ms Fi (pc + 3) L (ax_i v :: S) h uc us) : ax_Z Y d mc ms Fi pc L S h uc us := by
  intro p l e s m args below meth c G cs A ad0 h0 X H locs ls ad I
  exact lv_sipush X.1 X.2.1 hd hv (k p l e s m args below meth c G cs A ad0 h0 X H locs ls ad (I.to (ax_mc trivial I.st)))

theorem ax_lconst {n : Fin 2} (v : Int64) (hd : decode Y.2.1 pc = .ok (.lconst n, 1)) (hv : Int64.ofNat (n : Nat) = v) (k : ax_Z Y d mc ms Fi (pc + 1) L (ax_l v :: S) h uc us) : ax_Z Y d mc ms Fi pc L S h uc us := by
  intro p l e s m args below meth c G cs A ad0 h0 X H locs ls ad I
  exact lv_lconst X.1 X.2.1 hd hv (k p l e s m args below meth c G cs A ad0 h0 X H locs ls ad (I.to (ax_mc trivial I.st)))

theorem ax_ldc {ix : Nat} {v : Int32} (hd : decode Y.2.1 pc = .ok (.ldc ix, 2)) (hc : Cond.constant Y.1 ix v ∈ ax_T) (k : ax_Z Y d mc ms Fi (pc + 2) L (ax_i v :: S) h uc us) : ax_Z Y d mc ms Fi pc L S h uc us := by
  intro p l e s m args below meth c G cs A ad0 h0 X H locs ls ad I
  exact lv_ldc X.1 X.2.1 X.2.2.2.1 (X.2.2.2.2.1 _ hc) hd (k p l e s m args below meth c G cs A ad0 h0 X H locs ls ad (I.to (ax_mc trivial I.st)))

theorem ax_ldc2 {ix : Nat} {v : Int64} (hd : decode Y.2.1 pc = .ok (.ldc2_w ix, 3)) (hc : Cond.constantLong Y.1 ix v ∈ ax_T) (k : ax_Z Y d mc ms Fi (pc + 3) L (ax_l v :: S) h uc us) : ax_Z Y d mc ms Fi pc L S h uc us := by
  intro p l e s m args below meth c G cs A ad0 h0 X H locs ls ad I
  exact lv_ldc2 X.1 X.2.1 X.2.2.2.1 (X.2.2.2.2.1 _ hc) hd (k p l e s m args below meth c G cs A ad0 h0 X H locs ls ad (I.to (ax_mc trivial I.st)))

theorem ax_null (hd : decode Y.2.1 pc = .ok (.aconst_null, 1)) (k : ax_Z Y d mc ms Fi (pc + 1) L (ax_z :: S) h uc us) : ax_Z Y d mc ms Fi pc L S h uc us := by
  intro p l e s m args below meth c G cs A ad0 h0 X H locs ls ad I
  exact lv_null X.1 X.2.1 hd (k p l e s m args below meth c G cs A ad0 h0 X H locs ls ad (I.to (ax_mc trivial I.st)))

theorem ax_iload_n {n : Fin 4} {x : Int32} (hd : decode Y.2.1 pc = .ok (.iload_n n, 1)) (hl : L[(n : Nat)]? = some (some (ax_i x))) (k : ax_Z Y d mc ms Fi (pc + 1) L (ax_i x :: S) h uc us) : ax_Z Y d mc ms Fi pc L S h uc us := by
  intro p l e s m args below meth c G cs A ad0 h0 X H locs ls ad I
  exact lv_iload_n X.1 X.2.1 hd rfl (I.2.2.1.2.2 _ _ hl) (k p l e s m args below meth c G cs A ad0 h0 X H locs ls ad (I.to (ax_mc trivial I.st)))

theorem ax_iload {n : Nat} {x : Int32} (hd : decode Y.2.1 pc = .ok (.iload n, 2)) (hl : L[n]? = some (some (ax_i x))) (k : ax_Z Y d mc ms Fi (pc + 2) L (ax_i x :: S) h uc us) : ax_Z Y d mc ms Fi pc L S h uc us := by
  intro p l e s m args below meth c G cs A ad0 h0 X H locs ls ad I
  exact lv_iload X.1 X.2.1 hd (I.2.2.1.2.2 _ _ hl) (k p l e s m args below meth c G cs A ad0 h0 X H locs ls ad (I.to (ax_mc trivial I.st)))

theorem ax_lload_n {n : Fin 4} {x : Int64} (hd : decode Y.2.1 pc = .ok (.lload_n n, 1)) (hl : L[(n : Nat)]? = some (some (ax_l x))) (k : ax_Z Y d mc ms Fi (pc + 1) L (ax_l x :: S) h uc us) : ax_Z Y d mc ms Fi pc L S h uc us := by
  intro p l e s m args below meth c G cs A ad0 h0 X H locs ls ad I
  exact lv_lload_n X.1 X.2.1 hd rfl (I.2.2.1.2.2 _ _ hl) (k p l e s m args below meth c G cs A ad0 h0 X H locs ls ad (I.to (ax_mc trivial I.st)))

theorem ax_lload {n : Nat} {x : Int64} (hd : decode Y.2.1 pc = .ok (.lload n, 2)) (hl : L[n]? = some (some (ax_l x))) (k : ax_Z Y d mc ms Fi (pc + 2) L (ax_l x :: S) h uc us) : ax_Z Y d mc ms Fi pc L S h uc us := by
  intro p l e s m args below meth c G cs A ad0 h0 X H locs ls ad I
  exact lv_lload X.1 X.2.1 hd (I.2.2.1.2.2 _ _ hl) (k p l e s m args below meth c G cs A ad0 h0 X H locs ls ad (I.to (ax_mc trivial I.st)))

theorem ax_aload_n {n : Fin 4} {r : Option ax_N} (hd : decode Y.2.1 pc = .ok (.aload_n n, 1)) (hl : L[(n : Nat)]? = some (some (ax_q r))) (k : ax_Z Y d mc ms Fi (pc + 1) L (ax_q r :: S) h uc us) : ax_Z Y d mc ms Fi pc L S h uc us := by
  intro p l e s m args below meth c G cs A ad0 h0 X H locs ls ad I
  have k1 := k p l e s m args below meth c G cs A ad0 h0 X H locs ls ad (I.to (ax_mc (I.2.2.2.2.2.1 _ _ hl) I.st))
  have k2 := I.2.2.1.2.2 _ _ hl
  cases r with
  | none => exact lv_aload_nN X.1 X.2.1 hd rfl k2 k1
  | some u => exact lv_aload_n X.1 X.2.1 hd rfl k2 k1

theorem ax_aload {n : Nat} {r : Option ax_N} (hd : decode Y.2.1 pc = .ok (.aload n, 2)) (hl : L[n]? = some (some (ax_q r))) (k : ax_Z Y d mc ms Fi (pc + 2) L (ax_q r :: S) h uc us) : ax_Z Y d mc ms Fi pc L S h uc us := by
  intro p l e s m args below meth c G cs A ad0 h0 X H locs ls ad I
  have k1 := k p l e s m args below meth c G cs A ad0 h0 X H locs ls ad (I.to (ax_mc (I.2.2.2.2.2.1 _ _ hl) I.st))
  have k2 := I.2.2.1.2.2 _ _ hl
  cases r with
  | none => exact lv_aloadN X.1 X.2.1 hd k2 k1
  | some u => exact lv_aload X.1 X.2.1 hd k2 k1

theorem ax_istore_n {n : Fin 4} {x : Int32} (hd : decode Y.2.1 pc = .ok (.istore_n n, 1)) (hn : ax_nl L = true) (hi : (n : Nat) < Y.2.2.1) (k : ax_Z Y d mc ms Fi (pc + 1) (L.set (n : Nat) (some (ax_i x))) S h uc us) : ax_Z Y d mc ms Fi pc L (ax_i x :: S) h uc us := by
  intro p l e s m args below meth c G cs A ad0 h0 X H locs ls ad I
  exact lv_istore_n X.1 X.2.1 hd rfl (ax_lvl_has I.2.2.1) hi rfl (fun ls1 h1 => k p l e s m args below meth c G cs A ad0 h0 X H locs ls1 ad ⟨I.1, I.2.1, ax_lv_set hn h1, I.2.2.2.1, ax_md I.st, ax_lok_set (trivial) I.2.2.2.2.2.1, I.2.2.2.2.2.2⟩)

theorem ax_istore {n : Nat} {x : Int32} (hd : decode Y.2.1 pc = .ok (.istore n, 2)) (hn : ax_nl L = true) (hi : n < Y.2.2.1) (k : ax_Z Y d mc ms Fi (pc + 2) (L.set n (some (ax_i x))) S h uc us) : ax_Z Y d mc ms Fi pc L (ax_i x :: S) h uc us := by
  intro p l e s m args below meth c G cs A ad0 h0 X H locs ls ad I
  exact lv_istore X.1 X.2.1 hd (ax_lvl_has I.2.2.1) hi rfl (fun ls1 h1 => k p l e s m args below meth c G cs A ad0 h0 X H locs ls1 ad ⟨I.1, I.2.1, ax_lv_set hn h1, I.2.2.2.1, ax_md I.st, ax_lok_set (trivial) I.2.2.2.2.2.1, I.2.2.2.2.2.2⟩)

theorem ax_astore_n {n : Fin 4} {r : Option ax_N} (hd : decode Y.2.1 pc = .ok (.astore_n n, 1)) (hn : ax_nl L = true) (hi : (n : Nat) < Y.2.2.1) (k : ax_Z Y d mc ms Fi (pc + 1) (L.set (n : Nat) (some (ax_q r))) S h uc us) : ax_Z Y d mc ms Fi pc L (ax_q r :: S) h uc us := by
  intro p l e s m args below meth c G cs A ad0 h0 X H locs ls ad I
  cases r with
  | none => exact lv_astore_nN X.1 X.2.1 hd rfl (ax_lvl_has I.2.2.1) hi rfl (fun ls1 h1 => k p l e s m args below meth c G cs A ad0 h0 X H locs ls1 ad ⟨I.1, I.2.1, ax_lv_set hn h1, I.2.2.2.1, ax_md I.st, ax_lok_set (I.st _ List.mem_cons_self) I.2.2.2.2.2.1, I.2.2.2.2.2.2⟩)
  | some u => exact lv_astore_n X.1 X.2.1 hd rfl (ax_lvl_has I.2.2.1) hi rfl (fun ls1 h1 => k p l e s m args below meth c G cs A ad0 h0 X H locs ls1 ad ⟨I.1, I.2.1, ax_lv_set hn h1, I.2.2.2.1, ax_md I.st, ax_lok_set (I.st _ List.mem_cons_self) I.2.2.2.2.2.1, I.2.2.2.2.2.2⟩)

theorem ax_astore {n : Nat} {r : Option ax_N} (hd : decode Y.2.1 pc = .ok (.astore n, 2)) (hn : ax_nl L = true) (hi : n < Y.2.2.1) (k : ax_Z Y d mc ms Fi (pc + 2) (L.set n (some (ax_q r))) S h uc us) : ax_Z Y d mc ms Fi pc L (ax_q r :: S) h uc us := by
  intro p l e s m args below meth c G cs A ad0 h0 X H locs ls ad I
  cases r with
  | none => exact lv_astoreN X.1 X.2.1 hd (ax_lvl_has I.2.2.1) hi rfl (fun ls1 h1 => k p l e s m args below meth c G cs A ad0 h0 X H locs ls1 ad ⟨I.1, I.2.1, ax_lv_set hn h1, I.2.2.2.1, ax_md I.st, ax_lok_set (I.st _ List.mem_cons_self) I.2.2.2.2.2.1, I.2.2.2.2.2.2⟩)
  | some u => exact lv_astore X.1 X.2.1 hd (ax_lvl_has I.2.2.1) hi rfl (fun ls1 h1 => k p l e s m args below meth c G cs A ad0 h0 X H locs ls1 ad ⟨I.1, I.2.1, ax_lv_set hn h1, I.2.2.2.1, ax_md I.st, ax_lok_set (I.st _ List.mem_cons_self) I.2.2.2.2.2.1, I.2.2.2.2.2.2⟩)

theorem ax_iinc {i : Nat} {n : Int} {x : Int32} (v : Int32) (hd : decode Y.2.1 pc = .ok (.iinc i n, 3)) (hn : ax_nl L = true) (hi : i < Y.2.2.1) (hl : L[i]? = some (some (ax_i x))) (hv : x + Int32.ofInt n = v) (k : ax_Z Y d mc ms Fi (pc + 3) (L.set i (some (ax_i v))) S h uc us) : ax_Z Y d mc ms Fi pc L S h uc us := by
  intro p l e s m args below meth c G cs A ad0 h0 X H locs ls ad I
  obtain ⟨q, hq⟩ := List.getElem?_of_mem (ax_lvl_mem (ad := ad) hl)
  exact lv_iinc X.1 X.2.1 hd (ax_lvl_has I.2.2.1) hq hv hi rfl (fun ls1 h1 => k p l e s m args below meth c G cs A ad0 h0 X H locs ls1 ad ⟨I.1, I.2.1, ax_lv_set hn h1, I.2.2.2.1, I.st, ax_lok_set trivial I.2.2.2.2.2.1, I.2.2.2.2.2.2⟩)

theorem ax_iadd {x y : Int32} (v : Int32) (hd : decode Y.2.1 pc = .ok (.iadd, 1)) (hv : x + y = v) (k : ax_Z Y d mc ms Fi (pc + 1) L (ax_i v :: S) h uc us) : ax_Z Y d mc ms Fi pc L (ax_i y :: ax_i x :: S) h uc us := by
  intro p l e s m args below meth c G cs A ad0 h0 X H locs ls ad I
  subst hv
  exact lv_iadd X.1 X.2.1 hd (k p l e s m args below meth c G cs A ad0 h0 X H locs ls ad (I.to (ax_mc trivial (ax_md (ax_md I.st)))))

theorem ax_isub {x y : Int32} (v : Int32) (hd : decode Y.2.1 pc = .ok (.isub, 1)) (hv : x - y = v) (k : ax_Z Y d mc ms Fi (pc + 1) L (ax_i v :: S) h uc us) : ax_Z Y d mc ms Fi pc L (ax_i y :: ax_i x :: S) h uc us := by
  intro p l e s m args below meth c G cs A ad0 h0 X H locs ls ad I
  subst hv
  exact lv_isub X.1 X.2.1 hd (k p l e s m args below meth c G cs A ad0 h0 X H locs ls ad (I.to (ax_mc trivial (ax_md (ax_md I.st)))))

theorem ax_imul {x y : Int32} (v : Int32) (hd : decode Y.2.1 pc = .ok (.imul, 1)) (hv : x * y = v) (k : ax_Z Y d mc ms Fi (pc + 1) L (ax_i v :: S) h uc us) : ax_Z Y d mc ms Fi pc L (ax_i y :: ax_i x :: S) h uc us := by
  intro p l e s m args below meth c G cs A ad0 h0 X H locs ls ad I
  subst hv
  exact lv_imul X.1 X.2.1 hd (k p l e s m args below meth c G cs A ad0 h0 X H locs ls ad (I.to (ax_mc trivial (ax_md (ax_md I.st)))))

theorem ax_iand {x y : Int32} (v : Int32) (hd : decode Y.2.1 pc = .ok (.iand, 1)) (hv : x &&& y = v) (k : ax_Z Y d mc ms Fi (pc + 1) L (ax_i v :: S) h uc us) : ax_Z Y d mc ms Fi pc L (ax_i y :: ax_i x :: S) h uc us := by
  intro p l e s m args below meth c G cs A ad0 h0 X H locs ls ad I
  subst hv
  exact lv_iand X.1 X.2.1 hd (k p l e s m args below meth c G cs A ad0 h0 X H locs ls ad (I.to (ax_mc trivial (ax_md (ax_md I.st)))))

theorem ax_ior {x y : Int32} (v : Int32) (hd : decode Y.2.1 pc = .ok (.ior, 1)) (hv : x ||| y = v) (k : ax_Z Y d mc ms Fi (pc + 1) L (ax_i v :: S) h uc us) : ax_Z Y d mc ms Fi pc L (ax_i y :: ax_i x :: S) h uc us := by
  intro p l e s m args below meth c G cs A ad0 h0 X H locs ls ad I
  subst hv
  exact lv_ior X.1 X.2.1 hd (k p l e s m args below meth c G cs A ad0 h0 X H locs ls ad (I.to (ax_mc trivial (ax_md (ax_md I.st)))))

theorem ax_ixor {x y : Int32} (v : Int32) (hd : decode Y.2.1 pc = .ok (.ixor, 1)) (hv : x ^^^ y = v) (k : ax_Z Y d mc ms Fi (pc + 1) L (ax_i v :: S) h uc us) : ax_Z Y d mc ms Fi pc L (ax_i y :: ax_i x :: S) h uc us := by
  intro p l e s m args below meth c G cs A ad0 h0 X H locs ls ad I
  subst hv
  exact lv_ixor X.1 X.2.1 hd (k p l e s m args below meth c G cs A ad0 h0 X H locs ls ad (I.to (ax_mc trivial (ax_md (ax_md I.st)))))

theorem ax_ishl {x y : Int32} (v : Int32) (hd : decode Y.2.1 pc = .ok (.ishl, 1)) (hv : x <<< (y &&& 31) = v) (k : ax_Z Y d mc ms Fi (pc + 1) L (ax_i v :: S) h uc us) : ax_Z Y d mc ms Fi pc L (ax_i y :: ax_i x :: S) h uc us := by
  intro p l e s m args below meth c G cs A ad0 h0 X H locs ls ad I
  subst hv
  exact lv_ishl X.1 X.2.1 hd (k p l e s m args below meth c G cs A ad0 h0 X H locs ls ad (I.to (ax_mc trivial (ax_md (ax_md I.st)))))

theorem ax_ishr {x y : Int32} (v : Int32) (hd : decode Y.2.1 pc = .ok (.ishr, 1)) (hv : x >>> (y &&& 31) = v) (k : ax_Z Y d mc ms Fi (pc + 1) L (ax_i v :: S) h uc us) : ax_Z Y d mc ms Fi pc L (ax_i y :: ax_i x :: S) h uc us := by
  intro p l e s m args below meth c G cs A ad0 h0 X H locs ls ad I
  subst hv
  exact lv_ishr X.1 X.2.1 hd (k p l e s m args below meth c G cs A ad0 h0 X H locs ls ad (I.to (ax_mc trivial (ax_md (ax_md I.st)))))

theorem ax_iushr {x y : Int32} (v : Int32) (hd : decode Y.2.1 pc = .ok (.iushr, 1)) (hv : (x.toUInt32 >>> (y.toUInt32 &&& Int32.toUInt32 31)).toInt32 = v) (k : ax_Z Y d mc ms Fi (pc + 1) L (ax_i v :: S) h uc us) : ax_Z Y d mc ms Fi pc L (ax_i y :: ax_i x :: S) h uc us := by
  intro p l e s m args below meth c G cs A ad0 h0 X H locs ls ad I
  exact lv_iushr X.1 X.2.1 hd hv (k p l e s m args below meth c G cs A ad0 h0 X H locs ls ad (I.to (ax_mc trivial (ax_md (ax_md I.st)))))

theorem ax_idiv {x y : Int32} (v : Int32) (hd : decode Y.2.1 pc = .ok (.idiv, 1)) (h0 : ¬ y = 0) (hv : x / y = v) (k : ax_Z Y d mc ms Fi (pc + 1) L (ax_i v :: S) h uc us) : ax_Z Y d mc ms Fi pc L (ax_i y :: ax_i x :: S) h uc us := by
  intro p l e s m args below meth c G cs A ad0 h9 X H locs ls ad I
  subst hv
  exact lv_idiv X.1 X.2.1 hd h0 (k p l e s m args below meth c G cs A ad0 h9 X H locs ls ad (I.to (ax_mc trivial (ax_md (ax_md I.st)))))

theorem ax_irem {x y : Int32} (v : Int32) (hd : decode Y.2.1 pc = .ok (.irem, 1)) (h0 : ¬ y = 0) (hv : x - x / y * y = v) (k : ax_Z Y d mc ms Fi (pc + 1) L (ax_i v :: S) h uc us) : ax_Z Y d mc ms Fi pc L (ax_i y :: ax_i x :: S) h uc us := by
  intro p l e s m args below meth c G cs A ad0 h9 X H locs ls ad I
  subst hv
  exact lv_irem X.1 X.2.1 hd h0 (k p l e s m args below meth c G cs A ad0 h9 X H locs ls ad (I.to (ax_mc trivial (ax_md (ax_md I.st)))))

theorem ax_i2l {x : Int32} (v : Int64) (hd : decode Y.2.1 pc = .ok (.i2l, 1)) (hv : x.toInt64 = v) (k : ax_Z Y d mc ms Fi (pc + 1) L (ax_l v :: S) h uc us) : ax_Z Y d mc ms Fi pc L (ax_i x :: S) h uc us := by
  intro p l e s m args below meth c G cs A ad0 h0 X H locs ls ad I
  exact lv_i2l X.1 X.2.1 hd hv (k p l e s m args below meth c G cs A ad0 h0 X H locs ls ad (I.to (ax_mc trivial (ax_md I.st))))

theorem ax_dup {v : ax_V} (hd : decode Y.2.1 pc = .ok (.dup, 1)) (hc : ax_c1 v = true) (k : ax_Z Y d mc ms Fi (pc + 1) L (v :: v :: S) h uc us) : ax_Z Y d mc ms Fi pc L (v :: S) h uc us := by
  intro p l e s m args below meth c G cs A ad0 h0 X H locs ls ad I
  exact lv_dup X.1 X.2.1 hd (ax_cat1 hc) (k p l e s m args below meth c G cs A ad0 h0 X H locs ls ad (I.to (ax_mc (I.st _ List.mem_cons_self) I.st)))

theorem ax_pop {v : ax_V} (hd : decode Y.2.1 pc = .ok (.pop, 1)) (hc : ax_c1 v = true) (k : ax_Z Y d mc ms Fi (pc + 1) L S h uc us) : ax_Z Y d mc ms Fi pc L (v :: S) h uc us := by
  intro p l e s m args below meth c G cs A ad0 h0 X H locs ls ad I
  exact lv_pop X.1 X.2.1 hd (ax_cat1 hc) (k p l e s m args below meth c G cs A ad0 h0 X H locs ls ad (I.to (ax_md I.st)))

theorem ax_dup2 {v w : ax_V} (hd : decode Y.2.1 pc = .ok (.dup2, 1)) (hc : ax_c1 v = true) (hc2 : ax_c1 w = true) (k : ax_Z Y d mc ms Fi (pc + 1) L (v :: w :: v :: w :: S) h uc us) : ax_Z Y d mc ms Fi pc L (v :: w :: S) h uc us := by
  intro p l e s m args below meth c G cs A ad0 h0 X H locs ls ad I
  exact lv_dup2_11 X.1 X.2.1 hd (ax_cat1 hc) (ax_cat1 hc2) (k p l e s m args below meth c G cs A ad0 h0 X H locs ls ad (I.to (ax_mc (I.st _ List.mem_cons_self) (ax_mc (I.st _ (List.mem_cons_of_mem _ List.mem_cons_self)) I.st))))

theorem ax_if_eq (tgt : Nat) {x : Int32} {off : Int} (hd : decode Y.2.1 pc = .ok (.ifCond .eq off, 3)) (ht : (pc : Int) + off = (tgt : Int)) (kt : x = 0 → ax_Z Y d mc ms Fi tgt L S h uc us) (kf : ¬ x = 0 → ax_Z Y d mc ms Fi (pc + 3) L S h uc us) : ax_Z Y d mc ms Fi pc L (ax_i x :: S) h uc us := by
  intro p l e s m args below meth c G cs A ad0 h0 X H locs ls ad I
  exact lv_if_eq X.1 X.2.1 hd ht (fun z => kt z p l e s m args below meth c G cs A ad0 h0 X H locs ls ad (I.to (ax_md I.st))) (fun z => kf z p l e s m args below meth c G cs A ad0 h0 X H locs ls ad (I.to (ax_md I.st)))

theorem ax_if_ne (tgt : Nat) {x : Int32} {off : Int} (hd : decode Y.2.1 pc = .ok (.ifCond .ne off, 3)) (ht : (pc : Int) + off = (tgt : Int)) (kt : ¬ x = 0 → ax_Z Y d mc ms Fi tgt L S h uc us) (kf : x = 0 → ax_Z Y d mc ms Fi (pc + 3) L S h uc us) : ax_Z Y d mc ms Fi pc L (ax_i x :: S) h uc us := by
  intro p l e s m args below meth c G cs A ad0 h0 X H locs ls ad I
  exact lv_if_ne X.1 X.2.1 hd ht (fun z => kt z p l e s m args below meth c G cs A ad0 h0 X H locs ls ad (I.to (ax_md I.st))) (fun z => kf z p l e s m args below meth c G cs A ad0 h0 X H locs ls ad (I.to (ax_md I.st)))

theorem ax_if_lt (tgt : Nat) {x : Int32} {off : Int} (hd : decode Y.2.1 pc = .ok (.ifCond .lt off, 3)) (ht : (pc : Int) + off = (tgt : Int)) (kt : x < 0 → ax_Z Y d mc ms Fi tgt L S h uc us) (kf : ¬ x < 0 → ax_Z Y d mc ms Fi (pc + 3) L S h uc us) : ax_Z Y d mc ms Fi pc L (ax_i x :: S) h uc us := by
  intro p l e s m args below meth c G cs A ad0 h0 X H locs ls ad I
  exact lv_if_lt X.1 X.2.1 hd ht (fun z => kt z p l e s m args below meth c G cs A ad0 h0 X H locs ls ad (I.to (ax_md I.st))) (fun z => kf z p l e s m args below meth c G cs A ad0 h0 X H locs ls ad (I.to (ax_md I.st)))

theorem ax_if_ge (tgt : Nat) {x : Int32} {off : Int} (hd : decode Y.2.1 pc = .ok (.ifCond .ge off, 3)) (ht : (pc : Int) + off = (tgt : Int)) (kt : 0 ≤ x → ax_Z Y d mc ms Fi tgt L S h uc us) (kf : ¬ 0 ≤ x → ax_Z Y d mc ms Fi (pc + 3) L S h uc us) : ax_Z Y d mc ms Fi pc L (ax_i x :: S) h uc us := by
  intro p l e s m args below meth c G cs A ad0 h0 X H locs ls ad I
  exact lv_if_ge X.1 X.2.1 hd ht (fun z => kt z p l e s m args below meth c G cs A ad0 h0 X H locs ls ad (I.to (ax_md I.st))) (fun z => kf z p l e s m args below meth c G cs A ad0 h0 X H locs ls ad (I.to (ax_md I.st)))

theorem ax_if_gt (tgt : Nat) {x : Int32} {off : Int} (hd : decode Y.2.1 pc = .ok (.ifCond .gt off, 3)) (ht : (pc : Int) + off = (tgt : Int)) (kt : 0 < x → ax_Z Y d mc ms Fi tgt L S h uc us) (kf : ¬ 0 < x → ax_Z Y d mc ms Fi (pc + 3) L S h uc us) : ax_Z Y d mc ms Fi pc L (ax_i x :: S) h uc us := by
  intro p l e s m args below meth c G cs A ad0 h0 X H locs ls ad I
  exact lv_if_gt X.1 X.2.1 hd ht (fun z => kt z p l e s m args below meth c G cs A ad0 h0 X H locs ls ad (I.to (ax_md I.st))) (fun z => kf z p l e s m args below meth c G cs A ad0 h0 X H locs ls ad (I.to (ax_md I.st)))

theorem ax_if_le (tgt : Nat) {x : Int32} {off : Int} (hd : decode Y.2.1 pc = .ok (.ifCond .le off, 3)) (ht : (pc : Int) + off = (tgt : Int)) (kt : x ≤ 0 → ax_Z Y d mc ms Fi tgt L S h uc us) (kf : ¬ x ≤ 0 → ax_Z Y d mc ms Fi (pc + 3) L S h uc us) : ax_Z Y d mc ms Fi pc L (ax_i x :: S) h uc us := by
  intro p l e s m args below meth c G cs A ad0 h0 X H locs ls ad I
  exact lv_if_le X.1 X.2.1 hd ht (fun z => kt z p l e s m args below meth c G cs A ad0 h0 X H locs ls ad (I.to (ax_md I.st))) (fun z => kf z p l e s m args below meth c G cs A ad0 h0 X H locs ls ad (I.to (ax_md I.st)))

theorem ax_icmp_eq (tgt : Nat) {x y : Int32} {off : Int} (hd : decode Y.2.1 pc = .ok (.if_icmp .eq off, 3)) (ht : (pc : Int) + off = (tgt : Int)) (kt : x = y → ax_Z Y d mc ms Fi tgt L S h uc us) (kf : ¬ x = y → ax_Z Y d mc ms Fi (pc + 3) L S h uc us) : ax_Z Y d mc ms Fi pc L (ax_i y :: ax_i x :: S) h uc us := by
  intro p l e s m args below meth c G cs A ad0 h0 X H locs ls ad I
  exact lv_icmp_eq X.1 X.2.1 hd ht (fun z => kt z p l e s m args below meth c G cs A ad0 h0 X H locs ls ad (I.to (ax_md (ax_md I.st)))) (fun z => kf z p l e s m args below meth c G cs A ad0 h0 X H locs ls ad (I.to (ax_md (ax_md I.st))))

theorem ax_icmp_ne (tgt : Nat) {x y : Int32} {off : Int} (hd : decode Y.2.1 pc = .ok (.if_icmp .ne off, 3)) (ht : (pc : Int) + off = (tgt : Int)) (kt : ¬ x = y → ax_Z Y d mc ms Fi tgt L S h uc us) (kf : x = y → ax_Z Y d mc ms Fi (pc + 3) L S h uc us) : ax_Z Y d mc ms Fi pc L (ax_i y :: ax_i x :: S) h uc us := by
  intro p l e s m args below meth c G cs A ad0 h0 X H locs ls ad I
  exact lv_icmp_ne X.1 X.2.1 hd ht (fun z => kt z p l e s m args below meth c G cs A ad0 h0 X H locs ls ad (I.to (ax_md (ax_md I.st)))) (fun z => kf z p l e s m args below meth c G cs A ad0 h0 X H locs ls ad (I.to (ax_md (ax_md I.st))))

theorem ax_icmp_lt (tgt : Nat) {x y : Int32} {off : Int} (hd : decode Y.2.1 pc = .ok (.if_icmp .lt off, 3)) (ht : (pc : Int) + off = (tgt : Int)) (kt : x < y → ax_Z Y d mc ms Fi tgt L S h uc us) (kf : ¬ x < y → ax_Z Y d mc ms Fi (pc + 3) L S h uc us) : ax_Z Y d mc ms Fi pc L (ax_i y :: ax_i x :: S) h uc us := by
  intro p l e s m args below meth c G cs A ad0 h0 X H locs ls ad I
  exact lv_icmp_lt X.1 X.2.1 hd ht (fun z => kt z p l e s m args below meth c G cs A ad0 h0 X H locs ls ad (I.to (ax_md (ax_md I.st)))) (fun z => kf z p l e s m args below meth c G cs A ad0 h0 X H locs ls ad (I.to (ax_md (ax_md I.st))))

theorem ax_icmp_ge (tgt : Nat) {x y : Int32} {off : Int} (hd : decode Y.2.1 pc = .ok (.if_icmp .ge off, 3)) (ht : (pc : Int) + off = (tgt : Int)) (kt : y ≤ x → ax_Z Y d mc ms Fi tgt L S h uc us) (kf : ¬ y ≤ x → ax_Z Y d mc ms Fi (pc + 3) L S h uc us) : ax_Z Y d mc ms Fi pc L (ax_i y :: ax_i x :: S) h uc us := by
  intro p l e s m args below meth c G cs A ad0 h0 X H locs ls ad I
  exact lv_icmp_ge X.1 X.2.1 hd ht (fun z => kt z p l e s m args below meth c G cs A ad0 h0 X H locs ls ad (I.to (ax_md (ax_md I.st)))) (fun z => kf z p l e s m args below meth c G cs A ad0 h0 X H locs ls ad (I.to (ax_md (ax_md I.st))))

theorem ax_icmp_gt (tgt : Nat) {x y : Int32} {off : Int} (hd : decode Y.2.1 pc = .ok (.if_icmp .gt off, 3)) (ht : (pc : Int) + off = (tgt : Int)) (kt : y < x → ax_Z Y d mc ms Fi tgt L S h uc us) (kf : ¬ y < x → ax_Z Y d mc ms Fi (pc + 3) L S h uc us) : ax_Z Y d mc ms Fi pc L (ax_i y :: ax_i x :: S) h uc us := by
  intro p l e s m args below meth c G cs A ad0 h0 X H locs ls ad I
  exact lv_icmp_gt X.1 X.2.1 hd ht (fun z => kt z p l e s m args below meth c G cs A ad0 h0 X H locs ls ad (I.to (ax_md (ax_md I.st)))) (fun z => kf z p l e s m args below meth c G cs A ad0 h0 X H locs ls ad (I.to (ax_md (ax_md I.st))))

theorem ax_icmp_le (tgt : Nat) {x y : Int32} {off : Int} (hd : decode Y.2.1 pc = .ok (.if_icmp .le off, 3)) (ht : (pc : Int) + off = (tgt : Int)) (kt : x ≤ y → ax_Z Y d mc ms Fi tgt L S h uc us) (kf : ¬ x ≤ y → ax_Z Y d mc ms Fi (pc + 3) L S h uc us) : ax_Z Y d mc ms Fi pc L (ax_i y :: ax_i x :: S) h uc us := by
  intro p l e s m args below meth c G cs A ad0 h0 X H locs ls ad I
  exact lv_icmp_le X.1 X.2.1 hd ht (fun z => kt z p l e s m args below meth c G cs A ad0 h0 X H locs ls ad (I.to (ax_md (ax_md I.st)))) (fun z => kf z p l e s m args below meth c G cs A ad0 h0 X H locs ls ad (I.to (ax_md (ax_md I.st))))

theorem ax_goto (tgt : Nat) {off : Int} (hd : decode Y.2.1 pc = .ok (.goto off, 3)) (ht : (pc : Int) + off = (tgt : Int)) (k : ax_Z Y d mc ms Fi tgt L S h uc us) : ax_Z Y d mc ms Fi pc L S h uc us := by
  intro p l e s m args below meth c G cs A ad0 h0 X H locs ls ad I
  exact lv_goto X.1 X.2.1 hd ht (k p l e s m args below meth c G cs A ad0 h0 X H locs ls ad I)

theorem ax_tin (tgt : Nat) {dflt lo hi : Int} {offs : Array Int} {len : Nat} {x : Int32} {off : Int} (hd : decode Y.2.1 pc = .ok (.tableswitch dflt lo hi offs, len)) (h1 : ¬ x.toInt < lo) (h2 : ¬ hi < x.toInt) (ho : offs[(x.toInt - lo).toNat]? = some off) (ht : (pc : Int) + off = (tgt : Int)) (k : ax_Z Y d mc ms Fi tgt L S h uc us) : ax_Z Y d mc ms Fi pc L (ax_i x :: S) h uc us := by
  intro p l e s m args below meth c G cs A ad0 h0 X H locs ls ad I
  exact lv_tableIn X.1 X.2.1 hd h1 h2 ho ht (k p l e s m args below meth c G cs A ad0 h0 X H locs ls ad (I.to (ax_md I.st)))

theorem ax_tout (tgt : Nat) {dflt lo hi : Int} {offs : Array Int} {len : Nat} {x : Int32} (hd : decode Y.2.1 pc = .ok (.tableswitch dflt lo hi offs, len)) (h1 : x.toInt < lo ∨ hi < x.toInt) (ht : (pc : Int) + dflt = (tgt : Int)) (k : ax_Z Y d mc ms Fi tgt L S h uc us) : ax_Z Y d mc ms Fi pc L (ax_i x :: S) h uc us := by
  intro p l e s m args below meth c G cs A ad0 h0 X H locs ls ad I
  exact lv_tableOut X.1 X.2.1 hd h1 ht (k p l e s m args below meth c G cs A ad0 h0 X H locs ls ad (I.to (ax_md I.st)))

theorem ax_lcmp {x y : Int64} (hd : decode Y.2.1 pc = .ok (.lcmp, 1)) (k : ax_Z Y d mc ms Fi (pc + 1) L (ax_i (lg_cmp x y) :: S) h uc us) : ax_Z Y d mc ms Fi pc L (ax_l y :: ax_l x :: S) h uc us := by
  intro p l e s m args below meth c G cs A ad0 h0 X H locs ls ad I
  exact W.lcmp X.1 X.2.1 hd (k p l e s m args below meth c G cs A ad0 h0 X H locs ls ad (I.to (ax_mc trivial (ax_md (ax_md I.st)))))

theorem ax_ifnull (tgt : Nat) {r : Option ax_N} {off : Int} (hd : decode Y.2.1 pc = .ok (.ifnull off, 3)) (ht : (pc : Int) + off = (tgt : Int)) (kt : r = none → ax_Z Y d mc ms Fi tgt L S h uc us) (kf : r ≠ none → ax_Z Y d mc ms Fi (pc + 3) L S h uc us) : ax_Z Y d mc ms Fi pc L (ax_q r :: S) h uc us := by
  intro p l e s m args below meth c G cs A ad0 h0 X H locs ls ad I
  cases r with
  | none => exact lv_ifnullN X.1 X.2.1 hd ht (kt rfl p l e s m args below meth c G cs A ad0 h0 X H locs ls ad (I.to (ax_md I.st)))
  | some u => exact lv_ifnull X.1 X.2.1 hd (kf (fun z => by cases z) p l e s m args below meth c G cs A ad0 h0 X H locs ls ad (I.to (ax_md I.st)))

theorem ax_ifnonnull (tgt : Nat) {r : Option ax_N} {off : Int} (hd : decode Y.2.1 pc = .ok (.ifnonnull off, 3)) (ht : (pc : Int) + off = (tgt : Int)) (kt : r ≠ none → ax_Z Y d mc ms Fi tgt L S h uc us) (kf : r = none → ax_Z Y d mc ms Fi (pc + 3) L S h uc us) : ax_Z Y d mc ms Fi pc L (ax_q r :: S) h uc us := by
  intro p l e s m args below meth c G cs A ad0 h0 X H locs ls ad I
  cases r with
  | none => exact lv_ifnonnullN X.1 X.2.1 hd (kf rfl p l e s m args below meth c G cs A ad0 h0 X H locs ls ad (I.to (ax_md I.st)))
  | some u => exact lv_ifnonnull X.1 X.2.1 hd ht (kt (fun z => by cases z) p l e s m args below meth c G cs A ad0 h0 X H locs ls ad (I.to (ax_md I.st)))

theorem ax_inj {G : va_G} {cs : ax_K} {A : Nat → Prop} {ad : ax_N → Nat} {H H0 : Heap} {U : State} (hP : ax_P G cs ad h A H) (hst : ax_St (ad ax_E) A U H0) {r r2 : Option ax_N} (h1 : ax_ok h (ax_q r)) (h2 : ax_ok h (ax_q r2)) (e : r.map ad = r2.map ad) : r = r2 := by
  obtain ⟨D, hD, hPP, hDD⟩ := hP
  have inA : ∀ u, h u ≠ none → A (ad u) := fun u hu => by
    cases hc : h u with
    | none => exact absurd hc hu
    | some c0 =>
      obtain ⟨k, -, hk⟩ := ax_at (G := G) (cs := cs) (ad := ad) hD hc
      exact hDD.2 k _ hk
  have nE : ¬ A (ad ax_E) := by
    obtain ⟨⟨-, cell, -, -, -, -, -, -, q⟩, -⟩ := hst
    exact q
  cases r with
  | none => cases r2 with
    | none => rfl
    | some u2 => cases e
  | some u => cases r2 with
    | none => cases e
    | some u2 =>
      have e1 : ad u = ad u2 := Option.some.inj e
      rcases h1 with a1 | a1 <;> rcases h2 with a2 | a2
      · cases hc1 : h u with
        | none => exact absurd hc1 a1
        | some c1 =>
          cases hc2 : h u2 with
          | none => exact absurd hc2 a2
          | some c2 =>
            obtain ⟨k1, g1, f1⟩ := ax_at (G := G) (cs := cs) (ad := ad) hD hc1
            obtain ⟨k2, g2, f2⟩ := ax_at (G := G) (cs := cs) (ad := ad) hD hc2
            have hk := hDD.1 k1 k2 _ _ f1 f2 e1
            subst hk
            exact g1.symm.trans g2
      · exact absurd (inA u a1) (by rw [e1, a2]; exact nE)
      · exact absurd (inA u2 a2) (by rw [← e1, a1]; exact nE)
      · rw [a1, a2]

theorem ax_acmp_eq (tgt : Nat) {r r2 : Option ax_N} {off : Int} (hd : decode Y.2.1 pc = .ok (.if_acmp .eq off, 3)) (ht : (pc : Int) + off = (tgt : Int)) (kt : r = r2 → ax_Z Y d mc ms Fi tgt L S h uc us) (kf : ¬ r = r2 → ax_Z Y d mc ms Fi (pc + 3) L S h uc us) : ax_Z Y d mc ms Fi pc L (ax_q r2 :: ax_q r :: S) h uc us := by
  intro p l e s m args below meth c G cs A ad0 h0 X H locs ls ad I
  exact lv_acmp_eq X.1 X.2.1 hd ht (fun z => kt (ax_inj I.1 (by rw [I.2.2.2.2.2.2.2]; exact X.2.2.2.2.2.2.2.2.2.2) (I.st _ (List.mem_cons_of_mem _ List.mem_cons_self)) (I.st _ List.mem_cons_self) z) p l e s m args below meth c G cs A ad0 h0 X H locs ls ad (I.to (ax_md (ax_md I.st)))) (fun z => kf (fun q => z (by rw [q])) p l e s m args below meth c G cs A ad0 h0 X H locs ls ad (I.to (ax_md (ax_md I.st))))

theorem ax_acmp_ne (tgt : Nat) {r r2 : Option ax_N} {off : Int} (hd : decode Y.2.1 pc = .ok (.if_acmp .ne off, 3)) (ht : (pc : Int) + off = (tgt : Int)) (kt : ¬ r = r2 → ax_Z Y d mc ms Fi tgt L S h uc us) (kf : r = r2 → ax_Z Y d mc ms Fi (pc + 3) L S h uc us) : ax_Z Y d mc ms Fi pc L (ax_q r2 :: ax_q r :: S) h uc us := by
  intro p l e s m args below meth c G cs A ad0 h0 X H locs ls ad I
  exact lv_acmp_ne X.1 X.2.1 hd ht (fun z => kt (fun q => z (by rw [q])) p l e s m args below meth c G cs A ad0 h0 X H locs ls ad (I.to (ax_md (ax_md I.st)))) (fun z => kf (ax_inj I.1 (by rw [I.2.2.2.2.2.2.2]; exact X.2.2.2.2.2.2.2.2.2.2) (I.st _ (List.mem_cons_of_mem _ List.mem_cons_self)) (I.st _ List.mem_cons_self) z) p l e s m args below meth c G cs A ad0 h0 X H locs ls ad (I.to (ax_md (ax_md I.st))))

theorem ax_iret {x : Int32} (hd : decode Y.2.1 pc = .ok (.ireturn, 1)) (hr : Y.2.2.2.1 = some .int) (hu : uc ≤ mc ∧ us ≤ ms) (hf : Fi (some (ax_i x)) h) : ax_Z Y d mc ms Fi pc L (ax_i x :: []) h uc us := by
  intro p l e s m args below meth c G cs A ad0 h0 X H locs ls ad I
  refine W.widen hu.1 hu.2 ?_
  exact W.iret (v := x) X.1 X.2.1 (X.2.2.2.2.2.1.trans hr) (fun t ht hW => ⟨⟨some (ax_i x), h, ad, rfl, hf, (by rw [ht]; exact I.1), I.2.2.2.1, fun v hv => (by cases hv; trivial), fun u hu => I.2.2.2.2.2.2.1 u hu, I.2.2.2.2.2.2.2⟩, I.2.1.F ht⟩) I.2.1.2.2 hd X.2.2.2.2.2.2.1

theorem ax_zret {x : Int32} (hd : decode Y.2.1 pc = .ok (.ireturn, 1)) (hr : Y.2.2.2.1 = some .boolean) (hx : x = 0 ∨ x = 1) (hu : uc ≤ mc ∧ us ≤ ms) (hf : Fi (some (ax_i x)) h) : ax_Z Y d mc ms Fi pc L (ax_i x :: []) h uc us := by
  intro p l e s m args below meth c G cs A ad0 h0 X H locs ls ad I
  refine W.widen hu.1 hu.2 ?_
  exact W.zret (v := x) X.1 X.2.1 (X.2.2.2.2.2.1.trans hr) (by rcases hx with q | q <;> subst q <;> decide) (fun t ht hW => ⟨⟨some (ax_i x), h, ad, rfl, hf, (by rw [ht]; exact I.1), I.2.2.2.1, fun v hv => (by cases hv; trivial), fun u hu => I.2.2.2.2.2.2.1 u hu, I.2.2.2.2.2.2.2⟩, I.2.1.F ht⟩) I.2.1.2.2 hd X.2.2.2.2.2.2.1

theorem ax_vret (hd : decode Y.2.1 pc = .ok (.return_, 1)) (hr : Y.2.2.2.1 = none) (hu : uc ≤ mc ∧ us ≤ ms) (hf : Fi none h) : ax_Z Y d mc ms Fi pc L [] h uc us := by
  intro p l e s m args below meth c G cs A ad0 h0 X H locs ls ad I
  refine W.widen hu.1 hu.2 ?_
  exact W.vret X.1 X.2.1 (X.2.2.2.2.2.1.trans hr) (fun t ht hW => ⟨⟨none, h, ad, rfl, hf, (by rw [ht]; exact I.1), I.2.2.2.1, fun v hv => (by cases hv), fun u hu => I.2.2.2.2.2.2.1 u hu, I.2.2.2.2.2.2.2⟩, I.2.1.F ht⟩) I.2.1.2.2 hd X.2.2.2.2.2.2.1

theorem ax_aret {r : Option ax_N} {rt : FieldType} (hd : decode Y.2.1 pc = .ok (.areturn, 1)) (hr : Y.2.2.2.1 = some rt) (hrt : (∃ n, rt = .object n) ∨ ∃ t, rt = .array t) (hu : uc ≤ mc ∧ us ≤ ms) (hf : Fi (some (ax_q r)) h) : ax_Z Y d mc ms Fi pc L (ax_q r :: []) h uc us := by
  intro p l e s m args below meth c G cs A ad0 h0 X H locs ls ad I
  refine W.widen hu.1 hu.2 ?_
  exact W.aret (v := ax_v ad (ax_q r)) X.1 X.2.1 (X.2.2.2.2.2.1.trans hr) hrt (by cases r with
    | none => exact Or.inl rfl
    | some u => exact Or.inr ⟨_, rfl⟩) (fun t ht hW => ⟨⟨some (ax_q r), h, ad, rfl, hf, (by rw [ht]; exact I.1), I.2.2.2.1, fun v hv => (by cases hv; exact I.st _ List.mem_cons_self), fun u hu => I.2.2.2.2.2.2.1 u hu, I.2.2.2.2.2.2.2⟩, I.2.1.F ht⟩) I.2.1.2.2 hd X.2.2.2.2.2.2.1

end AXR
