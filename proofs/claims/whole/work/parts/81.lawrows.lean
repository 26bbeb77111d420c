/-! The rows of the law's own body: the script at slot 0 is no cell of the abstract heap. -/
abbrev mL_law : ax_M := ("LockLookMemoryLaw", code, 4, ret, false)
def lz (p : Program) (l : Launch) (e : Env) (s : State) (m : MethodId) (below : List Frame) (meth : Method) (c : Code) (G : va_G) (cs : ax_K) (ad0 : ax_N → Nat) (b : Nat) (pc : Nat) (L : List (Option ax_V)) (S : List ax_V) (h : ax_H) (uc us : Nat) : Prop :=
  ∀ (H : Heap) (locs : List Loc) (ls : Array Slot) (ad : ax_N → Nat), ax_I mL_law s G cs (fun q => s.heap.size ≤ q) ad0 (fun _ => none) H locs ls ad L S h → ls[0]? = some (.val (.ref b)) →
    W p l e room_1 s m #[Value.ref b] below meth c H locs uc us (lw_Z below #[Value.ref b] s) (F0 m pc ls (S.map (ax_v ad)))
theorem lz_set {ls1 : Array Slot} {n i b : Nat} {w : Value} {l : List (Nat × Value)} (hi : i ≠ 0) (h1 : lv_has ls1 n ((i, w) :: ((0, Value.ref b) :: l).filter (fun q => !(q.1 == i) && !(q.1 + 1 == i && q.2.category == 2)))) : ls1[0]? = some (.val (.ref b)) ∧ lv_has ls1 n ((i, w) :: l.filter (fun q => !(q.1 == i) && !(q.1 + 1 == i && q.2.category == 2))) := by
  have h0 : ((0, Value.ref b) : Nat × Value) ∈ ((0, Value.ref b) :: l).filter (fun q => !(q.1 == i) && !(q.1 + 1 == i && q.2.category == 2)) := by
    refine List.mem_filter.mpr ⟨List.mem_cons_self, ?_⟩
    have : (0 == i) = false := by simp; omega
    simp [this, Value.category]
  refine ⟨h1.2.2 (0, .ref b) (List.mem_cons_of_mem _ h0), h1.1, h1.2.1, fun q hq => ?_⟩
  rcases List.mem_cons.mp hq with e | e
  · exact h1.2.2 q (by rw [e]; exact List.mem_cons_self)
  · exact h1.2.2 q (List.mem_cons_of_mem _ (List.mem_filter.mpr ⟨List.mem_cons_of_mem _ (List.mem_filter.mp e).1, (List.mem_filter.mp e).2⟩))
theorem lz_has {ad : ax_N → Nat} {L : List (Option ax_V)} {ls : Array Slot} {n b : Nat} (hl : ax_lv ad L ls n) (hz : ls[0]? = some (.val (.ref b))) : lv_has ls n ((0, .ref b) :: ax_lvl ad L) := by
  have h := ax_lvl_has hl
  refine ⟨h.1, h.2.1, fun q hq => ?_⟩
  rcases List.mem_cons.mp hq with e | e
  · rw [e]; exact hz
  · exact h.2.2 q e
section LZR
variable {p : Program} {l : Launch} {e : Env} {s : State} {m : MethodId} {below : List Frame} {meth : Method} {c : Code} {G : va_G} {cs : ax_K} {ad0 : ax_N → Nat} {b : Nat} {pc : Nat} {L : List (Option ax_V)} {S : List ax_V} {h : ax_H} {uc us : Nat}
theorem lz_hq {h2 : ax_H} (e0 : h = h2) (k : lz p l e s m below meth c G cs ad0 b pc L S h2 uc us) : lz p l e s m below meth c G cs ad0 b pc L S h uc us := by rw [e0]; exact k
theorem lz_widen {uc1 us1 : Nat} (h1 : uc ≤ uc1) (h2 : us ≤ us1) (k : lz p l e s m below meth c G cs ad0 b pc L S h uc1 us1) : lz p l e s m below meth c G cs ad0 b pc L S h uc us := by
  intro H locs ls ad I hz
  exact W.widen h1 h2 (k H locs ls ad I hz)
theorem lz_iconst (X : ax_X mL_law p s m #[Value.ref b] meth c G cs (fun q => s.heap.size ≤ q) (ad0 ax_E)) {n : Int} (v : Int32) (hd : decode cL_law pc = .ok (.iconst n, 1)) (hv : Int32.ofInt n = v) (k : lz p l e s m below meth c G cs ad0 b (pc + 1) L (ax_i v :: S) h uc us) : lz p l e s m below meth c G cs ad0 b pc L S h uc us := by
  intro H locs ls ad I hz
  exact lv_iconst X.1 X.2.1 hd hv (k H locs ls ad (I.to (ax_mc trivial I.st)) hz)
theorem lz_bipush (X : ax_X mL_law p s m #[Value.ref b] meth c G cs (fun q => s.heap.size ≤ q) (ad0 ax_E)) {n : Int} (v : Int32) (hd : decode cL_law pc = .ok (.bipush n, 2)) (hv : (Int8.ofInt n).toInt32 = v) (k : lz p l e s m below meth c G cs ad0 b (pc + 2) L (ax_i v :: S) h uc us) : lz p l e s m below meth c G cs ad0 b pc L S h uc us := by
  intro H locs ls ad I hz
  exact lv_bipush X.1 X.2.1 hd hv (k H locs ls ad (I.to (ax_mc trivial I.st)) hz)
theorem lz_iload_n (X : ax_X mL_law p s m #[Value.ref b] meth c G cs (fun q => s.heap.size ≤ q) (ad0 ax_E)) {n : Fin 4} {x : Int32} (hd : decode cL_law pc = .ok (.iload_n n, 1)) (hl : L[(n : Nat)]? = some (some (ax_i x))) (k : lz p l e s m below meth c G cs ad0 b (pc + 1) L (ax_i x :: S) h uc us) : lz p l e s m below meth c G cs ad0 b pc L S h uc us := by
  intro H locs ls ad I hz
  exact lv_iload_n X.1 X.2.1 hd rfl (I.2.2.1.2.2 _ _ hl) (k H locs ls ad (I.to (ax_mc trivial I.st)) hz)
theorem lz_aload_n (X : ax_X mL_law p s m #[Value.ref b] meth c G cs (fun q => s.heap.size ≤ q) (ad0 ax_E)) {n : Fin 4} {r : Option ax_N} (hd : decode cL_law pc = .ok (.aload_n n, 1)) (hl : L[(n : Nat)]? = some (some (ax_q r))) (k : lz p l e s m below meth c G cs ad0 b (pc + 1) L (ax_q r :: S) h uc us) : lz p l e s m below meth c G cs ad0 b pc L S h uc us := by
  intro H locs ls ad I hz
  have k1 := k H locs ls ad (I.to (ax_mc (I.2.2.2.2.2.1 _ _ hl) I.st)) hz
  have k2 := I.2.2.1.2.2 _ _ hl
  cases r with
  | none => exact lv_aload_nN X.1 X.2.1 hd rfl k2 k1
  | some u => exact lv_aload_n X.1 X.2.1 hd rfl k2 k1
theorem lz_iadd (X : ax_X mL_law p s m #[Value.ref b] meth c G cs (fun q => s.heap.size ≤ q) (ad0 ax_E)) {x y : Int32} (v : Int32) (hd : decode cL_law pc = .ok (.iadd, 1)) (hv : x + y = v) (k : lz p l e s m below meth c G cs ad0 b (pc + 1) L (ax_i v :: S) h uc us) : lz p l e s m below meth c G cs ad0 b pc L (ax_i y :: ax_i x :: S) h uc us := by
  intro H locs ls ad I hz
  subst hv
  exact lv_iadd X.1 X.2.1 hd (k H locs ls ad (I.to (ax_mc trivial (ax_md (ax_md I.st)))) hz)
theorem lz_isub (X : ax_X mL_law p s m #[Value.ref b] meth c G cs (fun q => s.heap.size ≤ q) (ad0 ax_E)) {x y : Int32} (v : Int32) (hd : decode cL_law pc = .ok (.isub, 1)) (hv : x - y = v) (k : lz p l e s m below meth c G cs ad0 b (pc + 1) L (ax_i v :: S) h uc us) : lz p l e s m below meth c G cs ad0 b pc L (ax_i y :: ax_i x :: S) h uc us := by
  intro H locs ls ad I hz
  subst hv
  exact lv_isub X.1 X.2.1 hd (k H locs ls ad (I.to (ax_mc trivial (ax_md (ax_md I.st)))) hz)
theorem lz_iand (X : ax_X mL_law p s m #[Value.ref b] meth c G cs (fun q => s.heap.size ≤ q) (ad0 ax_E)) {x y : Int32} (v : Int32) (hd : decode cL_law pc = .ok (.iand, 1)) (hv : x &&& y = v) (k : lz p l e s m below meth c G cs ad0 b (pc + 1) L (ax_i v :: S) h uc us) : lz p l e s m below meth c G cs ad0 b pc L (ax_i y :: ax_i x :: S) h uc us := by
  intro H locs ls ad I hz
  subst hv
  exact lv_iand X.1 X.2.1 hd (k H locs ls ad (I.to (ax_mc trivial (ax_md (ax_md I.st)))) hz)
theorem lz_icmp_gt (X : ax_X mL_law p s m #[Value.ref b] meth c G cs (fun q => s.heap.size ≤ q) (ad0 ax_E)) (tgt : Nat) {x y : Int32} {off : Int} (hd : decode cL_law pc = .ok (.if_icmp .gt off, 3)) (ht : (pc : Int) + off = (tgt : Int)) (kt : y < x → lz p l e s m below meth c G cs ad0 b tgt L S h uc us) (kf : ¬ y < x → lz p l e s m below meth c G cs ad0 b (pc + 3) L S h uc us) : lz p l e s m below meth c G cs ad0 b pc L (ax_i y :: ax_i x :: S) h uc us := by
  intro H locs ls ad I hz
  exact lv_icmp_gt X.1 X.2.1 hd ht (fun z => kt z H locs ls ad (I.to (ax_md (ax_md I.st))) hz) (fun z => kf z H locs ls ad (I.to (ax_md (ax_md I.st))) hz)
theorem lz_icmp_eq (X : ax_X mL_law p s m #[Value.ref b] meth c G cs (fun q => s.heap.size ≤ q) (ad0 ax_E)) (tgt : Nat) {x y : Int32} {off : Int} (hd : decode cL_law pc = .ok (.if_icmp .eq off, 3)) (ht : (pc : Int) + off = (tgt : Int)) (kt : x = y → lz p l e s m below meth c G cs ad0 b tgt L S h uc us) (kf : ¬ x = y → lz p l e s m below meth c G cs ad0 b (pc + 3) L S h uc us) : lz p l e s m below meth c G cs ad0 b pc L (ax_i y :: ax_i x :: S) h uc us := by
  intro H locs ls ad I hz
  exact lv_icmp_eq X.1 X.2.1 hd ht (fun z => kt z H locs ls ad (I.to (ax_md (ax_md I.st))) hz) (fun z => kf z H locs ls ad (I.to (ax_md (ax_md I.st))) hz)
theorem lz_goto (X : ax_X mL_law p s m #[Value.ref b] meth c G cs (fun q => s.heap.size ≤ q) (ad0 ax_E)) (tgt : Nat) {off : Int} (hd : decode cL_law pc = .ok (.goto off, 3)) (ht : (pc : Int) + off = (tgt : Int)) (k : lz p l e s m below meth c G cs ad0 b tgt L S h uc us) : lz p l e s m below meth c G cs ad0 b pc L S h uc us := by
  intro H locs ls ad I hz
  exact lv_goto X.1 X.2.1 hd ht (k H locs ls ad I hz)
theorem lz_tin (X : ax_X mL_law p s m #[Value.ref b] meth c G cs (fun q => s.heap.size ≤ q) (ad0 ax_E)) (tgt : Nat) {dflt lo hi : Int} {offs : Array Int} {len : Nat} {x : Int32} {off : Int} (hd : decode cL_law pc = .ok (.tableswitch dflt lo hi offs, len)) (h1 : ¬ x.toInt < lo) (h2 : ¬ hi < x.toInt) (ho : offs[(x.toInt - lo).toNat]? = some off) (ht : (pc : Int) + off = (tgt : Int)) (k : lz p l e s m below meth c G cs ad0 b tgt L S h uc us) : lz p l e s m below meth c G cs ad0 b pc L (ax_i x :: S) h uc us := by
  intro H locs ls ad I hz
  exact lv_tableIn X.1 X.2.1 hd h1 h2 ho ht (k H locs ls ad (I.to (ax_md I.st)) hz)
theorem lz_tout (X : ax_X mL_law p s m #[Value.ref b] meth c G cs (fun q => s.heap.size ≤ q) (ad0 ax_E)) (tgt : Nat) {dflt lo hi : Int} {offs : Array Int} {len : Nat} {x : Int32} (hd : decode cL_law pc = .ok (.tableswitch dflt lo hi offs, len)) (h1 : x.toInt < lo ∨ hi < x.toInt) (ht : (pc : Int) + dflt = (tgt : Int)) (k : lz p l e s m below meth c G cs ad0 b tgt L S h uc us) : lz p l e s m below meth c G cs ad0 b pc L (ax_i x :: S) h uc us := by
  intro H locs ls ad I hz
  exact lv_tableOut X.1 X.2.1 hd h1 ht (k H locs ls ad (I.to (ax_md I.st)) hz)
theorem lz_dup (X : ax_X mL_law p s m #[Value.ref b] meth c G cs (fun q => s.heap.size ≤ q) (ad0 ax_E)) {v : ax_V} (hd : decode cL_law pc = .ok (.dup, 1)) (hc : ax_c1 v = true) (k : lz p l e s m below meth c G cs ad0 b (pc + 1) L (v :: v :: S) h uc us) : lz p l e s m below meth c G cs ad0 b pc L (v :: S) h uc us := by
  intro H locs ls ad I hz
  exact lv_dup X.1 X.2.1 hd (ax_cat1 hc) (k H locs ls ad (I.to (ax_mc (I.st _ List.mem_cons_self) I.st)) hz)
theorem lz_istore_n (X : ax_X mL_law p s m #[Value.ref b] meth c G cs (fun q => s.heap.size ≤ q) (ad0 ax_E)) {n : Fin 4} {x : Int32} (hd : decode cL_law pc = .ok (.istore_n n, 1)) (hn : ax_nl L = true) (h0 : (n : Nat) ≠ 0) (hi : (n : Nat) < 4) (k : lz p l e s m below meth c G cs ad0 b (pc + 1) (L.set (n : Nat) (some (ax_i x))) S h uc us) : lz p l e s m below meth c G cs ad0 b pc L (ax_i x :: S) h uc us := by
  intro H locs ls ad I hz
  exact lv_istore_n X.1 X.2.1 hd rfl (lz_has I.2.2.1 hz) hi rfl (fun ls1 h1 => k H locs ls1 ad ⟨I.1, I.2.1, ax_lv_set hn (lz_set h0 h1).2, I.2.2.2.1, ax_md I.st, ax_lok_set (trivial) I.2.2.2.2.2.1, I.2.2.2.2.2.2⟩ (lz_set h0 h1).1)
theorem lz_astore_n (X : ax_X mL_law p s m #[Value.ref b] meth c G cs (fun q => s.heap.size ≤ q) (ad0 ax_E)) {n : Fin 4} {r : Option ax_N} (hd : decode cL_law pc = .ok (.astore_n n, 1)) (hn : ax_nl L = true) (h0 : (n : Nat) ≠ 0) (hi : (n : Nat) < 4) (k : lz p l e s m below meth c G cs ad0 b (pc + 1) (L.set (n : Nat) (some (ax_q r))) S h uc us) : lz p l e s m below meth c G cs ad0 b pc L (ax_q r :: S) h uc us := by
  intro H locs ls ad I hz
  cases r with
  | none => exact lv_astore_nN X.1 X.2.1 hd rfl (lz_has I.2.2.1 hz) hi rfl (fun ls1 h1 => k H locs ls1 ad ⟨I.1, I.2.1, ax_lv_set hn (lz_set h0 h1).2, I.2.2.2.1, ax_md I.st, ax_lok_set (I.st _ List.mem_cons_self) I.2.2.2.2.2.1, I.2.2.2.2.2.2⟩ (lz_set h0 h1).1)
  | some u => exact lv_astore_n X.1 X.2.1 hd rfl (lz_has I.2.2.1 hz) hi rfl (fun ls1 h1 => k H locs ls1 ad ⟨I.1, I.2.1, ax_lv_set hn (lz_set h0 h1).2, I.2.2.2.1, ax_md I.st, ax_lok_set (I.st _ List.mem_cons_self) I.2.2.2.2.2.1, I.2.2.2.2.2.2⟩ (lz_set h0 h1).1)
theorem lz_iinc (X : ax_X mL_law p s m #[Value.ref b] meth c G cs (fun q => s.heap.size ≤ q) (ad0 ax_E)) {i : Nat} {n : Int} {x : Int32} (v : Int32) (hd : decode cL_law pc = .ok (.iinc i n, 3)) (hn : ax_nl L = true) (h0 : i ≠ 0) (hi : i < 4) (hl : L[i]? = some (some (ax_i x))) (hv : x + Int32.ofInt n = v) (k : lz p l e s m below meth c G cs ad0 b (pc + 3) (L.set i (some (ax_i v))) S h uc us) : lz p l e s m below meth c G cs ad0 b pc L S h uc us := by
  intro H locs ls ad I hz
  obtain ⟨q, hq⟩ := List.getElem?_of_mem (List.mem_cons_of_mem (0, Value.ref b) (ax_lvl_mem (ad := ad) hl))
  exact lv_iinc X.1 X.2.1 hd (lz_has I.2.2.1 hz) hq hv hi rfl (fun ls1 h1 => k H locs ls1 ad ⟨I.1, I.2.1, ax_lv_set hn (lz_set h0 h1).2, I.2.2.2.1, I.st, ax_lok_set trivial I.2.2.2.2.2.1, I.2.2.2.2.2.2⟩ (lz_set h0 h1).1)
theorem lz_new (X : ax_X mL_law p s m #[Value.ref b] meth c G cs (fun q => s.heap.size ≤ q) (ad0 ax_E)) {ix ci N : Nat} {C : String} {T : u_T} {fs : List ax_V} (u : ax_N) (hd : decode cL_law pc = .ok (.new ix, 3)) (hc : vwCl[ci]? = some (C, T, N)) (w1 : Cond.classLink "LockLookMemoryLaw" ix C ∈ ax_T) (w2 : Cond.instantiable C N ∈ ax_T) (w3 : Cond.initialized C ∈ ax_T) (hfs : ∀ (ad : ax_N → Nat) (ty : Nat → FieldType), (∀ k, k < N → parseFieldDescriptor (T k).2.2.1 = some (ty k)) → ∀ j, j < N → defaultValue (ty j) = vp_V (fs.map (ax_v ad)) j) (hok : ∀ v ∈ fs, ∀ h1 : ax_H, ax_ok h1 v) (hu : h u = none) (hn : u ≠ ax_E) (hc1 : uc + 1 ≤ 600000) (hs1 : us + N ≤ 7302250)
    (kk : lz p l e s m below meth c G cs ad0 b (pc + 3) L (ax_r u :: S) (ax_up h u (ax_o ci fs)) (uc + 1) (us + N)) : lz p l e s m below meth c G cs ad0 b pc L S h uc us := by
  intro H locs ls ad I hz
  obtain ⟨D, hD, hP, hDD⟩ := I.1
  obtain ⟨hin, ty0, hty0, hnm⟩ := ax_cls hc
  refine va_new (D := G) (fs := fs.map (ax_v ad)) X.1 X.2.1 X.2.2.2.2.1 hin ty0 hty0 X.2.2.2.1 (X.2.2.2.2.1 _ w1) (X.2.2.2.2.1 _ w2) (X.2.2.2.2.1 _ w3) X.2.2.2.2.2.2.2.2.1 hP hDD I.2.1 X.2.2.2.2.2.2.2.2.2.1 hc (hfs ad ty0 hty0) hc1 hs1 hd (fun q H1 hP1 hD1 hS1 => ?_)
  obtain ⟨I1, e4⟩ := ax_grown (u := u) (c := ax_o ci fs) (q := q) I hD I.st hu hn (fun v hv => hok v hv h) hP1 hD1 hS1
  have k1 := kk H1 locs ls _ I1 hz
  have e5 : (ax_r u :: S).map (ax_v (ax_ad ad u q)) = Value.ref q :: S.map (ax_v ad) := by
    rw [e4]
    show va_rf (some (ax_ad ad u q u)) :: _ = _
    rw [ax_ad_s]
    rfl
  rw [e5] at k1
  exact k1
theorem lz_cont {H : Heap} {locs : List Loc} {ls : Array Slot} {ad : ax_N → Nat} {st0 : List Value} {S0 : List ax_V} {mc1 ms1 : Nat} {a : Array Value} {Fi1 : Option ax_V → ax_H → Prop}
    (X : ax_X mL_law p s m #[Value.ref b] meth c G cs (fun q => s.heap.size ≤ q) (ad0 ax_E)) (I : ax_I mL_law s G cs (fun q => s.heap.size ≤ q) ad0 (fun _ => none) H locs ls ad L S0 h) (hz0 : ls[0]? = some (.val (.ref b))) (hS0 : ∀ v ∈ S, ax_ok h v)
    (hr : va_Run p l e room_1 s m #[Value.ref b] below meth c H locs uc us mc1 ms1 (F0 m pc ls st0) (S.map (ax_v ad)) (ax_Qc G cs ad h (ax_A ad h H.size) Fi1 a) (ax_A ad h H.size))
    (kk : ∀ (r : Option ax_V) (h1 : ax_H), Fi1 r h1 → (∀ u, h u ≠ none → h1 u ≠ none) → lz p l e s m below meth c G cs ad0 b (pc + 3) L (r.toList ++ S) h1 (uc + mc1) (us + ms1)) :
    W p l e room_1 s m #[Value.ref b] below meth c H locs uc us (lw_Z below #[Value.ref b] s) (F0 m pc ls st0) := by
  have hAin := ax_A_in I.1 I.2.1.1 X.2.2.2.2.2.2.2.2.2.1
  intro T hT XS
  obtain ⟨v, st₀, t, T', Lc, q0, X', hL, e1, e2, ⟨⟨r, h1, ad1, hv, hF, hP1, hw1, hok1, had, hE⟩, hz, hk⟩, st⟩ := hr T hT XS
  rw [q0] at hz hk
  cases hv
  have same : ∀ u, h u ≠ none → ad1 u = ad u := fun u hu => (had u hu).1
  have mono : ∀ u, h u ≠ none → h1 u ≠ none := fun u hu => (had u hu).2
  have hS1 : va_S (fun q => s.heap.size ≤ q) s.heap T'.heap (locs ++ Lc) := by
    refine ⟨Nat.le_trans I.2.1.1 (by rw [e1]; exact hz), fun q g1 g2 => ?_, fun q hq => ?_⟩
    · rw [e1, hk q (Nat.lt_of_lt_of_le g1 I.2.1.1) (fun z => g2 (hAin q z))]
      exact I.2.1.2.1 q g1 g2
    · rcases List.mem_append.mp hq with g | g
      · exact I.2.1.2.2 q g
      · exact hAin _ (hL q g)
  have hSe : (r.map (ax_v ad1)).toList ++ S.map (ax_v ad) = (r.toList ++ S).map (ax_v ad1) := by
    rw [List.map_append, ax_S_eq same hE hS0]
    cases r <;> rfl
  have I1 : ax_I mL_law s G cs (fun q => s.heap.size ≤ q) ad0 (fun _ => none) T'.heap (locs ++ Lc) ls ad1 L (r.toList ++ S) h1 := by
    refine ⟨by rw [e1]; exact ax_P_A hP1 hAin, hS1, ⟨I.2.2.1.1, I.2.2.1.2.1, fun i w hw => ?_⟩, hw1, fun w hw => ?_, fun i w hw => ax_ok_mono mono (I.2.2.2.2.2.1 i w hw), fun u hu => ?_, by rw [hE]; exact I.2.2.2.2.2.2.2⟩
    · rw [ax_v_eq same hE (I.2.2.2.2.2.1 i w hw)]
      exact I.2.2.1.2.2 i w hw
    · rcases List.mem_append.mp hw with g | g
      · cases r with
        | none => cases g
        | some x =>
          rw [List.mem_singleton.mp g]
          exact hok1 x rfl
      · exact ax_ok_mono mono (hS0 w g)
    · obtain ⟨g1, g2⟩ := I.2.2.2.2.2.2.1 u hu
      exact ⟨(same u g2).trans g1, mono u g2⟩
  obtain ⟨t2, a1, b1⟩ := kk r h1 hF mono T'.heap (locs ++ Lc) ls ad1 I1 hz0 T' rfl X'
  refine ⟨t2, st t2 ?_, b1⟩
  rw [hSe]
  exact a1
theorem lz_callV (X : ax_X mL_law p s m #[Value.ref b] meth c G cs (fun q => s.heap.size ≤ q) (ad0 ax_E)) {ix n ci : Nat} {y : MethodName} {Y1 : ax_M} {d1 mc1 ms1 : Nat} {As : List ax_V} {u : ax_N} {fs : List ax_V} {T : u_T} {N : Nat} {Fi1 : Option ax_V → ax_H → Prop} (hcv : ax_cV "LockLookMemoryLaw" ix y Y1 n) (hd : decode cL_law pc = .ok (.invokevirtual ix, 3)) (hu : h u = some (ax_o ci fs)) (hci : vwCl[ci]? = some (y.cls, T, N)) (hn : As.length = n) (hok : ax_Ok Y1 y d1 mc1 ms1 (ax_r u :: As) h Fi1) (hdd : d1 + 1 ≤ 13) (hc1 : uc + mc1 ≤ 600000) (hs1 : us + ms1 ≤ 7302250) (hS8 : 2 * S.length ≤ 8)
    (kk : ∀ (r : Option ax_V) (h1 : ax_H), Fi1 r h1 → (∀ w, h w ≠ none → h1 w ≠ none) → lz p l e s m below meth c G cs ad0 b (pc + 3) L (r.toList ++ S) h1 (uc + mc1) (us + ms1)) : lz p l e s m below meth c G cs ad0 b pc L (As.reverse ++ ax_r u :: S) h uc us := by
  intro H locs ls ad I hz
  have hSt : ∀ v ∈ S, ax_ok h v := fun v hv => I.st v (List.mem_append_right _ (List.mem_cons_of_mem _ hv))
  have hAs : ∀ v ∈ ax_r u :: As, ax_ok h v := ax_mc (I.st _ (List.mem_append_right _ List.mem_cons_self)) (fun v hv => I.st v (List.mem_append_left _ (List.mem_reverse.mpr hv)))
  have hM := hok l G cs ad H.size I.2.2.2.1 hAs
  obtain ⟨w1, w2, w3, w4, w5, w6, w7⟩ := hcv
  have hAin := ax_A_in I.1 I.2.1.1 X.2.2.2.2.2.2.2.2.2.1
  have hcat : (((S.map (ax_v ad))).map fun v => v.category).sum ≤ 8 := by
    have : ∀ S0 : List ax_V, ((S0.map (ax_v ad)).map fun v => v.category).sum ≤ 2 * S0.length := by
      intro S0
      induction S0 with
      | nil => exact Nat.le_refl _
      | cons x l ih =>
        have := lv_cat (ax_v ad x)
        simp only [List.map_cons, List.sum_cons, List.length_cons]
        omega
    exact Nat.le_trans (this S) hS8
  refine lz_cont X I hz hSt (va_runV (As := As.map (ax_v ad)) (b := ad u) (C := y.cls) (bytes := Y1.2.1) (maxL := Y1.2.2.1) (ret := Y1.2.2.2.1) (n := n) ⟨X.1, X.2.1, X.2.2.1, X.2.2.2.1, X.2.2.2.2.1⟩ hM ?_ ?_ rfl (by simpa using hn) I.2.2.1.1 (by simp [ax_v, va_rf]) (lv_room hcat) hd ⟨hc1, hs1⟩) kk
  · refine cwV n X.2.2.2.2.1 (ax_good (fun w h => h) (fun w hw => ?_)) rfl rfl rfl ⟨rfl, w6⟩ ⟨hdd, ?_⟩
    · simp only [wsV, List.mem_append, List.mem_cons, List.not_mem_nil, or_false] at hw
      rcases hw with (rfl | rfl | rfl | rfl) | rfl | hw
      · exact w1
      · exact w2
      · exact w3
      · exact w4
      · exact w5
      · exact hw
    · show 8 + (Y1.2.2.1 + 11) + 37 * d1 ≤ 490
      omega
  · obtain ⟨D, hD, hPP, hDD⟩ := I.1
    obtain ⟨k, -, hk⟩ := ax_at (G := G) (cs := cs) (ad := ad) hD hu
    exact ⟨ax_blind, va_recv X.2.2.2.2.2.2.2.2.1 hPP hci hk, fun U hU hW => ⟨rfl, by rw [hU], va_K.moved hW.alike X.2.2.2.2.2.2.2.2.1, by rw [hU]; exact ax_P_A I.1 (fun _ _ => trivial), ax_St_to (by rw [I.2.2.2.2.2.2.2]; exact X.2.2.2.2.2.2.2.2.2.2) I.2.1 hAin hW hU⟩⟩
theorem lz_callI (X : ax_X mL_law p s m #[Value.ref b] meth c G cs (fun q => s.heap.size ≤ q) (ad0 ax_E)) {ix n : Nat} {y : MethodName} {Y1 : ax_M} {d1 mc1 ms1 : Nat} {As : List ax_V} {u : ax_N} {Fi1 : Option ax_V → ax_H → Prop} (hcv : ax_cI "LockLookMemoryLaw" ix y Y1 n) (hd : decode cL_law pc = .ok (.invokespecial ix, 3)) (hn : As.length = n) (hok : ax_Ok Y1 y d1 mc1 ms1 (ax_r u :: As) h Fi1) (hdd : d1 + 1 ≤ 13) (hc1 : uc + mc1 ≤ 600000) (hs1 : us + ms1 ≤ 7302250) (hS8 : 2 * S.length ≤ 8)
    (kk : ∀ (r : Option ax_V) (h1 : ax_H), Fi1 r h1 → (∀ w, h w ≠ none → h1 w ≠ none) → lz p l e s m below meth c G cs ad0 b (pc + 3) L (r.toList ++ S) h1 (uc + mc1) (us + ms1)) : lz p l e s m below meth c G cs ad0 b pc L (As.reverse ++ ax_r u :: S) h uc us := by
  intro H locs ls ad I hz
  have hSt : ∀ v ∈ S, ax_ok h v := fun v hv => I.st v (List.mem_append_right _ (List.mem_cons_of_mem _ hv))
  have hAs : ∀ v ∈ ax_r u :: As, ax_ok h v := ax_mc (I.st _ (List.mem_append_right _ List.mem_cons_self)) (fun v hv => I.st v (List.mem_append_left _ (List.mem_reverse.mpr hv)))
  have hM := hok l G cs ad H.size I.2.2.2.1 hAs
  obtain ⟨w1, w2, w4, w5, w6, w7, w8, w9⟩ := hcv
  rw [w9] at hM
  have hAin := ax_A_in I.1 I.2.1.1 X.2.2.2.2.2.2.2.2.2.1
  have hcat : (((S.map (ax_v ad))).map fun v => v.category).sum ≤ 8 := by
    have : ∀ S0 : List ax_V, ((S0.map (ax_v ad)).map fun v => v.category).sum ≤ 2 * S0.length := by
      intro S0
      induction S0 with
      | nil => exact Nat.le_refl _
      | cons x l ih =>
        have := lv_cat (ax_v ad x)
        simp only [List.map_cons, List.sum_cons, List.length_cons]
        omega
    exact Nat.le_trans (this S) hS8
  have hts := X.2.2.2.2.1
  refine lz_cont X I hz hSt (va_runI (As := As.map (ax_v ad)) (b := ad u) (bytes := Y1.2.1) (maxL := Y1.2.2.1) (n := n) ⟨X.1, X.2.1, X.2.2.1, X.2.2.2.1, X.2.2.2.2.1⟩ hM (cwI n hts (ax_good (fun w h => h) (fun w hw => ?_)) rfl rfl rfl (hts _ w4) (hts _ w1) (hts _ w2) w8 w6 ⟨hdd, ?_⟩) ?_ rfl (by simpa using hn) I.2.2.1.1 (by simp [ax_v, va_rf]) (lv_room hcat) hd ⟨hc1, hs1⟩) kk
  · rcases List.mem_cons.mp hw with rfl | hw
    · exact w5
    · exact hw
  · show 8 + (Y1.2.2.1 + 11) + 37 * d1 ≤ 490
    omega
  · exact ⟨ax_blind, fun U hU hW => ⟨rfl, by rw [hU], va_K.moved hW.alike X.2.2.2.2.2.2.2.2.1, by rw [hU]; exact ax_P_A I.1 (fun _ _ => trivial), ax_St_to (by rw [I.2.2.2.2.2.2.2]; exact X.2.2.2.2.2.2.2.2.2.2) I.2.1 hAin hW hU⟩⟩
/-- a value of the script -/
theorem lz_arg {Ln n : Nat} {xs : Nat → Int32} (X : ax_X mL_law p s m #[Value.ref b] meth c G cs (fun q => s.heap.size ≤ q) (ad0 ax_E)) (hX : va_X b Ln xs s s.heap) (hbl : b < s.heap.size) {k : Int} (j : Nat) (d0 : decode cL_law pc = .ok (.aload_n 0, 1)) (d1 : decode cL_law (pc + 1) = .ok (.iload_n 3, 1)) (d2 : decode cL_law (pc + 2) = .ok (.iconst k, 1)) (d3 : decode cL_law (pc + 3) = .ok (.iadd, 1)) (d4 : decode cL_law (pc + 4) = .ok (.iaload, 1)) (hk : Int32.ofInt k = nI j) (hl : L[3]? = some (some (ax_i (nI n)))) (hn : n + j < Ln) (hLn : Ln ≤ 2560)
    (kk : lz p l e s m below meth c G cs ad0 b (pc + 5) L (ax_i (xs (n + j)) :: S) h uc us) : lz p l e s m below meth c G cs ad0 b pc L S h uc us := by
  intro H locs ls ad I hz
  refine lv_aload_n X.1 X.2.1 d0 rfl hz ?_
  refine lv_iload_n X.1 X.2.1 d1 rfl (I.2.2.1.2.2 _ _ hl) ?_
  refine lv_iconst X.1 X.2.1 d2 hk ?_
  refine lv_iadd X.1 X.2.1 d3 ?_
  rw [nI_add]
  have hc : (nI (n + j)).toNatClampNeg = n + j := nI_clamp (by omega)
  refine va_sld (A := fun q => s.heap.size ≤ q) X.1 X.2.1 hX hbl (Nat.not_le.mpr hbl) I.2.1 (fun z => ?_) d4 ?_
  · rcases z with z | z
    · exact nn0 (by omega) z
    · rw [hc] at z; omega
  · rw [hc]
    exact kk H locs ls ad (I.to (ax_mc trivial I.st)) hz
theorem lz_arg0 {Ln n : Nat} {xs : Nat → Int32} (X : ax_X mL_law p s m #[Value.ref b] meth c G cs (fun q => s.heap.size ≤ q) (ad0 ax_E)) (hX : va_X b Ln xs s s.heap) (hbl : b < s.heap.size) (d0 : decode cL_law pc = .ok (.aload_n 0, 1)) (d1 : decode cL_law (pc + 1) = .ok (.iload_n 3, 1)) (d4 : decode cL_law (pc + 2) = .ok (.iaload, 1)) (hl : L[3]? = some (some (ax_i (nI n)))) (hn : n < Ln) (hLn : Ln ≤ 2560)
    (kk : lz p l e s m below meth c G cs ad0 b (pc + 3) L (ax_i (xs n) :: S) h uc us) : lz p l e s m below meth c G cs ad0 b pc L S h uc us := by
  intro H locs ls ad I hz
  refine lv_aload_n X.1 X.2.1 d0 rfl hz ?_
  refine lv_iload_n X.1 X.2.1 d1 rfl (I.2.2.1.2.2 _ _ hl) ?_
  have hc : (nI n).toNatClampNeg = n := nI_clamp (by omega)
  refine va_sld (A := fun q => s.heap.size ≤ q) X.1 X.2.1 hX hbl (Nat.not_le.mpr hbl) I.2.1 (fun z => ?_) d4 ?_
  · rcases z with z | z
    · exact nn0 (by omega) z
    · rw [hc] at z; omega
  · rw [hc]
    exact kk H locs ls ad (I.to (ax_mc trivial I.st)) hz
theorem lz_len {Ln : Nat} {xs : Nat → Int32} (X : ax_X mL_law p s m #[Value.ref b] meth c G cs (fun q => s.heap.size ≤ q) (ad0 ax_E)) (hX : va_X b Ln xs s s.heap) (hbl : b < s.heap.size) (d0 : decode cL_law pc = .ok (.aload_n 0, 1)) (d1 : decode cL_law (pc + 1) = .ok (.arraylength, 1))
    (kk : lz p l e s m below meth c G cs ad0 b (pc + 2) L (ax_i (nI Ln) :: S) h uc us) : lz p l e s m below meth c G cs ad0 b pc L S h uc us := by
  intro H locs ls ad I hz
  refine lv_aload_n X.1 X.2.1 d0 rfl hz ?_
  refine va_slen (A := fun q => s.heap.size ≤ q) X.1 X.2.1 hX hbl (Nat.not_le.mpr hbl) I.2.1 d1 ?_
  exact kk H locs ls ad (I.to (ax_mc trivial I.st)) hz
/-- the law's end -/
theorem lz_ret (X : ax_X mL_law p s m #[Value.ref b] meth c G cs (fun q => s.heap.size ≤ q) (ad0 ax_E)) (hd : decode cL_law pc = .ok (.ireturn, 1)) (hu : uc ≤ 600000) (hs : us ≤ 7302250) : lz p l e s m below meth c G cs ad0 b pc L [ax_i 1] h uc us := by
  intro H locs ls ad I hz
  refine va_forget (fun q hq => I.2.1.2.2 q hq) ?_
  exact W.widen hu hs (lw_ret X.1 X.2.1 X.2.2.2.2.2.1 X.2.2.2.2.2.2.1 hd)
end LZR
