theorem lw_eqi {args : Array Value} {s : State} {tm : Term} {z : Int32} (h : (Cond.eq tm (.int z)).before args s = true) : tm.eval args s none [] s = some (.int z) := by
  cases hv : tm.eval args s none [] s with
  | none => simp [Cond.before, Cond.holds, Cond.value, hv] at h
  | some w =>
    have hz : (Term.int z).eval args s none [] s = some (.int z) := rfl
    simp only [Cond.before, Cond.holds, Cond.value, hv, hz] at h
    cases w <;> simp_all
theorem lw_ar {args : Array Value} {s : State} {ty : FieldType} (hp : ty = .int ∨ ty = .boolean) (h : (Cond.arrayClass ty).before args s = true) : ∃ cA : ClassId, ArrOfT s cA ty ∧ va_RA s cA ty := by
  obtain ⟨c, k, comp, h1, h2, h3⟩ := Cond.arrayClass_spec h
  refine ⟨c, fun N z => ⟨(fun k h => by cases h), k, h2, comp, h3⟩, ?_⟩
  rcases hp with rfl | rfl <;> exact h1
theorem lw_arO {args : Array Value} {s : State} (h : (Cond.arrayOver (.object "java/lang/Object")).before args s = true) : ∃ cA : ClassId, ArrOfT s cA (.object "java/lang/Object") ∧ va_RA s cA (.object "java/lang/Object") := by
  obtain ⟨comp, c, k, h1, h2, h3, h4, h5⟩ := Cond.arrayOver_spec h
  exact ⟨c, fun N z => ⟨(fun k h => by cases h), k, h3, comp, h4⟩, k, comp, h3, h4, h1, h5⟩
theorem lw_St {args : Array Value} {s : State} (hts : ∀ w ∈ lw_tbl, w.before args s = true) (hgv : (Jvm.Cond.and given_1 narrow_1).before args s = true) : ∃ e0 : Nat, ax_St e0 (fun q => s.heap.size ≤ q) s s.heap := by
  have hs := flat_of_before _ hgv
  have hA : ∀ a : Nat, a < s.heap.size → ¬ (fun q : Nat => s.heap.size ≤ q) a := fun a h => Nat.not_le.mpr h
  have h1 : (Cond.arrayOf (.static "java/util/ArrayList" "DEFAULTCAPACITY_EMPTY_ELEMENTDATA" "[Ljava/lang/Object;") (.object "java/lang/Object")).before args s = true := hs _ (by decide +kernel)
  have h2 : (Cond.eq (.length (.static "java/util/ArrayList" "DEFAULTCAPACITY_EMPTY_ELEMENTDATA" "[Ljava/lang/Object;")) (.int 0)).before args s = true := hs _ (by decide +kernel)
  have h3 : (Cond.isRef (.mirror "[Ljava/lang/Object;")).before args s = true := hs _ (by decide +kernel)
  obtain ⟨t, ht, hT⟩ := va_Tof (N := 0) (f := fun _ => .null) (A := fun q => s.heap.size ≤ q) (by decide) h1 (lw_eqi h2) (fun j hj => absurd hj (Nat.not_lt_zero j)) hA
  refine ⟨t, ⟨va_Zref (hts _ (by decide +kernel)) (hts _ (by decide +kernel)) ht hA, hT⟩, va_AO.of (hts _ (by decide +kernel)), va_Dc.of (hts _ (by decide +kernel)), va_Mi.of h3, va_Nw.of rfl (hts _ (by decide +kernel)), va_Nw.of rfl (hts _ (by decide +kernel)), va_Nw.of rfl (hts _ (by decide +kernel)), va_Nw.of rfl (hts _ (by decide +kernel))⟩
theorem lw_K {args : Array Value} {s : State} (hts : ∀ w ∈ lw_tbl, w.before args s = true) : ∃ (G : va_G) (cs : ax_K), va_K G vwCl (ax_ty cs) s := by
  have htx : ∀ w ∈ ax_T, w.before args s = true := fun w hw => hts w (List.mem_filter.mp hw).1
  obtain ⟨c0, i0, k0⟩ := u_known (C := RJx4a65c) (T := TJx4a65c) (N := 3) htx (ax_cls (ci := 0) rfl).1 (htx _ is_Jx4a65c)
  obtain ⟨c1, i1, k1⟩ := u_known (C := RX0) (T := TX0) (N := 8) htx (ax_cls (ci := 1) rfl).1 (htx _ is_X0)
  obtain ⟨c2, i2, k2⟩ := u_known (C := RX1) (T := TX1) (N := 7) htx (ax_cls (ci := 2) rfl).1 (htx _ is_X1)
  obtain ⟨c3, i3, k3⟩ := u_known (C := RX2) (T := TX2) (N := 7) htx (ax_cls (ci := 3) rfl).1 (htx _ is_X2)
  obtain ⟨c4, i4, k4⟩ := u_known (C := RX3) (T := TX3) (N := 7) htx (ax_cls (ci := 4) rfl).1 (htx _ is_X3)
  obtain ⟨c5, i5, k5⟩ := u_known (C := RX4) (T := TX4) (N := 33) htx (ax_cls (ci := 5) rfl).1 (htx _ is_X4)
  obtain ⟨aI, hI⟩ := lw_ar (Or.inl rfl) (htx _ ac_i)
  obtain ⟨aZ, hZ⟩ := lw_ar (Or.inr rfl) (htx _ ac_z)
  obtain ⟨aO, hO⟩ := lw_arO (args := args) (s := s) (hts _ (by decide +kernel))
  refine ⟨(fun k => match k with | 0 => c0 | 1 => c1 | 2 => c2 | 3 => c3 | 4 => c4 | _ => c5, fun k => match k with | 0 => i0 | 1 => i1 | 2 => i2 | 3 => i3 | 4 => i4 | _ => i5), (aI, aZ, aO), fun k q hq => ?_, fun k q hq => ?_⟩
  · match k, hq with
    | 0, hq => cases hq; exact k0
    | 1, hq => cases hq; exact k1
    | 2, hq => cases hq; exact k2
    | 3, hq => cases hq; exact k3
    | 4, hq => cases hq; exact k4
    | 5, hq => cases hq; exact k5
    | k + 6, hq => simp [vwCl] at hq
  · match k, hq with
    | 0, hq => cases hq; exact hI
    | 1, hq => cases hq; exact hZ
    | 2, hq => cases hq; exact hO
    | k + 3, hq => simp [ax_ty] at hq
/-- YOUR PART: from the entry, for every script of at most 2560 ints, the law comes to its end with true -/
theorem whole_start {p : Program} {e : Env} {s : State} {m : MethodId} {below : List Frame} {meth : Method} {c : Code} (l : Launch) {b L : Nat} {xs : Nat → Int32} (hL : L ≤ 2560) (C0 : lw_At p s m meth c b L xs) : W p l e room_1 s m #[Value.ref b] below meth c s.heap [] 0 0 (lw_Z below #[Value.ref b] s) (entryFrame m ([Value.ref b] : List Value).toArray 4) := by
  obtain ⟨hx, hb, hr, hml, hown, hts, hX, hbl, hlocks, hgv⟩ := id C0
  have htx : ∀ w ∈ ax_T, w.before #[Value.ref b] s = true := fun w hw => hts w (List.mem_filter.mp hw).1
  obtain ⟨e0, hSt⟩ := lw_St hts hgv
  obtain ⟨G, cs, hK⟩ := lw_K hts
  have hl := lv_entry ([.ref b]) (n := 4) (Nat.le_of_ble_eq_true rfl)
  rw [lg_entry_eq]
  generalize (lg_sl ([.ref b]) ++ List.replicate (4 - (lg_sl ([.ref b])).length) Slot.unset).toArray = ls at hl ⊢
  have hl : lv_has ls 4 [(0, .ref b)] := hl
  have X : ax_X mL_law p s m #[Value.ref b] meth c G cs (fun q => s.heap.size ≤ q) ((fun _ : ax_N => e0) ax_E) := ⟨hx, hb, hml, hown, htx, hr, hlocks, fun z => (by cases z), hK, fun _ h => h, hSt⟩
  refine lo_start (ad0 := fun _ => e0) X hX hbl hL s.heap [] ls (fun _ => e0) ⟨⟨[], fun u => ?_, fun k q h => ?_, fun i j p q h => ?_, fun k q h => ?_⟩, va_S.rf, ⟨hl.1, hl.2.1, fun i v hv => ?_⟩, ⟨rfl, fun u c h => ?_⟩, fun v hv => ?_, fun i v hv => ?_, fun u hu => absurd rfl hu, rfl⟩ (hl.2.2 (0, .ref b) List.mem_cons_self)
  · simp
  · simp [ax_w] at h
  · simp [ax_w] at h
  · simp [ax_w] at h
  · match i, hv with
    | 0, hv => cases hv
    | 1, hv => cases hv
    | 2, hv => cases hv
    | 3, hv => cases hv
    | i + 4, hv => simp at hv
  · cases h
  · cases hv
  · match i, hv with
    | 0, hv => cases hv
    | 1, hv => cases hv
    | 2, hv => cases hv
    | 3, hv => cases hv
    | i + 4, hv => simp at hv
