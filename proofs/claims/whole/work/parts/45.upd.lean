theorem cif {c : Prop} [Decidable c] {a b d : Option ax_C} (h : a = b) : (if c then a else d) = (if c then b else d) := by rw [h]
theorem fI_mk {κ2 : ax_R} {x : Nat} {c0 c1 c2 c3 c4 c5 c6 c7 : ax_V} (e0 : ax_r (3, κ2.1 18 x) = c0) (e1 : ax_i (nI (κ2.1 19 x)) = c1) (e2 : ax_i (κ2.2.2 20 x) = c2) (e3 : ax_i (nI (κ2.1 21 x)) = c3) (e4 : ax_i (ax_b (κ2.2.1 22 x)) = c4) (e5 : ax_i (if κ2.2.1 22 x = true then κ2.2.2 23 x else -9) = c5) (e6 : ax_i (nI (mk (pm κ2 (κ2.1 18 x) fun s => κ2.2.1 41 (6 * x + s)))) = c6) (e7 : ax_i (nI (mk (pm κ2 (κ2.1 18 x) (dn κ2 x)))) = c7) : fI κ2 x = [c0, c1, c2, c3, c4, c5, c6, c7] := by
  subst e0 e1 e2 e3 e4 e5 e6 e7
  rfl
theorem mk_pmf {κ : ax_R} {r : Nat} {P : Nat → Bool} (h : ∀ s, s < κ.1 5 r → P s = false) : mk (pm κ r P) = 0 := by
  rw [pm_co (Q := fun _ => false) h]
  refine (mk_co fun m _ => ?_).trans mk_0
  simp [pm]
/-- no record of item k any more -/
def bc (κ : ax_R) (k : Nat) : ax_R := (κ.1, fun a i => if a = 41 ∧ i / 6 = k then false else κ.2.1 a i, κ.2.2)
/-- the members are those that are up -/
def bm (κ : ax_R) : ax_R := (κ.1, fun a i => if a = 1 then κ.2.1 0 i else κ.2.1 a i, κ.2.2)
section CU
variable {κ ρ : ax_R}
theorem cu_ph {t : Nat} {p : Nat} (h : t < κ.1 10 0) : ax_up (fh (ch κ) ρ) (8, t) (ax_o 3 ((fT κ t).set 3 (ax_i (nI p)))) = fh (ch (nu κ 12 t p)) ρ := by
  refine ch_up (Nat.le_of_ble_eq_true rfl) (fun u hu => ?_) ?_
  · obtain ⟨a, x⟩ := u
    unfold ch
    dsimp only
    split <;> first | rfl | (have hx : x ≠ t := fun e => hu (by rw [e]); simp [fT, nu, bu, hx])
  · show (if t < κ.1 10 0 then some (ax_o 3 (fT (nu κ 12 t p) t)) else none) = _
    rw [if_pos h]
    simp [fT, nu, bu]
theorem cu_cu {t : Nat} {p : Nat} (h : t < κ.1 10 0) : ax_up (fh (ch κ) ρ) (8, t) (ax_o 3 ((fT κ t).set 4 (ax_i (nI p)))) = fh (ch (nu κ 44 t p)) ρ := by
  refine ch_up (Nat.le_of_ble_eq_true rfl) (fun u hu => ?_) ?_
  · obtain ⟨a, x⟩ := u
    unfold ch
    dsimp only
    split <;> first | rfl | (have hx : x ≠ t := fun e => hu (by rw [e]); simp [fT, nu, bu, hx])
  · show (if t < κ.1 10 0 then some (ax_o 3 (fT (nu κ 44 t p) t)) else none) = _
    rw [if_pos h]
    simp [fT, nu, bu]
theorem cu_pl {t : Nat} {p : Nat} (h : t < κ.1 10 0) : ax_up (fh (ch κ) ρ) (8, t) (ax_o 3 ((fT κ t).set 5 (ax_i (nI p)))) = fh (ch (nu κ 16 t p)) ρ := by
  refine ch_up (Nat.le_of_ble_eq_true rfl) (fun u hu => ?_) ?_
  · obtain ⟨a, x⟩ := u
    unfold ch
    dsimp only
    split <;> first | rfl | (have hx : x ≠ t := fun e => hu (by rw [e]); simp [fT, nu, bu, hx])
  · show (if t < κ.1 10 0 then some (ax_o 3 (fT (nu κ 16 t p) t)) else none) = _
    rw [if_pos h]
    simp [fT, nu, bu]
theorem cu_dc {t : Nat} {p : Bool} (h : t < κ.1 10 0) : ax_up (fh (ch κ) ρ) (8, t) (ax_o 3 ((fT κ t).set 6 (ax_i (ax_b p)))) = fh (ch (bu κ 15 t p)) ρ := by
  refine ch_up (Nat.le_of_ble_eq_true rfl) (fun u hu => ?_) ?_
  · obtain ⟨a, x⟩ := u
    unfold ch
    dsimp only
    split <;> first | rfl | (have hx : x ≠ t := fun e => hu (by rw [e]); simp [fT, nu, bu, hx])
  · show (if t < κ.1 10 0 then some (ax_o 3 (fT (bu κ 15 t p) t)) else none) = _
    rw [if_pos h]
    simp [fT, nu, bu]
theorem cu_wr {k : Nat} {v : Int32} (hw : kf κ) (h : ik κ k)  : ax_up (fh (ch κ) ρ) (9, k) (ax_o 1 (((fI κ k).set 4 (ax_i (ax_b true))).set 5 (ax_i v))) = fh (ch (ru (bu κ 22 k true) 23 k v)) ρ := by
  refine ch_up (Nat.le_of_ble_eq_true rfl) (fun u hu => ?_) ?_
  · obtain ⟨a, x⟩ := u
    unfold ch
    dsimp only
    split <;> first | rfl | (have hx : x ≠ k := fun e => hu (by rw [e]); exact cif (congrArg (fun l => some (ax_o 1 l)) (fI_mk rfl rfl rfl rfl (by simp [bu, ru, hx]) (by simp [bu, ru, hx]) rfl rfl)))
  · refine Eq.trans (if_pos h) ?_
    exact congrArg (fun l => some (ax_o 1 l)) (fI_mk rfl rfl rfl rfl (by simp [bu, ru]) (by simp [bu, ru]) rfl rfl)
theorem cu_re {k : Nat} {s : Nat} {b : Bool} (hw : kf κ) (h : ik κ k) (hs : s < 6) : ax_up (fh (ch κ) ρ) (9, k) (ax_o 1 ((fI κ k).set 6 (ax_i (nI (mk (pm κ (κ.1 18 k) (fun y => if y = s then b else κ.2.1 41 (6 * k + y)))))))) = fh (ch (bu κ 41 (6 * k + s) b)) ρ := by
  refine ch_up (Nat.le_of_ble_eq_true rfl) (fun u hu => ?_) ?_
  · obtain ⟨a, x⟩ := u
    unfold ch
    dsimp only
    split <;> first | rfl | (have hx : x ≠ k := fun e => hu (by rw [e]); exact cif (congrArg (fun l => some (ax_o 1 l)) (fI_mk rfl rfl rfl rfl rfl rfl (congrArg (fun f => ax_i (nI (mk f))) (pm_co (κ := κ) (fun y hy => (by have hy : y < κ.1 5 (κ.1 18 x) := hy; have := hw.c6 (κ.1 18 x); simp [bu]; intro z; omega)))) rfl)))
  · refine Eq.trans (if_pos h) ?_
    exact congrArg (fun l => some (ax_o 1 l)) (fI_mk rfl rfl rfl rfl rfl rfl (congrArg (fun f => ax_i (nI (mk f))) (pm_co (κ := κ) (fun y hy => (by by_cases q : y = s <;> simp [bu, q])))) rfl)
theorem cu_rc {k : Nat}  (hw : kf κ) (h : ik κ k)  : ax_up (fh (ch κ) ρ) (9, k) (ax_o 1 ((fI κ k).set 6 (ax_i (nI 0)))) = fh (ch (bc κ k)) ρ := by
  refine ch_up (Nat.le_of_ble_eq_true rfl) (fun u hu => ?_) ?_
  · obtain ⟨a, x⟩ := u
    unfold ch
    dsimp only
    split <;> first | rfl | (have hx : x ≠ k := fun e => hu (by rw [e]); exact cif (congrArg (fun l => some (ax_o 1 l)) (fI_mk rfl rfl rfl rfl rfl rfl (congrArg (fun f => ax_i (nI (mk f))) (pm_co (κ := κ) (fun y hy => (by have hy : y < κ.1 5 (κ.1 18 x) := hy; have := hw.c6 (κ.1 18 x); show (if 41 = 41 ∧ (6 * x + y) / 6 = k then false else κ.2.1 41 (6 * x + y)) = _; rw [if_neg (by omega)])))) rfl)))
  · refine Eq.trans (if_pos h) ?_
    exact congrArg (fun l => some (ax_o 1 l)) (fI_mk rfl rfl rfl rfl rfl rfl (congrArg (fun f => ax_i (nI f)) (mk_pmf (κ := κ) (fun y hy => (by have hy : y < κ.1 5 (κ.1 18 k) := hy; have := hw.c6 (κ.1 18 k); show (if 41 = 41 ∧ (6 * k + y) / 6 = k then false else κ.2.1 41 (6 * k + y)) = _; rw [if_pos (by omega)])))) rfl)
theorem cu_do {k : Nat} {v : Nat} (hw : kf κ) (h : ik κ k)  : ax_up (fh (ch κ) ρ) (9, k) (ax_o 1 ((fI κ k).set 7 (ax_i (nI (mk (pm κ (κ.1 18 k) (dn (nu κ 24 k v) k))))))) = fh (ch (nu κ 24 k v)) ρ := by
  refine ch_up (Nat.le_of_ble_eq_true rfl) (fun u hu => ?_) ?_
  · obtain ⟨a, x⟩ := u
    unfold ch
    dsimp only
    split <;> first | rfl | (have hx : x ≠ k := fun e => hu (by rw [e]); exact cif (congrArg (fun l => some (ax_o 1 l)) (fI_mk rfl rfl rfl rfl rfl rfl rfl (congrArg (fun f => ax_i (nI (mk f))) (pm_co (κ := κ) (fun y hy => (by simp [dn, nu, hx])))))))
  · refine Eq.trans (if_pos h) ?_
    exact congrArg (fun l => some (ax_o 1 l)) (fI_mk rfl rfl rfl rfl rfl rfl rfl rfl)
theorem cu_lk {r q : Nat} {v : Int32} (h : r < κ.1 4 0) (hq : q < 8) : ax_up (fh (ch κ) ρ) (7, r) (ax_ai 8 (upd (lk κ r) q v)) = fh (ch (ru κ 9 (8 * r + q) v)) ρ := by
  refine ch_up (Nat.le_of_ble_eq_true rfl) (fun u hu => ?_) ?_
  · obtain ⟨a, x⟩ := u
    unfold ch
    dsimp only
    split <;> first | rfl | (have hx : x ≠ r := fun e => hu (by rw [e]); refine cif ?_; refine congrArg (fun f => some (ax_ai 8 f)) ?_; funext y; unfold lk; split <;> first | rfl | (rename_i hy; simp only [ru]; rw [if_neg (by omega)]))
  · refine Eq.trans (if_pos h) ?_
    show some (ax_ai 8 (lk (ru κ 9 (8 * r + q) v) r)) = _
    refine congrArg (fun f => some (ax_ai 8 f)) ?_
    funext y
    by_cases e : y = q
    · subst e; simp [lk, upd, ru, hq]
    · simp [lk, upd, ru, e]
theorem cu_vv {r s q : Nat} {v : Int32} (hw : kf κ) (h : r < κ.1 4 0) (hs : s < κ.1 5 r) (hq : q < 8) : ax_up (fh (ch κ) ρ) (5, r) (ax_ai 48 (upd (vv κ r) (κ.1 6 (6 * r + s) * 8 + q) v)) = fh (ch (ru κ 7 (8 * (6 * r + s) + q) v)) ρ := by
  refine ch_up (Nat.le_of_ble_eq_true rfl) (fun u hu => ?_) ?_
  · obtain ⟨a, x⟩ := u
    unfold ch
    dsimp only
    split <;> first | rfl | (have hx : x ≠ r := fun e => hu (by rw [e]); refine cif ?_; refine congrArg (fun f => some (ax_ai 48 f)) ?_; funext y; unfold vv; show (match pl κ x (y / 8) with | some s => _ | none => _) = _; cases hp : pl κ x (y / 8) with | none => rfl | some a => (have h1 := List.mem_range'_1.mp (List.mem_of_find?_eq_some hp); have h2 := hw.c6 x; have h3 := hw.c6 r; simp only [ru, nu]; rw [if_neg (by omega)]))
  · refine Eq.trans (if_pos h) ?_
    show some (ax_ai 48 (vv (ru κ 7 (8 * (6 * r + s) + q) v) r)) = _
    refine congrArg (fun f => some (ax_ai 48 f)) ?_
    funext y
    have h3 := hw.c6 r
    by_cases e : y = κ.1 6 (6 * r + s) * 8 + q
    · subst e
      unfold upd vv
      rw [if_pos rfl, show pl (ru κ 7 (8 * (6 * r + s) + q) v) r = pl κ r from rfl, show (κ.1 6 (6 * r + s) * 8 + q) / 8 = κ.1 6 (6 * r + s) by omega, show (κ.1 6 (6 * r + s) * 8 + q) % 8 = q by omega, pl_at hw hs]
      simp [ru, nu]
    · unfold upd vv
      rw [if_neg e, show pl (ru κ 7 (8 * (6 * r + s) + q) v) r = pl κ r from rfl]
      cases hp : pl κ r (y / 8) with
      | none => rfl
      | some a =>
        have h1 := List.mem_range'_1.mp (List.mem_of_find?_eq_some hp)
        have h2 : κ.1 6 (6 * r + a) = y / 8 := by
          have := List.find?_some hp
          simpa using this
        have : ¬ 8 * (6 * r + a) + y % 8 = 8 * (6 * r + s) + q := by
          intro z
          have : a = s := by omega
          subst this
          omega
        simp [ru, nu, this]
theorem cu_vn {r s q : Nat} {v : Nat} (hw : kf κ) (h : r < κ.1 4 0) (hs : s < κ.1 5 r) (hq : q < 8) : ax_up (fh (ch κ) ρ) (6, r) (ax_ai 48 (upd (vn κ r) (κ.1 6 (6 * r + s) * 8 + q) (nI v))) = fh (ch (nu κ 8 (8 * (6 * r + s) + q) v)) ρ := by
  refine ch_up (Nat.le_of_ble_eq_true rfl) (fun u hu => ?_) ?_
  · obtain ⟨a, x⟩ := u
    unfold ch
    dsimp only
    split <;> first | rfl | (have hx : x ≠ r := fun e => hu (by rw [e]); refine cif ?_; refine congrArg (fun f => some (ax_ai 48 f)) ?_; funext y; unfold vn; show (match pl κ x (y / 8) with | some s => _ | none => _) = _; cases hp : pl κ x (y / 8) with | none => rfl | some a => (have h1 := List.mem_range'_1.mp (List.mem_of_find?_eq_some hp); have h2 := hw.c6 x; have h3 := hw.c6 r; simp only [ru, nu]; rw [if_neg (by omega)]))
  · refine Eq.trans (if_pos h) ?_
    show some (ax_ai 48 (vn (nu κ 8 (8 * (6 * r + s) + q) v) r)) = _
    refine congrArg (fun f => some (ax_ai 48 f)) ?_
    funext y
    have h3 := hw.c6 r
    by_cases e : y = κ.1 6 (6 * r + s) * 8 + q
    · subst e
      unfold upd vn
      rw [if_pos rfl, show pl (nu κ 8 (8 * (6 * r + s) + q) v) r = pl κ r from rfl, show (κ.1 6 (6 * r + s) * 8 + q) / 8 = κ.1 6 (6 * r + s) by omega, show (κ.1 6 (6 * r + s) * 8 + q) % 8 = q by omega, pl_at hw hs]
      simp [ru, nu]
    · unfold upd vn
      rw [if_neg e, show pl (nu κ 8 (8 * (6 * r + s) + q) v) r = pl κ r from rfl]
      cases hp : pl κ r (y / 8) with
      | none => rfl
      | some a =>
        have h1 := List.mem_range'_1.mp (List.mem_of_find?_eq_some hp)
        have h2 : κ.1 6 (6 * r + a) = y / 8 := by
          have := List.find?_some hp
          simpa using this
        have : ¬ 8 * (6 * r + a) + y % 8 = 8 * (6 * r + s) + q := by
          intro z
          have : a = s := by omega
          subst this
          omega
        simp [ru, nu, this]
theorem cu_up {y : Nat}  : ax_up (fh (ch κ) ρ) (1, 0) (ax_o 4 ((fO κ).set 4 (ax_i (nI (mk (fun m => κ.2.1 0 m && !decide (m = y))))))) = fh (ch (bu κ 0 y false)) ρ := by
  refine ch_up (Nat.le_of_ble_eq_true rfl) (fun u hu => ?_) ?_
  · obtain ⟨a, x⟩ := u
    unfold ch
    dsimp only
    split <;> first | rfl | (have hx : x ≠ 0 := fun e => hu (by rw [e]); rw [if_neg hx, if_neg hx])
  · show some (ax_o 4 (fO (bu κ 0 y false))) = _
    have e : (bu κ 0 y false).2.1 0 = fun m => κ.2.1 0 m && !decide (m = y) := by
      funext m
      by_cases q : m = y <;> simp [bu, q]
    simp only [fO, e]
    rfl
theorem cu_me   : ax_up (fh (ch κ) ρ) (1, 0) (ax_o 4 ((fO κ).set 5 (ax_i (nI (mk (κ.2.1 0)))))) = fh (ch (bm κ)) ρ := by
  refine ch_up (Nat.le_of_ble_eq_true rfl) (fun u hu => ?_) ?_
  · obtain ⟨a, x⟩ := u
    unfold ch
    dsimp only
    split <;> first | rfl | (have hx : x ≠ 0 := fun e => hu (by rw [e]); rw [if_neg hx, if_neg hx])
  · show some (ax_o 4 (fO (bm κ))) = _
    rfl
theorem cu_cf {v : Nat}  : ax_up (fh (ch κ) ρ) (1, 0) (ax_o 4 ((fO κ).set 6 (ax_i (nI v)))) = fh (ch (nu κ 3 0 v)) ρ := by
  refine ch_up (Nat.le_of_ble_eq_true rfl) (fun u hu => ?_) ?_
  · obtain ⟨a, x⟩ := u
    unfold ch
    dsimp only
    split <;> first | rfl | (have hx : x ≠ 0 := fun e => hu (by rw [e]); rw [if_neg hx, if_neg hx])
  · show some (ax_o 4 (fO (nu κ 3 0 v))) = _
    rfl
theorem cu_mm {j : Nat} {v : Int32}  : ax_up (fh (ch κ) ρ) (2, 0) (ax_ai 48 (upd (κ.2.2 32) j v)) = fh (ch (ru κ 32 j v)) ρ := by
  refine ch_up (Nat.le_of_ble_eq_true rfl) (fun u hu => ?_) ?_
  · obtain ⟨a, x⟩ := u
    unfold ch
    dsimp only
    split <;> first | rfl | (have hx : x ≠ 0 := fun e => hu (by rw [e]); rw [if_neg hx, if_neg hx])
  · show some (ax_ai 48 ((ru κ 32 j v).2.2 32)) = _
    refine congrArg (fun f => some (ax_ai 48 f)) ?_
    funext y
    by_cases e : y = j <;> simp [ru, upd, e]
end CU
section KF
variable {κ : ax_R}
theorem kf_ph {t p : Nat} (hw : kf κ) (h : t < κ.1 10 0) (hv8 : p ≤ 8) : kf (nu κ 12 t p) := by
  refine ⟨?_, hw.c6, hw.m6, hw.co6, hw.i8, hw.r6, hw.o8, hw.nR, hw.nT, hw.nP, hw.ir, hw.bp, hw.ds, hw.d6, hw.vf, hw.rd, hw.b6, hw.c0, ?_, hw.w0, ?_, hw.m0⟩
  · have hv : p < 1000000 := by omega
    intro a i
    show (if a = 12 ∧ i = t then p else κ.1 a i) < _
    split
    · exact hv
    · exact hw.lt a i
  · intro x hx
    have := hw.t0 x hx
    have hne : x ≠ t := by intro e; subst e; exact absurd h (Nat.not_lt.mpr hx)
    simpa [nu, bu, hne] using this
  · intro i
    show (if 12 = 12 ∧ i = t then p else κ.1 12 i) ≤ 8
    split
    · exact hv8
    · exact hw.p8 i
theorem kf_cu {t p : Nat} (hw : kf κ) (h : t < κ.1 10 0) (hv : p < 1000000) : kf (nu κ 44 t p) := by
  refine ⟨?_, hw.c6, hw.m6, hw.co6, hw.i8, hw.r6, hw.o8, hw.nR, hw.nT, hw.nP, hw.ir, hw.bp, hw.ds, hw.d6, hw.vf, hw.rd, hw.b6, hw.c0, ?_, hw.w0, hw.p8, hw.m0⟩
  · intro a i
    show (if a = 44 ∧ i = t then p else κ.1 a i) < _
    split
    · exact hv
    · exact hw.lt a i
  · intro x hx
    have := hw.t0 x hx
    have hne : x ≠ t := by intro e; subst e; exact absurd h (Nat.not_lt.mpr hx)
    simpa [nu, bu, hne] using this
theorem kf_pl {t p : Nat} (hw : kf κ) (h : t < κ.1 10 0) (hv : p < 1000000) : kf (nu κ 16 t p) := by
  refine ⟨?_, hw.c6, hw.m6, hw.co6, hw.i8, hw.r6, hw.o8, hw.nR, hw.nT, hw.nP, hw.ir, hw.bp, hw.ds, hw.d6, hw.vf, hw.rd, hw.b6, hw.c0, ?_, hw.w0, hw.p8, hw.m0⟩
  · intro a i
    show (if a = 16 ∧ i = t then p else κ.1 a i) < _
    split
    · exact hv
    · exact hw.lt a i
  · intro x hx
    have := hw.t0 x hx
    have hne : x ≠ t := by intro e; subst e; exact absurd h (Nat.not_lt.mpr hx)
    simpa [nu, bu, hne] using this
theorem kf_dc {t : Nat} {p : Bool} (hw : kf κ) (h : t < κ.1 10 0) : kf (bu κ 15 t p) := by
  refine ⟨hw.lt, hw.c6, hw.m6, hw.co6, hw.i8, hw.r6, hw.o8, hw.nR, hw.nT, hw.nP, hw.ir, hw.bp, hw.ds, hw.d6, hw.vf, hw.rd, hw.b6, hw.c0, ?_, hw.w0, hw.p8, hw.m0⟩
  · intro x hx
    have := hw.t0 x hx
    have hne : x ≠ t := by intro e; subst e; exact absurd h (Nat.not_lt.mpr hx)
    simpa [nu, bu, hne] using this
theorem kf_wr {k : Nat} {v : Int32} (hw : kf κ) (h : ik κ k) : kf (ru (bu κ 22 k true) 23 k v) := by
  refine ⟨hw.lt, hw.c6, hw.m6, hw.co6, hw.i8, hw.r6, hw.o8, hw.nR, hw.nT, hw.nP, hw.ir, hw.bp, hw.ds, hw.d6, hw.vf, hw.rd, hw.b6, hw.c0, hw.t0, ?_, hw.p8, hw.m0⟩
  · intro t i h1 h2
    have h1 : κ.1 14 t ≤ i := h1
    have := hw.w0 t i h1 h2
    have hne : 8 * t + i ≠ k := by intro e; subst e; obtain ⟨q1, q2⟩ := h; rw [show (8 * t + i) / 8 = t by omega, show (8 * t + i) % 8 = i by omega] at q2; omega
    simpa [nu, bu, ru, hne] using this
theorem kf_re {k s : Nat} {b : Bool} (hw : kf κ) (h : ik κ k) (hs : s < κ.1 5 (κ.1 18 k)) : kf (bu κ 41 (6 * k + s) b) := by
  refine ⟨hw.lt, hw.c6, hw.m6, hw.co6, hw.i8, hw.r6, hw.o8, hw.nR, hw.nT, hw.nP, hw.ir, hw.bp, hw.ds, hw.d6, hw.vf, ?_, hw.b6, hw.c0, hw.t0, ?_, hw.p8, hw.m0⟩
  · intro x y h1 h2
    have h3 := hw.c6 (κ.1 18 k)
    refine ⟨?_, (hw.rd x y h1 h2).2⟩
    show (if 41 = 41 ∧ 6 * x + y = 6 * k + s then b else κ.2.1 41 (6 * x + y)) = false
    rw [if_neg]
    · exact (hw.rd x y h1 h2).1
    · rintro ⟨-, q⟩
      have : x = k := by omega
      subst this
      have h1 : κ.1 5 (κ.1 18 x) ≤ y := h1
      omega
  · intro t i h1 h2
    have h1 : κ.1 14 t ≤ i := h1
    have := hw.w0 t i h1 h2
    have hne : 8 * t + i ≠ k := by intro e; subst e; obtain ⟨q1, q2⟩ := h; rw [show (8 * t + i) / 8 = t by omega, show (8 * t + i) % 8 = i by omega] at q2; omega
    have h3 := hw.c6 (κ.1 18 k)
    refine ⟨this.1, this.2.1, fun y hy => ?_⟩
    show (if 41 = 41 ∧ 6 * (8 * t + i) + y = 6 * k + s then b else κ.2.1 41 (6 * (8 * t + i) + y)) = false
    rw [if_neg (by omega)]
    exact this.2.2 y hy
theorem kf_rc {k : Nat} (hw : kf κ)  : kf (bc κ k) := by
  refine ⟨hw.lt, hw.c6, hw.m6, hw.co6, hw.i8, hw.r6, hw.o8, hw.nR, hw.nT, hw.nP, hw.ir, hw.bp, hw.ds, hw.d6, hw.vf, ?_, hw.b6, hw.c0, hw.t0, ?_, hw.p8, hw.m0⟩
  · intro x y h1 h2
    refine ⟨?_, (hw.rd x y h1 h2).2⟩
    show (if 41 = 41 ∧ (6 * x + y) / 6 = k then false else κ.2.1 41 (6 * x + y)) = false
    split
    · rfl
    · exact (hw.rd x y h1 h2).1
  · intro t i h1 h2
    have := hw.w0 t i h1 h2
    refine ⟨this.1, this.2.1, fun y hy => ?_⟩
    show (if 41 = 41 ∧ (6 * (8 * t + i) + y) / 6 = k then false else κ.2.1 41 (6 * (8 * t + i) + y)) = false
    split
    · rfl
    · exact this.2.2 y hy
theorem kf_do {k v : Nat} (hw : kf κ) (h : ik κ k) (hv6 : v < 64) (hvd : ∀ s, κ.1 5 (κ.1 18 k) ≤ s → s < 6 → decide (v / 2 ^ s % 2 = 1) = false) : kf (nu κ 24 k v) := by
  refine ⟨?_, hw.c6, hw.m6, hw.co6, hw.i8, hw.r6, hw.o8, hw.nR, hw.nT, hw.nP, hw.ir, hw.bp, hw.ds, ?_, hw.vf, ?_, hw.b6, hw.c0, hw.t0, ?_, hw.p8, hw.m0⟩
  · have hv : v < 1000000 := by omega
    intro a i
    show (if a = 24 ∧ i = k then v else κ.1 a i) < _
    split
    · exact hv
    · exact hw.lt a i
  · intro i
    show (if 24 = 24 ∧ i = k then v else κ.1 24 i) < _
    split
    · exact hv6
    · exact hw.d6 i
  · intro x y h1 h2
    refine ⟨(hw.rd x y h1 h2).1, ?_⟩
    by_cases e : x = k
    · subst e
      have := hvd y h1 h2
      simpa [dn, nu] using this
    · have := (hw.rd x y h1 h2).2
      simpa [dn, nu, e] using this
  · intro t i h1 h2
    have h1 : κ.1 14 t ≤ i := h1
    have := hw.w0 t i h1 h2
    have hne : 8 * t + i ≠ k := by intro e; subst e; obtain ⟨q1, q2⟩ := h; rw [show (8 * t + i) / 8 = t by omega, show (8 * t + i) % 8 = i by omega] at q2; omega
    simpa [nu, hne] using this
theorem kf_lk {r q : Nat} {v : Int32} (hw : kf κ) (h : r < κ.1 4 0) (hq : q < 8) : kf (ru κ 9 (8 * r + q) v) := by
  refine ⟨hw.lt, hw.c6, hw.m6, hw.co6, hw.i8, hw.r6, hw.o8, hw.nR, hw.nT, hw.nP, hw.ir, hw.bp, hw.ds, hw.d6, hw.vf, hw.rd, hw.b6, ?_, hw.t0, hw.w0, hw.p8, hw.m0⟩
  · intro x hx
    refine ⟨(hw.c0 x hx).1, fun hx6 y hy => ?_⟩
    have : ¬ 8 * x + y = 8 * r + q := by have hx : κ.1 4 0 ≤ x := hx
                                         omega
    have h2 := (hw.c0 x hx).2 hx6 y hy
    simpa [ru, this] using h2
theorem kf_vv {r s q : Nat} {v : Int32} (hw : kf κ) (hs : s < κ.1 5 r) (hq : q < 8)  : kf (ru κ 7 (8 * (6 * r + s) + q) v) := by
  refine ⟨hw.lt, hw.c6, hw.m6, hw.co6, hw.i8, hw.r6, hw.o8, hw.nR, hw.nT, hw.nP, hw.ir, hw.bp, hw.ds, hw.d6, ?_, hw.rd, hw.b6, hw.c0, hw.t0, hw.w0, hw.p8, hw.m0⟩
  · intro x y z h1 h2 h3
    have h4 := hw.c6 r
    have h1 : κ.1 5 x ≤ y := h1
    have : ¬ 8 * (6 * x + y) + z = 8 * (6 * r + s) + q := by
      intro e
      have : x = r := by omega
      subst this
      omega
    have h5 := hw.vf x y z h1 h2 h3
    simpa [ru, nu, this] using h5
theorem kf_vn {r s q : Nat} {v : Nat} (hw : kf κ) (hs : s < κ.1 5 r) (hq : q < 8) (hv : v < 1000000) : kf (nu κ 8 (8 * (6 * r + s) + q) v) := by
  refine ⟨?_, hw.c6, hw.m6, hw.co6, hw.i8, hw.r6, hw.o8, hw.nR, hw.nT, hw.nP, hw.ir, hw.bp, hw.ds, hw.d6, ?_, hw.rd, hw.b6, hw.c0, hw.t0, hw.w0, hw.p8, hw.m0⟩
  · intro a i
    show (if a = 8 ∧ i = (8 * (6 * r + s) + q) then v else κ.1 a i) < _
    split
    · exact hv
    · exact hw.lt a i
  · intro x y z h1 h2 h3
    have h4 := hw.c6 r
    have h1 : κ.1 5 x ≤ y := h1
    have : ¬ 8 * (6 * x + y) + z = 8 * (6 * r + s) + q := by
      intro e
      have : x = r := by omega
      subst this
      omega
    have h5 := hw.vf x y z h1 h2 h3
    simpa [ru, nu, this] using h5
theorem kf_up {y : Nat} (hw : kf κ)  : kf (bu κ 0 y false) := by
  refine ⟨hw.lt, hw.c6, hw.m6, hw.co6, hw.i8, hw.r6, hw.o8, hw.nR, hw.nT, hw.nP, hw.ir, hw.bp, hw.ds, hw.d6, hw.vf, hw.rd, ?_, hw.c0, hw.t0, hw.w0, hw.p8, hw.m0⟩
  · intro m hm
    have := hw.b6 m hm
    by_cases e : m = y <;> simp [bu, e, this]
    subst e
    exact this.2
theorem kf_me  (hw : kf κ)  : kf (bm κ) := by
  refine ⟨hw.lt, hw.c6, hw.m6, hw.co6, hw.i8, hw.r6, hw.o8, hw.nR, hw.nT, hw.nP, hw.ir, hw.bp, hw.ds, hw.d6, hw.vf, hw.rd, ?_, hw.c0, hw.t0, hw.w0, hw.p8, hw.m0⟩
  · intro m hm
    have := hw.b6 m hm
    exact ⟨this.1, this.1⟩
theorem kf_cf {v : Nat} (hw : kf κ) (hv : v < 1000000) : kf (nu κ 3 0 v) := by
  refine ⟨?_, hw.c6, hw.m6, hw.co6, hw.i8, hw.r6, hw.o8, hw.nR, hw.nT, hw.nP, hw.ir, hw.bp, hw.ds, hw.d6, hw.vf, hw.rd, hw.b6, hw.c0, hw.t0, hw.w0, hw.p8, hw.m0⟩
  · intro a i
    show (if a = 3 ∧ i = 0 then v else κ.1 a i) < _
    split
    · exact hv
    · exact hw.lt a i
theorem kf_mm {j : Nat} {v : Int32} (hw : kf κ)  : kf (ru κ 32 j v) := by
  refine ⟨hw.lt, hw.c6, hw.m6, hw.co6, hw.i8, hw.r6, hw.o8, hw.nR, hw.nT, hw.nP, hw.ir, hw.bp, hw.ds, hw.d6, hw.vf, hw.rd, hw.b6, hw.c0, hw.t0, hw.w0, hw.p8, hw.m0⟩
end KF
