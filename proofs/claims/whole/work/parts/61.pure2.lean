/-! The invariant of the pair of states. -/
def own (ρ : ax_R) : Prop := (∀ j, ρ.1 13 j < 1000000) ∧ (∀ j, ρ.1 25 j < 1000000) ∧ (∀ j, ρ.1 28 j < 1000000) ∧ (∀ j, ρ.1 29 j < 1000000) ∧ (∀ j, ρ.1 44 j < 1000000) ∧ (∀ j, ρ.1 47 j < 1000000) ∧ (∀ j, ρ.1 27 j < 6) ∧ ρ.1 25 0 ≤ 1440 ∧ (∀ k, ρ.2.2 26 k = -9 ∨ ∃ j, j < 480 ∧ ρ.2.2 26 k = nI j)
theorem own_rf {κ ρ : ax_R} (hw : kf κ) (ha : ag κ ρ) (h : own ρ) : rf_ok ρ := by
  obtain ⟨o1, o2, o3, o4, o5, o6, o7, o8, o9⟩ := h
  refine ⟨fun k j => ?_, fun r => ?_, fun r => ?_, fun r => ?_, fun r => ?_, fun r => ?_, fun r => ?_, o7, ?_, ?_, o8, o9, fun r => ?_⟩
  · by_cases hk : k ∈ [13, 25, 27, 28, 29, 44, 47]
    · simp only [List.mem_cons, List.not_mem_nil, or_false] at hk
      rcases hk with rfl | rfl | rfl | rfl | rfl | rfl | rfl
      · exact o1 j
      · exact o2 j
      · have := o7 j; omega
      · exact o3 j
      · exact o4 j
      · exact o5 j
      · exact o6 j
    · rw [ha.n k hk]; exact hw.lt k j
  · rw [ha.n 5 (by decide)]; exact hw.c6 r
  · rw [ha.n 6 (by decide)]; exact hw.m6 r
  · rw [ha.n 11 (by decide)]; exact hw.co6 r
  · rw [ha.n 14 (by decide)]; exact hw.i8 r
  · rw [ha.n 18 (by decide)]; exact hw.r6 r
  · rw [ha.n 19 (by decide)]; exact hw.o8 r
  · rw [ha.n 4 (by decide)]; exact hw.nR
  · rw [ha.n 10 (by decide)]; exact hw.nT
  · rw [ha.n 24 (by decide)]; exact hw.d6 r
/-- how far a transaction is in its phase, ahead of the look for its next act -/
def st0 (κ ρ : ax_R) (t : Nat) : Prop := κ.1 44 t ≤ κ.1 14 t * 6 ∧ (κ.1 12 t ≤ 4 → ρ.1 13 t = (List.range' 0 (κ.1 44 t)).countP (cNp κ t)) ∧ (5 ≤ κ.1 12 t → ∀ j, j < κ.1 44 t → cNp κ t j = false)
def st1 (κ ρ : ax_R) (t : Nat) : Prop := st0 κ ρ t ∧ κ.1 44 t < κ.1 14 t * 6 ∧ cNp κ t (κ.1 44 t) = true
def gSum (g : Nat → Nat) : Nat := ((List.range' 0 60).map g).sum
def Iv (κ ρ : ax_R) (b : Nat) (E : Nat → Prop) : Prop :=
  kf κ ∧ ag κ ρ ∧ own ρ ∧
  (∀ j, κ.1 8 j ≤ b ∧ κ.1 21 j ≤ b ∧ κ.1 3 j ≤ b ∧ ρ.1 13 j ≤ b) ∧
  (∀ m, κ.2.1 0 m = true → κ.2.1 1 m = true) ∧
  (∀ r, rM κ r ≤ 3) ∧
  (∀ t i j, i < κ.1 14 t → j < κ.1 14 t → κ.1 18 (8 * t + i) = κ.1 18 (8 * t + j) → κ.1 19 (8 * t + i) = κ.1 19 (8 * t + j) → i = j) ∧
  (∀ r o, r < κ.1 4 0 → o < 8 → κ.2.2 9 (8 * r + o) = -9 ∨ ∃ t i, t < κ.1 10 0 ∧ i < κ.1 14 t ∧ κ.2.2 9 (8 * r + o) = nI t ∧ κ.1 18 (8 * t + i) = r ∧ κ.1 19 (8 * t + i) = o ∧ κ.2.1 22 (8 * t + i) = true) ∧
  (∀ p, p < κ.1 17 0 → κ.1 16 (κ.1 47 p) = p + 1) ∧
  (∀ t, κ.1 16 t ≠ 0 → κ.1 16 t ≤ κ.1 17 0 ∧ κ.1 47 (κ.1 16 t - 1) = t) ∧
  (∀ t, κ.1 12 t ≤ 1 → κ.1 16 t = 0) ∧
  (∀ k, k < ρ.1 25 0 → ρ.2.2 26 k = -9 ∨ ∃ e, e < 2880 ∧ κ.2.1 41 e = true ∧ ρ.2.2 26 k = nI (e / 6) ∧ ρ.1 27 k = e % 6) ∧
  (∀ e, κ.2.1 41 e = true → e < 2880 ∧ ∃ k, k < ρ.1 25 0 ∧ ρ.2.2 26 k = nI (e / 6) ∧ ρ.1 27 k = e % 6) ∧
  (∀ k k2 e e2, k < k2 → k2 < ρ.1 25 0 → ρ.2.2 26 k = nI (e / 6) → ρ.1 27 k = e % 6 → ρ.2.2 26 k2 = nI (e2 / 6) → ρ.1 27 k2 = e2 % 6 → e < 2880 → e2 < 2880 → e / 48 = e2 / 48 → e < e2) ∧
  (∀ e, κ.2.1 41 e = true → ik κ (e / 6) ∧ κ.2.1 22 (e / 6) = true ∧ 3 ≤ κ.1 12 (e / 48) ∧ κ.1 12 (e / 48) ≤ 5 ∧ (κ.1 12 (e / 48) = 3 → e % 48 < κ.1 44 (e / 48))) ∧
  (∀ t, t < κ.1 10 0 → rAc κ t = true → E t → st1 κ ρ t) ∧
  (∃ g : Nat → Nat, ρ.1 25 0 ≤ gSum g ∧ (∀ t, g t ≤ 24) ∧ (∀ t, κ.1 12 t ≤ 2 → g t = 0) ∧ (∀ t, κ.1 12 t = 3 → g t ≤ ρ.1 13 t)) ∧
  (∀ t i, t < κ.1 10 0 → i < κ.1 14 t → κ.2.1 22 (8 * t + i) = true → ((κ.1 12 t = 1 ∧ 6 * i < κ.1 44 t) ∨ κ.1 12 t = 2 ∨ κ.1 12 t = 3 ∨ (κ.1 12 t = 4 ∧ κ.1 44 t ≤ 6 * i)) → κ.2.2 9 (8 * κ.1 18 (8 * t + i) + κ.1 19 (8 * t + i)) = nI t)
section PU2
variable {κ κ2 ρ ρ2 : ax_R} {b : Nat} {E : Nat → Prop}
theorem Iv.kf (h : Iv κ ρ b E) : kf κ := h.1
theorem Iv.ag (h : Iv κ ρ b E) : ag κ ρ := h.2.1
theorem Iv.ow (h : Iv κ ρ b E) : own ρ := h.2.2.1
theorem Iv.bd (h : Iv κ ρ b E) : (∀ j, κ.1 8 j ≤ b ∧ κ.1 21 j ≤ b ∧ κ.1 3 j ≤ b ∧ ρ.1 13 j ≤ b) := h.2.2.2.1
theorem Iv.um (h : Iv κ ρ b E) : (∀ m, κ.2.1 0 m = true → κ.2.1 1 m = true) := h.2.2.2.2.1
theorem Iv.m3 (h : Iv κ ρ b E) : (∀ r, rM κ r ≤ 3) := h.2.2.2.2.2.1
theorem Iv.it (h : Iv κ ρ b E) : (∀ t i j, i < κ.1 14 t → j < κ.1 14 t → κ.1 18 (8 * t + i) = κ.1 18 (8 * t + j) → κ.1 19 (8 * t + i) = κ.1 19 (8 * t + j) → i = j) := h.2.2.2.2.2.2.1
theorem Iv.lk (h : Iv κ ρ b E) : (∀ r o, r < κ.1 4 0 → o < 8 → κ.2.2 9 (8 * r + o) = -9 ∨ ∃ t i, t < κ.1 10 0 ∧ i < κ.1 14 t ∧ κ.2.2 9 (8 * r + o) = nI t ∧ κ.1 18 (8 * t + i) = r ∧ κ.1 19 (8 * t + i) = o ∧ κ.2.1 22 (8 * t + i) = true) := h.2.2.2.2.2.2.2.1
theorem Iv.pa (h : Iv κ ρ b E) : (∀ p, p < κ.1 17 0 → κ.1 16 (κ.1 47 p) = p + 1) := h.2.2.2.2.2.2.2.2.1
theorem Iv.pb (h : Iv κ ρ b E) : (∀ t, κ.1 16 t ≠ 0 → κ.1 16 t ≤ κ.1 17 0 ∧ κ.1 47 (κ.1 16 t - 1) = t) := h.2.2.2.2.2.2.2.2.2.1
theorem Iv.pc (h : Iv κ ρ b E) : (∀ t, κ.1 12 t ≤ 1 → κ.1 16 t = 0) := h.2.2.2.2.2.2.2.2.2.2.1
theorem Iv.r1 (h : Iv κ ρ b E) : (∀ k, k < ρ.1 25 0 → ρ.2.2 26 k = -9 ∨ ∃ e, e < 2880 ∧ κ.2.1 41 e = true ∧ ρ.2.2 26 k = nI (e / 6) ∧ ρ.1 27 k = e % 6) := h.2.2.2.2.2.2.2.2.2.2.2.1
theorem Iv.r2 (h : Iv κ ρ b E) : (∀ e, κ.2.1 41 e = true → e < 2880 ∧ ∃ k, k < ρ.1 25 0 ∧ ρ.2.2 26 k = nI (e / 6) ∧ ρ.1 27 k = e % 6) := h.2.2.2.2.2.2.2.2.2.2.2.2.1
theorem Iv.r3 (h : Iv κ ρ b E) : (∀ k k2 e e2, k < k2 → k2 < ρ.1 25 0 → ρ.2.2 26 k = nI (e / 6) → ρ.1 27 k = e % 6 → ρ.2.2 26 k2 = nI (e2 / 6) → ρ.1 27 k2 = e2 % 6 → e < 2880 → e2 < 2880 → e / 48 = e2 / 48 → e < e2) := h.2.2.2.2.2.2.2.2.2.2.2.2.2.1
theorem Iv.r4 (h : Iv κ ρ b E) : (∀ e, κ.2.1 41 e = true → ik κ (e / 6) ∧ κ.2.1 22 (e / 6) = true ∧ 3 ≤ κ.1 12 (e / 48) ∧ κ.1 12 (e / 48) ≤ 5 ∧ (κ.1 12 (e / 48) = 3 → e % 48 < κ.1 44 (e / 48))) := h.2.2.2.2.2.2.2.2.2.2.2.2.2.2.1
theorem Iv.st (h : Iv κ ρ b E) : (∀ t, t < κ.1 10 0 → rAc κ t = true → E t → st1 κ ρ t) := h.2.2.2.2.2.2.2.2.2.2.2.2.2.2.2.1
theorem Iv.gb (h : Iv κ ρ b E) : (∃ g : Nat → Nat, ρ.1 25 0 ≤ gSum g ∧ (∀ t, g t ≤ 24) ∧ (∀ t, κ.1 12 t ≤ 2 → g t = 0) ∧ (∀ t, κ.1 12 t = 3 → g t ≤ ρ.1 13 t)) := h.2.2.2.2.2.2.2.2.2.2.2.2.2.2.2.2.1
theorem Iv.hl (h : Iv κ ρ b E) : (∀ t i, t < κ.1 10 0 → i < κ.1 14 t → κ.2.1 22 (8 * t + i) = true → ((κ.1 12 t = 1 ∧ 6 * i < κ.1 44 t) ∨ κ.1 12 t = 2 ∨ κ.1 12 t = 3 ∨ (κ.1 12 t = 4 ∧ κ.1 44 t ≤ 6 * i)) → κ.2.2 9 (8 * κ.1 18 (8 * t + i) + κ.1 19 (8 * t + i)) = nI t) := h.2.2.2.2.2.2.2.2.2.2.2.2.2.2.2.2.2
theorem Iv.rf (h : Iv κ ρ b E) : rf_ok ρ := own_rf h.kf h.ag h.ow
/-- the pigeon-hole -/
theorem pigeon : ∀ (N n : Nat) (f : Nat → Nat), (∀ i, i < n → f i < N) → (∀ i j, i < n → j < n → f i = f j → i = j) → n ≤ N
  | 0, n, f, h1, _ => by
    cases n with
    | zero => exact Nat.le_refl _
    | succ n => exact absurd (h1 0 (by omega)) (by omega)
  | N + 1, n, f, h1, h2 => by
    by_cases hx : ∃ i, i < n ∧ f i = N
    · obtain ⟨i0, hi0, e0⟩ := hx
      have := pigeon N (n - 1) (fun i => if i < i0 then f i else f (i + 1)) (fun i hi => by
        split
        · have a := h1 i (by omega)
          have b : f i ≠ N := fun e => by have := h2 i i0 (by omega) hi0 (e.trans e0.symm); omega
          omega
        · have a := h1 (i + 1) (by omega)
          have b : f (i + 1) ≠ N := fun e => by have := h2 (i + 1) i0 (by omega) hi0 (e.trans e0.symm); omega
          omega) (fun i j hi hj e => by
        split at e <;> split at e
        · exact h2 i j (by omega) (by omega) e
        · have := h2 i (j + 1) (by omega) (by omega) e; omega
        · have := h2 (i + 1) j (by omega) (by omega) e; omega
        · have := h2 (i + 1) (j + 1) (by omega) (by omega) e; omega)
      omega
    · have := pigeon N n f (fun i hi => by
        have a := h1 i hi
        have b : f i ≠ N := fun e => hx ⟨i, hi, e⟩
        omega) h2
      omega
theorem Iv.p60 (h : Iv κ ρ b E) {t : Nat} (ht : t < κ.1 10 0) (h1 : κ.1 12 t ≤ 1) : κ.1 17 0 < 60 := by
  have hw := h.kf
  have := pigeon (κ.1 10 0) (κ.1 17 0 + 1) (fun p => if p = κ.1 17 0 then t else κ.1 47 p) (fun i hi => by
    split
    · exact ht
    · exact hw.bp i (by omega)) (fun i j hi hj e => by
    have key : ∀ p, p < κ.1 17 0 → κ.1 47 p ≠ t := fun p hp e => by
      have a := h.pa p hp
      rw [e, h.pc t h1] at a
      omega
    split at e <;> split at e
    · omega
    · exact absurd e.symm (key j (by omega))
    · exact absurd e (key i (by omega))
    · have a := h.pa i (by omega)
      have c := h.pa j (by omega)
      rw [e] at a
      omega)
  have := hw.nT
  omega
theorem cHa_co {t k s : Nat} (e12 : κ2.1 12 t = κ.1 12 t) (e22 : κ2.2.1 22 k = κ.2.1 22 k) (e18 : κ2.1 18 k = κ.1 18 k) (e19 : κ2.1 19 k = κ.1 19 k) (e3 : κ.1 12 t = 3 → bk κ2 (κ.1 18 k) s = bk κ (κ.1 18 k) s) (e5 : κ.1 12 t = 5 → κ2.2.1 41 (6 * k + s) = κ.2.1 41 (6 * k + s) ∧ κ2.1 5 (κ.1 18 k) = κ.1 5 (κ.1 18 k)) (e6 : κ.1 12 t = 6 → ((κ2.2.2 9 (8 * κ.1 18 k + κ.1 19 k) = nI t) ↔ (κ.2.2 9 (8 * κ.1 18 k + κ.1 19 k) = nI t))) : cHa κ2 t k s = cHa κ t k s := by
  unfold cHa
  rw [e12, e18, e19, e22]
  split
  · rfl
  · rfl
  · rw [e3 (by assumption)]
  · rfl
  · rw [(e5 (by assumption)).1, (e5 (by assumption)).2]
  · simp only [e6 (by assumption)]
  · rfl
theorem st_co {t : Nat} (h : st1 κ ρ t) (e44 : κ2.1 44 t = κ.1 44 t) (e14 : κ2.1 14 t = κ.1 14 t) (e12 : κ2.1 12 t = κ.1 12 t) (e13 : ρ2.1 13 t = ρ.1 13 t) (ep : ∀ i s, i < κ.1 14 t → s < 6 → cHa κ2 t (8 * t + i) s = cHa κ t (8 * t + i) s) : st1 κ2 ρ2 t := by
  obtain ⟨⟨h1, h2, h3⟩, h4, h5⟩ := h
  have ep2 : ∀ j, j < κ.1 14 t * 6 → cNp κ2 t j = cNp κ t j := fun j hj => ep (j / 6) (j % 6) (by omega) (by omega)
  refine ⟨⟨by omega, fun q => ?_, fun q j hj => ?_⟩, by omega, ?_⟩
  · rw [e13, e44, h2 (by omega)]
    exact (cP_co fun j hj => by have := List.mem_range'_1.mp hj; exact ep2 j (by omega)).symm
  · rw [ep2 j (by omega)]
    exact h3 (by omega) j (by omega)
  · rw [e44, ep2 _ h4]
    exact h5
theorem np_1 {t j : Nat} (h : κ.1 12 t = 1) : cNp κ t j = (decide (j % 6 = 0) && κ.2.1 22 (8 * t + j / 6)) := by simp only [cNp, cHa, h]
theorem np_2 {t j : Nat} (h : κ.1 12 t = 2) : cNp κ t j = (decide (j % 6 = 0) && !κ.2.1 22 (8 * t + j / 6)) := by simp only [cNp, cHa, h]
theorem np_3 {t j : Nat} (h : κ.1 12 t = 3) : cNp κ t j = (κ.2.1 22 (8 * t + j / 6) && bk κ (κ.1 18 (8 * t + j / 6)) (j % 6)) := by simp only [cNp, cHa, h]
theorem np_4 {t j : Nat} (h : κ.1 12 t = 4) : cNp κ t j = (decide (j % 6 = 0) && κ.2.1 22 (8 * t + j / 6)) := by simp only [cNp, cHa, h]
theorem np_5 {t j : Nat} (h : κ.1 12 t = 5) : cNp κ t j = (decide (j % 6 < κ.1 5 (κ.1 18 (8 * t + j / 6))) && κ.2.1 41 (6 * (8 * t + j / 6) + j % 6)) := by simp only [cNp, cHa, h]
theorem np_6 {t j : Nat} (h : κ.1 12 t = 6) : cNp κ t j = (decide (j % 6 = 0) && decide (κ.2.2 9 (8 * κ.1 18 (8 * t + j / 6) + κ.1 19 (8 * t + j / 6)) = nI t)) := by simp only [cNp, cHa, h]
/-- the class's next act is the first in the phase's row that is left -/
theorem st0_nx {t : Nat} (h : st0 κ ρ t) : (κ.1 12 t ≤ 4 → cNx κ t = (aL κ t)[ρ.1 13 t]?) ∧ (5 ≤ κ.1 12 t → cNx κ t = (aL κ t)[0]?) := by
  refine ⟨fun q => ?_, fun q => ?_⟩
  · rw [cNx_al h.1, h.2.1 q]
  · rw [cNx_al h.1]
    have : (List.range' 0 (κ.1 44 t)).countP (cNp κ t) = 0 := List.countP_eq_zero.mpr fun j hj => by
      have := List.mem_range'_1.mp hj
      rw [h.2.2 q j (by omega)]
      simp
    rw [this]
theorem e48 {e t : Nat} (h : e / 48 = t) : 8 * t + e % 48 / 6 = e / 6 ∧ e % 48 % 6 = e % 6 ∧ e / 6 / 8 = t ∧ e / 6 % 8 = e % 48 / 6 ∧ 6 * (e / 6) + e % 6 = e := by omega
/-- a record's copy is there -/
theorem Iv.rs (h : Iv κ ρ b E) {e : Nat} (h41 : κ.2.1 41 e = true) : e % 6 < κ.1 5 (κ.1 18 (e / 6)) := by
  apply Nat.lt_of_not_le
  intro q
  have := (h.kf.rd (e / 6) (e % 6) q (by omega)).1
  rw [show 6 * (e / 6) + e % 6 = e by omega, h41] at this
  cases this
theorem Iv.al5 (h : Iv κ ρ b E) {t e : Nat} (h5 : κ.1 12 t = 5) (he : e / 48 = t) (h41 : κ.2.1 41 e = true) : cNp κ t (e % 48) = true ∧ e % 48 < κ.1 14 t * 6 := by
  obtain ⟨a1, a2, a3, a4, a5⟩ := e48 he
  obtain ⟨b1, -⟩ := h.r4 e h41
  have b2 := b1.2
  rw [a3, a4] at b2
  refine ⟨?_, by omega⟩
  unfold cNp cHa
  rw [h5, a1, a2]
  rw [a5, h41, decide_eq_true (h.rs h41)]
  rfl
theorem np5 {t j : Nat} (h5 : κ.1 12 t = 5) (hj : cNp κ t j = true) : κ.2.1 41 (48 * t + j) = true := by
  rw [np_5 h5, Bool.and_eq_true] at hj
  rw [show 48 * t + j = 6 * (8 * t + j / 6) + j % 6 by omega]
  exact hj.2
theorem Iv.fr (h : Iv κ ρ b E) {t : Nat} (h5 : κ.1 12 t = 5) : (rFr ρ t = none → (aL κ t)[0]? = none) ∧ (∀ k, rFr ρ t = some k → ∃ j, (aL κ t)[0]? = some j ∧ ρ.2.2 26 k = nI (8 * t + j / 6) ∧ ρ.1 27 k = j % 6 ∧ k < ρ.1 25 0) := by
  have hlive : ∀ k e, e < 2880 → ρ.2.2 26 k = nI (e / 6) → (decide (ρ.2.2 26 k ≠ -9) && decide ((ρ.2.2 26 k).toNatClampNeg / 8 = t)) = decide (e / 48 = t) := fun k e he hk => by
    rw [hk, nI_clamp (by omega), show e / 6 / 8 = e / 48 by omega]
    have : nI (e / 6) ≠ -9 := nI_ne9 (by omega)
    simp [this]
  constructor
  · intro hn
    unfold aL
    rw [f0_find, List.find?_range'_eq_none]
    intro j _ hj
    cases hp : cNp κ t j with
    | false => rfl
    | true =>
      have h41 := np5 h5 hp
      obtain ⟨e1, k, hk, e2, e3⟩ := h.r2 _ h41
      have hj48 : j < 48 := by have := h.kf.i8 t; omega
      have := (List.find?_range'_eq_none.mp hn) k (by omega) (by omega)
      rw [hlive k _ e1 e2, decide_eq_true (by omega)] at this
      cases this
  · intro k hk
    obtain ⟨c1, c2, c3⟩ := List.find?_range'_eq_some.mp hk
    have c2 := List.mem_range'_1.mp c2
    rcases h.r1 k (by omega) with q | ⟨e, e1, e2, e3, e4⟩
    · rw [q] at c1; simp at c1
    · rw [hlive k e e1 e3] at c1
      have c1 := of_decide_eq_true c1
      obtain ⟨a1, a2, a3, a4, a5⟩ := e48 c1
      obtain ⟨d1, d2⟩ := h.al5 h5 c1 e2
      refine ⟨e % 48, ?_, by rw [a1]; exact e3, by rw [a2]; exact e4, by omega⟩
      unfold aL
      rw [f0_find, List.find?_range'_eq_some]
      refine ⟨d1, List.mem_range'_1.mpr (by omega), fun i _ hi => ?_⟩
      cases hp : cNp κ t i with
      | false => rfl
      | true =>
        exfalso
        obtain ⟨f1, k2, f2, f3, f4⟩ := h.r2 _ (np5 h5 hp)
        have hlt : ¬ k2 < k := fun z => by
          have := c3 k2 (by omega) z
          rw [hlive k2 _ f1 f3, decide_eq_true (by omega)] at this
          cases this
        rcases Nat.lt_or_ge k k2 with z | z
        · have := h.r3 k k2 e (48 * t + i) z f2 e3 e4 f3 f4 e1 f1 (by omega)
          omega
        · have : k2 = k := by omega
          subst this
          rw [e3] at f3
          rw [e4] at f4
          have := (nI_inj (by omega) (by omega)).mp f3
          omega
/-- which item of a transaction an object is locked by -/
theorem Iv.lw (h : Iv κ ρ b E) {t i : Nat} (ht : t < κ.1 10 0) (hi : i < κ.1 14 t) (hl : κ.2.2 9 (8 * κ.1 18 (8 * t + i) + κ.1 19 (8 * t + i)) = nI t) : κ.2.1 22 (8 * t + i) = true := by
  have h60 := h.kf.nT
  rcases h.lk _ _ (h.kf.ir t i ht hi) (h.kf.o8 (8 * t + i)) with q | ⟨t2, i2, q1, q2, q3, q4, q5, q6⟩
  · rw [q] at hl; exact absurd hl.symm (nI_ne9 (by omega))
  · rw [hl] at q3
    have := (nI_inj (by omega) (by omega)).mp q3
    subst this
    have := h.it t i i2 hi q2 q4.symm q5.symm
    subst this
    exact q6
theorem Iv.fl (h : Iv κ ρ b E) {t : Nat} (ht : t < κ.1 10 0) (h6 : κ.1 12 t = 6) : rFl κ t = ((aL κ t)[0]?).map (fun j => 8 * t + j / 6) := by
  unfold rFl
  rw [← f0_find, ← List.getElem?_map, al_6 h6]
  congr 1
  refine fl_co fun k hk => ?_
  have hk := List.mem_range'_1.mp hk
  cases hl : decide (κ.2.2 9 (8 * κ.1 18 k + κ.1 19 k) = nI t) with
  | false => simp
  | true =>
    have hl := of_decide_eq_true hl
    have := h.lw (i := k - 8 * t) ht (by omega) (by rw [show 8 * t + (k - 8 * t) = k by omega]; exact hl)
    rw [show 8 * t + (k - 8 * t) = k by omega] at this
    rw [this]
    rfl
/-- the reference finds no act where the class finds none -/
theorem Iv.ov (h : Iv κ ρ b E) {t : Nat} (ht : t < κ.1 10 0) (hac : rAc κ t = true) (h0 : st0 κ ρ t) : rOv ρ t = (cNx κ t).isNone := by
  have h16 := rAc_16 hac
  have ha := h.ag
  obtain ⟨n1, n2⟩ := st0_nx h0
  have hc : κ.1 12 t = 1 ∨ κ.1 12 t = 2 ∨ κ.1 12 t = 3 ∨ κ.1 12 t = 4 ∨ κ.1 12 t = 5 ∨ κ.1 12 t = 6 := by omega
  unfold rOv
  rw [ha.n 12 (by decide)]
  rcases hc with q | q | q | q | q | q
  · rw [n1 (by omega), q]
    rw [ag_rNt ha]
    unfold rNt
    rw [← al_1 (Or.inl q), List.getElem?_map, Option.isNone_map]
    rfl
  · rw [n1 (by omega), q]
    rw [ag_rNt ha]
    unfold rNt
    rw [← al_2 q, List.getElem?_map, Option.isNone_map]
    rfl
  · rw [n1 (by omega), q]
    rw [ag_rB ha, ← al_3 h.kf q, List.getElem?_map, Option.isNone_map]
    rfl
  · rw [n1 (by omega), q]
    rw [ag_rNt ha]
    unfold rNt
    rw [← al_1 (Or.inr q), List.getElem?_map, Option.isNone_map]
    rfl
  · rw [n2 (by omega), q]
    cases hf : rFr ρ t with
    | none => rw [(h.fr q).1 hf]; rfl
    | some k =>
      obtain ⟨j, e, -⟩ := (h.fr q).2 k hf
      rw [e]
      rfl
  · rw [n2 (by omega), q]
    rw [ag_rFl ha, h.fl ht q, Option.isNone_map]
    rfl
end PU2
