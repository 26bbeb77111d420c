/-! The class: its state is again three families of rows, with the reference's numbers where both hold the same; own: N 44 cursor, N 47 byPlace, B 41 recordsAt by item and slot. Sets of machines are kept as truth values. -/
def mk (P : Nat → Bool) : Nat := (P 0).toNat + 2 * (P 1).toNat + 4 * (P 2).toNat + 8 * (P 3).toNat + 16 * (P 4).toNat + 32 * (P 5).toNat
/-- the machines of the slots of region r for which P holds -/
def pm (κ : ax_R) (r : Nat) (P : Nat → Bool) (m : Nat) : Bool := (List.range' 0 (κ.1 5 r)).any fun s => decide (κ.1 6 (6 * r + s) = m) && P s
/-- the slot of machine m -/
def pl (κ : ax_R) (r m : Nat) : Option Nat := (List.range' 0 (κ.1 5 r)).find? fun s => decide (κ.1 6 (6 * r + s) = m)
def vv (κ : ax_R) (r j : Nat) : Int32 := match pl κ r (j / 8) with
  | some s => κ.2.2 7 (8 * (6 * r + s) + j % 8)
  | none => 0
def vn (κ : ax_R) (r j : Nat) : Int32 := match pl κ r (j / 8) with
  | some s => nI (κ.1 8 (8 * (6 * r + s) + j % 8))
  | none => 0
def od (κ : ax_R) (r s : Nat) : Int32 := if s < 6 then nI (κ.1 6 (6 * r + s)) else 0
def lk (κ : ax_R) (r o : Nat) : Int32 := if o < 8 then κ.2.2 9 (8 * r + o) else 0
def dn (κ : ax_R) (k s : Nat) : Bool := decide (κ.1 24 k / 2 ^ s % 2 = 1)
def cpv (v : Nat) : Nat := match v with
  | 0 => 10 | 1 => 15 | 2 => 22 | 3 => 33 | 4 => 49 | _ => 73
def lov (v : Nat) : Nat := match v with
  | 0 => 0 | 1 => 10 | 2 => 15 | 3 => 22 | 4 => 33 | 5 => 49 | _ => 73
def lvl (n : Nat) : Nat := if n ≤ 10 then 0 else if n ≤ 15 then 1 else if n ≤ 22 then 2 else if n ≤ 33 then 3 else if n ≤ 49 then 4 else 5
def lsC (n : Nat) (e : ax_N) : Option ax_C := some (ax_o 0 [ax_i (nI n), ax_r e, ax_i (nI n)])
def elC (n c : Nat) (f : Nat → ax_N) : Option ax_C := some (ax_aq c (fun j => if j < n ∧ j < c then some (f j) else none))
def fR (κ : ax_R) (r : Nat) : List ax_V := [ax_i (nI r), ax_r (4, r), ax_i (nI (κ.1 5 r)), ax_i (nI (mk (pm κ r fun _ => true))), ax_r (5, r), ax_r (6, r), ax_r (7, r)]
def fT (κ : ax_R) (t : Nat) : List ax_V := [ax_i (nI t), ax_i (nI (κ.1 11 t)), ax_r (13, t), ax_i (nI (κ.1 12 t)), ax_i (nI (κ.1 44 t)), ax_i (nI (κ.1 16 t)), ax_i (ax_b (κ.2.1 15 t))]
def fI (κ : ax_R) (k : Nat) : List ax_V := [ax_r (3, κ.1 18 k), ax_i (nI (κ.1 19 k)), ax_i (κ.2.2 20 k), ax_i (nI (κ.1 21 k)), ax_i (ax_b (κ.2.1 22 k)), ax_i (if κ.2.1 22 k = true then κ.2.2 23 k else -9), ax_i (nI (mk (pm κ (κ.1 18 k) fun s => κ.2.1 41 (6 * k + s)))), ax_i (nI (mk (pm κ (κ.1 18 k) (dn κ k))))]
def fO (κ : ax_R) : List ax_V := [ax_r (10, 0), ax_r (11, 0), ax_r (12, 0), ax_r (2, 0), ax_i (nI (mk (κ.2.1 0))), ax_i (nI (mk (κ.2.1 1))), ax_i (nI (κ.1 3 0))]
def ch (κ : ax_R) : ax_H := fun u => match u.1 with
  | 1 => if u.2 = 0 then some (ax_o 4 (fO κ)) else none
  | 2 => if u.2 = 0 then some (ax_ai 48 (κ.2.2 32)) else none
  | 3 => if u.2 < κ.1 4 0 then some (ax_o 2 (fR κ u.2)) else none
  | 4 => if u.2 < κ.1 4 0 then some (ax_ai 6 (od κ u.2)) else none
  | 5 => if u.2 < κ.1 4 0 then some (ax_ai 48 (vv κ u.2)) else none
  | 6 => if u.2 < κ.1 4 0 then some (ax_ai 48 (vn κ u.2)) else none
  | 7 => if u.2 < κ.1 4 0 then some (ax_ai 8 (lk κ u.2)) else none
  | 8 => if u.2 < κ.1 10 0 then some (ax_o 3 (fT κ u.2)) else none
  | 9 => if u.2 / 8 < κ.1 10 0 ∧ u.2 % 8 < κ.1 14 (u.2 / 8) then some (ax_o 1 (fI κ u.2)) else none
  | 10 => if u.2 = 0 then lsC (κ.1 4 0) (if κ.1 4 0 = 0 then ax_E else (14, 0)) else none
  | 11 => if u.2 = 0 then lsC (κ.1 10 0) (if κ.1 10 0 = 0 then ax_E else (16, lvl (κ.1 10 0))) else none
  | 12 => if u.2 = 0 then lsC (κ.1 17 0) (if κ.1 17 0 = 0 then ax_E else (17, lvl (κ.1 17 0))) else none
  | 13 => if u.2 < κ.1 10 0 then lsC (κ.1 14 u.2) (if κ.1 14 u.2 = 0 then ax_E else (15, u.2)) else none
  | 14 => if u.2 = 0 ∧ 0 < κ.1 4 0 then elC (κ.1 4 0) 10 (fun j => (3, j)) else none
  | 15 => if u.2 < κ.1 10 0 ∧ 0 < κ.1 14 u.2 then elC (κ.1 14 u.2) 10 (fun j => (9, 8 * u.2 + j)) else none
  | 16 => if u.2 < 6 ∧ lov u.2 < κ.1 10 0 then elC (κ.1 10 0) (cpv u.2) (fun j => (8, j)) else none
  | 17 => if u.2 < 6 ∧ lov u.2 < κ.1 17 0 then elC (κ.1 17 0) (cpv u.2) (fun j => (8, κ.1 47 j)) else none
  | _ => none
/-- what always holds of the class's state -/
def kf (κ : ax_R) : Prop :=
  (∀ k j, κ.1 k j < 1000000) ∧
  (∀ r, κ.1 5 r ≤ 6) ∧
  (∀ j, κ.1 6 j < 6) ∧
  (∀ t, κ.1 11 t < 6) ∧
  (∀ t, κ.1 14 t ≤ 8) ∧
  (∀ i, κ.1 18 i < 6) ∧
  (∀ i, κ.1 19 i < 8) ∧
  (κ.1 4 0 ≤ 6) ∧
  (κ.1 10 0 ≤ 60) ∧
  (κ.1 17 0 ≤ 60) ∧
  (∀ t i, t < κ.1 10 0 → i < κ.1 14 t → κ.1 18 (8 * t + i) < κ.1 4 0) ∧
  (∀ p, p < κ.1 17 0 → κ.1 47 p < κ.1 10 0) ∧
  (∀ r a b, a < κ.1 5 r → b < κ.1 5 r → κ.1 6 (6 * r + a) = κ.1 6 (6 * r + b) → a = b) ∧
  (∀ i, κ.1 24 i < 64) ∧
  (∀ r s o, κ.1 5 r ≤ s → s < 6 → o < 8 → κ.2.2 7 (8 * (6 * r + s) + o) = 0 ∧ κ.1 8 (8 * (6 * r + s) + o) = 0) ∧
  (∀ k s, κ.1 5 (κ.1 18 k) ≤ s → s < 6 → κ.2.1 41 (6 * k + s) = false ∧ dn κ k s = false) ∧
  (∀ m, 6 ≤ m → κ.2.1 0 m = false ∧ κ.2.1 1 m = false) ∧
  (∀ r, κ.1 4 0 ≤ r → κ.1 5 r = 0 ∧ (r < 6 → ∀ o, o < 8 → κ.2.2 9 (8 * r + o) = -9)) ∧
  (∀ t, κ.1 10 0 ≤ t → κ.1 12 t = 0 ∧ κ.1 44 t = 0 ∧ κ.1 16 t = 0 ∧ κ.2.1 15 t = false ∧ κ.1 14 t = 0) ∧
  (∀ t i, κ.1 14 t ≤ i → i < 8 → κ.2.1 22 (8 * t + i) = false ∧ κ.1 24 (8 * t + i) = 0 ∧ ∀ s, s < 6 → κ.2.1 41 (6 * (8 * t + i) + s) = false) ∧
  (∀ t, κ.1 12 t ≤ 8) ∧
  (∀ r s, κ.1 5 r ≤ s → s < 6 → κ.1 6 (6 * r + s) = 0)
theorem kf.lt {κ : ax_R} (h : kf κ) : ∀ k j, κ.1 k j < 1000000 := h.1
theorem kf.c6 {κ : ax_R} (h : kf κ) : ∀ r, κ.1 5 r ≤ 6 := h.2.1
theorem kf.m6 {κ : ax_R} (h : kf κ) : ∀ j, κ.1 6 j < 6 := h.2.2.1
theorem kf.co6 {κ : ax_R} (h : kf κ) : ∀ t, κ.1 11 t < 6 := h.2.2.2.1
theorem kf.i8 {κ : ax_R} (h : kf κ) : ∀ t, κ.1 14 t ≤ 8 := h.2.2.2.2.1
theorem kf.r6 {κ : ax_R} (h : kf κ) : ∀ i, κ.1 18 i < 6 := h.2.2.2.2.2.1
theorem kf.o8 {κ : ax_R} (h : kf κ) : ∀ i, κ.1 19 i < 8 := h.2.2.2.2.2.2.1
theorem kf.nR {κ : ax_R} (h : kf κ) : κ.1 4 0 ≤ 6 := h.2.2.2.2.2.2.2.1
theorem kf.nT {κ : ax_R} (h : kf κ) : κ.1 10 0 ≤ 60 := h.2.2.2.2.2.2.2.2.1
theorem kf.nP {κ : ax_R} (h : kf κ) : κ.1 17 0 ≤ 60 := h.2.2.2.2.2.2.2.2.2.1
theorem kf.ir {κ : ax_R} (h : kf κ) : ∀ t i, t < κ.1 10 0 → i < κ.1 14 t → κ.1 18 (8 * t + i) < κ.1 4 0 := h.2.2.2.2.2.2.2.2.2.2.1
theorem kf.bp {κ : ax_R} (h : kf κ) : ∀ p, p < κ.1 17 0 → κ.1 47 p < κ.1 10 0 := h.2.2.2.2.2.2.2.2.2.2.2.1
theorem kf.ds {κ : ax_R} (h : kf κ) : ∀ r a b, a < κ.1 5 r → b < κ.1 5 r → κ.1 6 (6 * r + a) = κ.1 6 (6 * r + b) → a = b := h.2.2.2.2.2.2.2.2.2.2.2.2.1
theorem kf.d6 {κ : ax_R} (h : kf κ) : ∀ i, κ.1 24 i < 64 := h.2.2.2.2.2.2.2.2.2.2.2.2.2.1
theorem kf.vf {κ : ax_R} (h : kf κ) : ∀ r s o, κ.1 5 r ≤ s → s < 6 → o < 8 → κ.2.2 7 (8 * (6 * r + s) + o) = 0 ∧ κ.1 8 (8 * (6 * r + s) + o) = 0 := h.2.2.2.2.2.2.2.2.2.2.2.2.2.2.1
theorem kf.rd {κ : ax_R} (h : kf κ) : ∀ k s, κ.1 5 (κ.1 18 k) ≤ s → s < 6 → κ.2.1 41 (6 * k + s) = false ∧ dn κ k s = false := h.2.2.2.2.2.2.2.2.2.2.2.2.2.2.2.1
theorem kf.b6 {κ : ax_R} (h : kf κ) : ∀ m, 6 ≤ m → κ.2.1 0 m = false ∧ κ.2.1 1 m = false := h.2.2.2.2.2.2.2.2.2.2.2.2.2.2.2.2.1
theorem kf.c0 {κ : ax_R} (h : kf κ) : ∀ r, κ.1 4 0 ≤ r → κ.1 5 r = 0 ∧ (r < 6 → ∀ o, o < 8 → κ.2.2 9 (8 * r + o) = -9) := h.2.2.2.2.2.2.2.2.2.2.2.2.2.2.2.2.2.1
theorem kf.t0 {κ : ax_R} (h : kf κ) : ∀ t, κ.1 10 0 ≤ t → κ.1 12 t = 0 ∧ κ.1 44 t = 0 ∧ κ.1 16 t = 0 ∧ κ.2.1 15 t = false ∧ κ.1 14 t = 0 := h.2.2.2.2.2.2.2.2.2.2.2.2.2.2.2.2.2.2.1
theorem kf.w0 {κ : ax_R} (h : kf κ) : ∀ t i, κ.1 14 t ≤ i → i < 8 → κ.2.1 22 (8 * t + i) = false ∧ κ.1 24 (8 * t + i) = 0 ∧ ∀ s, s < 6 → κ.2.1 41 (6 * (8 * t + i) + s) = false := h.2.2.2.2.2.2.2.2.2.2.2.2.2.2.2.2.2.2.2.1
theorem kf.p8 {κ : ax_R} (h : kf κ) : ∀ t, κ.1 12 t ≤ 8 := h.2.2.2.2.2.2.2.2.2.2.2.2.2.2.2.2.2.2.2.2.1
theorem kf.m0 {κ : ax_R} (h : kf κ) : ∀ r s, κ.1 5 r ≤ s → s < 6 → κ.1 6 (6 * r + s) = 0 := h.2.2.2.2.2.2.2.2.2.2.2.2.2.2.2.2.2.2.2.2.2
section CH
variable {κ κ2 ρ : ax_R}
theorem ch_O : fh (ch κ) ρ (1, 0) = some (ax_o 4 (fO κ)) := rfl
theorem ch_M : fh (ch κ) ρ (2, 0) = some (ax_ai 48 (κ.2.2 32)) := rfl
theorem ch_R {r : Nat} (h : r < κ.1 4 0) : fh (ch κ) ρ (3, r) = some (ax_o 2 (fR κ r)) := if_pos h
theorem ch_o {r : Nat} (h : r < κ.1 4 0) : fh (ch κ) ρ (4, r) = some (ax_ai 6 (od κ r)) := if_pos h
theorem ch_v {r : Nat} (h : r < κ.1 4 0) : fh (ch κ) ρ (5, r) = some (ax_ai 48 (vv κ r)) := if_pos h
theorem ch_n {r : Nat} (h : r < κ.1 4 0) : fh (ch κ) ρ (6, r) = some (ax_ai 48 (vn κ r)) := if_pos h
theorem ch_l {r : Nat} (h : r < κ.1 4 0) : fh (ch κ) ρ (7, r) = some (ax_ai 8 (lk κ r)) := if_pos h
theorem ch_T {t : Nat} (h : t < κ.1 10 0) : fh (ch κ) ρ (8, t) = some (ax_o 3 (fT κ t)) := if_pos h
/-- k is an item -/
def ik (κ : ax_R) (k : Nat) : Prop := k / 8 < κ.1 10 0 ∧ k % 8 < κ.1 14 (k / 8)
theorem ch_I {k : Nat} (h : ik κ k) : fh (ch κ) ρ (9, k) = some (ax_o 1 (fI κ k)) := if_pos h
theorem ik.of {t i : Nat} (hw : kf κ) (ht : t < κ.1 10 0) (hi : i < κ.1 14 t) : ik κ (8 * t + i) := by
  have := hw.i8 t
  have e1 : (8 * t + i) / 8 = t := by omega
  have e2 : (8 * t + i) % 8 = i := by omega
  exact ⟨by rw [e1]; exact ht, by rw [e1, e2]; exact hi⟩
theorem ik.r {k : Nat} (hw : kf κ) (h : ik κ k) : κ.1 18 k < κ.1 4 0 := by
  have := hw.ir _ _ h.1 h.2
  rwa [show 8 * (k / 8) + k % 8 = k by omega] at this
theorem ch_lR : fh (ch κ) ρ (10, 0) = some (ax_o 0 [ax_i (nI (κ.1 4 0)), ax_r (if κ.1 4 0 = 0 then ax_E else (14, 0)), ax_i (nI (κ.1 4 0))]) := rfl
theorem ch_lT : fh (ch κ) ρ (11, 0) = some (ax_o 0 [ax_i (nI (κ.1 10 0)), ax_r (if κ.1 10 0 = 0 then ax_E else (16, lvl (κ.1 10 0))), ax_i (nI (κ.1 10 0))]) := rfl
theorem ch_lP : fh (ch κ) ρ (12, 0) = some (ax_o 0 [ax_i (nI (κ.1 17 0)), ax_r (if κ.1 17 0 = 0 then ax_E else (17, lvl (κ.1 17 0))), ax_i (nI (κ.1 17 0))]) := rfl
theorem ch_lI {t : Nat} (h : t < κ.1 10 0) : fh (ch κ) ρ (13, t) = some (ax_o 0 [ax_i (nI (κ.1 14 t)), ax_r (if κ.1 14 t = 0 then ax_E else (15, t)), ax_i (nI (κ.1 14 t))]) := if_pos h
theorem ch_eR (h : 0 < κ.1 4 0) : fh (ch κ) ρ (14, 0) = some (ax_aq 10 (fun j => if j < κ.1 4 0 ∧ j < 10 then some (3, j) else none)) := if_pos ⟨rfl, h⟩
theorem ch_eI {t : Nat} (h : t < κ.1 10 0) (h2 : 0 < κ.1 14 t) : fh (ch κ) ρ (15, t) = some (ax_aq 10 (fun j => if j < κ.1 14 t ∧ j < 10 then some (9, 8 * t + j) else none)) := if_pos ⟨h, h2⟩
theorem ch_eT {v : Nat} (hv : v < 6) (h : lov v < κ.1 10 0) : fh (ch κ) ρ (16, v) = some (ax_aq (cpv v) (fun j => if j < κ.1 10 0 ∧ j < cpv v then some (8, j) else none)) := if_pos ⟨hv, h⟩
theorem ch_eP {v : Nat} (hv : v < 6) (h : lov v < κ.1 17 0) : fh (ch κ) ρ (17, v) = some (ax_aq (cpv v) (fun j => if j < κ.1 17 0 ∧ j < cpv v then some (8, κ.1 47 j) else none)) := if_pos ⟨hv, h⟩
theorem ch_up {w : ax_N} {C : ax_C} (hw : w.1 < 80) (h1 : ∀ u, u ≠ w → ch κ2 u = ch κ u) (h2 : ch κ2 w = some C) : ax_up (fh (ch κ) ρ) w C = fh (ch κ2) ρ := by
  funext u
  obtain ⟨t, i⟩ := u
  by_cases e : (t, i) = w
  · subst e
    rw [ax_up_s]
    unfold fh
    dsimp only at hw ⊢
    split
    · omega
    · omega
    · exact h2.symm
  · rw [ax_up_n e]
    unfold fh
    split
    · rfl
    · rfl
    · exact (h1 _ e).symm
/-- what the class's heap shows of a state -/
theorem ch_co (h : ∀ k j, k ∈ [3, 4, 5, 6, 8, 10, 11, 12, 14, 16, 17, 18, 19, 21, 24, 44, 47] → κ2.1 k j = κ.1 k j) (hb : ∀ k j, k ∈ [0, 1, 15, 22, 41] → κ2.2.1 k j = κ.2.1 k j) (hr : ∀ k j, k ∈ [7, 9, 20, 23, 32] → κ2.2.2 k j = κ.2.2 k j) : ch κ2 = ch κ := by
  have ep : ∀ r, pm κ2 r = pm κ r := fun r => by funext P m; simp [pm, h 5, h 6]
  have el : ∀ r, pl κ2 r = pl κ r := fun r => by funext m; simp [pl, h 5, h 6]
  have ev : ∀ r, vv κ2 r = vv κ r := fun r => by funext m; simp [vv, el, hr 7]
  have en : ∀ r, vn κ2 r = vn κ r := fun r => by funext m; simp [vn, el, h 8]
  have eo : ∀ r, od κ2 r = od κ r := fun r => by funext m; simp [od, h 6]
  have ek : ∀ r, lk κ2 r = lk κ r := fun r => by funext m; simp [lk, hr 9]
  have ed : ∀ r, dn κ2 r = dn κ r := fun r => by funext m; simp [dn, h 24]
  have e0 : κ2.2.1 0 = κ.2.1 0 := funext fun j => hb 0 j (by decide)
  have e1 : κ2.2.1 1 = κ.2.1 1 := funext fun j => hb 1 j (by decide)
  have e32 : κ2.2.2 32 = κ.2.2 32 := funext fun j => hr 32 j (by decide)
  funext u
  unfold ch
  simp only [fO, fR, fT, fI, ep, ev, en, ed, eo, ek, e0, e1, e32, h 3 _ (by decide), h 4 _ (by decide), h 5 _ (by decide), h 6 _ (by decide), h 10 _ (by decide), h 11 _ (by decide), h 12 _ (by decide), h 14 _ (by decide), h 16 _ (by decide), h 17 _ (by decide), h 18 _ (by decide), h 19 _ (by decide), h 21 _ (by decide), h 44 _ (by decide), h 47 _ (by decide), hb 15 _ (by decide), hb 22 _ (by decide), hb 41 _ (by decide), hr 9 _ (by decide), hr 20 _ (by decide), hr 23 _ (by decide)]
end CH
