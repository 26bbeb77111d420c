/-- some of the locals may be forgotten -/
def ax_mask (bs : List Bool) (L : List (Option ax_V)) : List (Option ax_V) := List.zipWith (fun b o => cond b o none) bs L
theorem ax_mask_at {bs : List Bool} {L : List (Option ax_V)} {i : Nat} {v : ax_V} (hi : (ax_mask bs L)[i]? = some (some v)) : L[i]? = some (some v) := by
  unfold ax_mask at hi
  rw [List.getElem?_zipWith] at hi
  split at hi
  · rename_i b o hb ho
    cases b with
    | false => cases hi
    | true => rw [ho]; exact hi
  · cases hi
theorem ax_fg {Y : ax_M} {d mc ms : Nat} {Fi : Option ax_V → ax_H → Prop} {pc : Nat} {L L1 : List (Option ax_V)} {S : List ax_V} {h : ax_H} {uc us : Nat} (bs : List Bool) (e1 : ax_mask bs L = L1) (k : ax_Z Y d mc ms Fi pc L1 S h uc us) : ax_Z Y d mc ms Fi pc L S h uc us := by
  subst e1
  intro p l e s m args below meth c G cs A ad0 h0 X H locs ls ad I
  exact k p l e s m args below meth c G cs A ad0 h0 X H locs ls ad ⟨I.1, I.2.1, ⟨I.2.2.1.1, I.2.2.1.2.1, fun i v hv => I.2.2.1.2.2 i v (ax_mask_at hv)⟩, I.2.2.2.1, I.2.2.2.2.1, fun i v hv => I.2.2.2.2.2.1 i v (ax_mask_at hv), I.2.2.2.2.2.2⟩
theorem nI_n9 {j : Nat} (h : j < 2 ^ 31) : ¬ nI j = -9 := by
  intro e
  have := nI_toInt h
  rw [e] at this
  have h2 : ((-9 : Int32)).toInt = -9 := by decide
  omega
theorem oI_n9 {o : Option Nat} (h : ∀ j, o = some j → j < 2 ^ 31) : oI o = -9 ↔ o = none := by
  cases o with
  | none => exact ⟨fun _ => rfl, fun _ => rfl⟩
  | some j => exact ⟨fun e => absurd e (nI_n9 (h j rfl)), fun e => by cases e⟩
theorem nI_or (a b : Nat) : nI a ||| nI b = nI (a ||| b) := by
  apply Int32.toBitVec_inj.mp
  rw [Int32.toBitVec_or]
  show BitVec.ofNat 32 a ||| BitVec.ofNat 32 b = BitVec.ofNat 32 (a ||| b)
  rw [BitVec.ofNat_or]
theorem nI_sh {k : Nat} (h : k < 6) : nI 1 <<< (nI k &&& 31) = nI (2 ^ k) := by
  match k, h with
  | 0, _ => decide
  | 1, _ => decide
  | 2, _ => decide
  | 3, _ => decide
  | 4, _ => decide
  | 5, _ => decide
/-- a number in a range, out of the two tests -/
theorem rf_in {n : Nat} (hn : n < 2 ^ 31) {x : Int32} : (decide (0 ≤ x) && decide (x ≤ nI n - 1)) = true ↔ ∃ j, j < n ∧ x = nI j := by
  simp only [Bool.and_eq_true, decide_eq_true_eq]
  constructor
  · rintro ⟨h1, h2⟩
    obtain ⟨j, hj, rfl⟩ := nI_of (Int32.not_lt.mpr h1)
    refine ⟨j, ?_, rfl⟩
    rcases Nat.eq_zero_or_pos n with e | e
    · subst e
      have e2 : nI 0 - 1 = -1 := by decide
      rw [e2, Int32.le_iff_toInt_le, nI_toInt hj] at h2
      have h3 : ((-1 : Int32)).toInt = -1 := by decide
      omega
    · have e2 : nI n - 1 = nI (n - 1) := pk_sub (b := 1) e
      rw [e2, nI_leI hj (by omega)] at h2
      omega
  · rintro ⟨j, hj, rfl⟩
    refine ⟨nI_pos' (by omega), ?_⟩
    have e2 : nI n - 1 = nI (n - 1) := pk_sub (b := 1) (by omega)
    rw [e2, nI_leI (by omega) (by omega)]
    omega
theorem rf_in5 {x : Int32} : (decide (0 ≤ x) && decide (x ≤ 5)) = true ↔ ∃ j, j < 6 ∧ x = nI j := by
  have := rf_in (n := 6) (by decide) (x := x)
  rwa [show nI 6 - 1 = 5 by decide] at this
theorem rf_in7 {x : Int32} : (decide (0 ≤ x) && decide (x ≤ 7)) = true ↔ ∃ j, j < 8 ∧ x = nI j := by
  have := rf_in (n := 8) (by decide) (x := x)
  rwa [show nI 8 - 1 = 7 by decide] at this
