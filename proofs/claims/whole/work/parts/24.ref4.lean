theorem ax_hq {Y : ax_M} {d mc ms : Nat} {Fi : Option ax_V → ax_H → Prop} {pc : Nat} {L : List (Option ax_V)} {S : List ax_V} {h h2 : ax_H} {uc us : Nat} (e : h = h2) (k : ax_Z Y d mc ms Fi pc L S h2 uc us) : ax_Z Y d mc ms Fi pc L S h uc us := by rw [e]; exact k
theorem rBk_mem {ρ : ax_R} {i : Nat} {q : Nat × Nat} (h : q ∈ rBk ρ i) : q.1 = i ∧ q.2 < ρ.1 5 (ρ.1 18 i) ∧ rO ρ (ρ.1 18 i) q.2 = true ∧ ρ.2.1 22 i = true := by
  unfold rBk at h
  split at h
  · rename_i hw
    obtain ⟨k, hk, rfl⟩ := List.mem_map.mp h
    obtain ⟨h1, h2⟩ := List.mem_filter.mp hk
    have h3 := (List.mem_range'_1.mp h1).2
    simp only [Bool.and_eq_true] at h2
    exact ⟨rfl, by simpa using h3, h2.2, hw⟩
  · cases h
theorem rB_at {ρ : ax_R} {t n : Nat} {q : Nat × Nat} (hw : rf_ok ρ) (ht : t < 60) (h : (rB ρ t)[n]? = some q) : q.1 < 480 ∧ q.2 < 6 := by
  obtain ⟨i, hi, hq⟩ := List.mem_flatMap.mp (List.mem_of_getElem? h)
  obtain ⟨e, h2, -, -⟩ := rBk_mem hq
  have h1 := List.mem_range'_1.mp hi
  have := rk_14 hw t
  have := rk_5 hw (ρ.1 18 i)
  exact ⟨by omega, by omega⟩
theorem rSk_ok {ρ : ax_R} {t n : Nat} (hw : rf_ok ρ) (ht : t < 60) : rf_ok (rSk ρ (rB ρ t)[n]?) := by
  cases h : (rB ρ t)[n]? with
  | none => exact hw
  | some q =>
    have := rB_at hw ht h
    exact rf_nu (rf_nu hw (by omega) (by exact trivial)) (by omega) (by exact trivial)
theorem rOvS_ok {ρ : ax_R} {t : Nat} (hw : rf_ok ρ) (ht : t < 60) : rf_ok (rOvS ρ t) := by
  unfold rOvS
  split
  · exact rSk_ok hw ht
  · exact hw
theorem rSk_1 {ρ : ax_R} {V : Option (Nat × Nat)} {k j : Nat} (h1 : k ≠ 28) (h2 : k ≠ 29) : (rSk ρ V).1 k j = ρ.1 k j := by
  cases V with
  | none => rfl
  | some q => simp [rSk, nu, h1, h2]
theorem rSk_2 {ρ : ax_R} {V : Option (Nat × Nat)} : (rSk ρ V).2 = ρ.2 := by
  cases V with
  | none => rfl
  | some q => rfl
theorem rOvS_1 {ρ : ax_R} {t k j : Nat} (h1 : k ≠ 28) (h2 : k ≠ 29) : (rOvS ρ t).1 k j = ρ.1 k j := by
  unfold rOvS
  split
  · exact rSk_1 h1 h2
  · rfl
theorem rOvS_2 {ρ : ax_R} {t : Nat} : (rOvS ρ t).2 = ρ.2 := by
  unfold rOvS
  split
  · exact rSk_2
  · rfl
theorem rOv_ph {ρ : ax_R} {t : Nat} (h : rOv ρ t = true) : 1 ≤ ρ.1 12 t ∧ ρ.1 12 t ≤ 6 := by
  unfold rOv at h
  split at h <;> first | (rename_i e; omega) | cases h
def rPh (p : Nat) (w : Bool) : Nat := if (p = 2 ∧ w = true) ∨ p = 5 then 7 else if p = 6 then 8 else p + 1
theorem rPh_in {p : Nat} {w : Bool} (h6 : p ≤ 6) : p + 1 ≤ rPh p w ∧ rPh p w ≤ 8 := by
  unfold rPh
  split
  · omega
  · split <;> omega
def rSt2 (ρ : ax_R) (t : Nat) : ax_R := if ρ.1 12 t = 1 then nu (nu (nu ρ 13 t 0) 17 0 (ρ.1 17 0 + 1)) 16 t (ρ.1 17 0 + 1) else nu ρ 13 t 0
def rSt1 (ρ : ax_R) (t : Nat) : ax_R := nu (rSt2 ρ t) 12 t (rPh (ρ.1 12 t) (decide (rW (rSt2 ρ t) t = 0)))
def rSt : Nat → ax_R → Nat → ax_R
  | 0, ρ, _ => ρ
  | n + 1, ρ, t => if rOv ρ t = true then rSt n (rSt1 (rOvS ρ t) t) t else rOvS ρ t
theorem rSt1_ph {ρ : ax_R} {t : Nat} (h6 : ρ.1 12 t ≤ 6) : ρ.1 12 t + 1 ≤ (rSt1 ρ t).1 12 t ∧ (rSt1 ρ t).1 12 t ≤ 8 := by
  have e : (rSt1 ρ t).1 12 t = rPh (ρ.1 12 t) (decide (rW (rSt2 ρ t) t = 0)) := by simp [rSt1, nu]
  rw [e]
  exact rPh_in h6
theorem rSt1_pl {ρ : ax_R} {t : Nat} : (rSt1 ρ t).1 17 0 = ρ.1 17 0 + (if ρ.1 12 t = 1 then 1 else 0) := by
  by_cases h : ρ.1 12 t = 1 <;> simp [rSt1, rSt2, nu, h]
theorem rSt2_ok {ρ : ax_R} {t : Nat} (hw : rf_ok ρ) (hp : ρ.1 17 0 + (if ρ.1 12 t = 1 then 1 else 0) < 1000000) : rf_ok (rSt2 ρ t) := by
  unfold rSt2
  split
  · rename_i h
    rw [if_pos h] at hp
    exact rf_nu (rf_nu (rf_nu hw (by omega) (by exact trivial)) hp (by exact trivial)) hp (by exact trivial)
  · exact rf_nu hw (by omega) (by exact trivial)
theorem rSt1_ok {ρ : ax_R} {t : Nat} (hw : rf_ok ρ) (h6 : ρ.1 12 t ≤ 6) (hp : ρ.1 17 0 + (if ρ.1 12 t = 1 then 1 else 0) < 1000000) : rf_ok (rSt1 ρ t) := by
  have := (rPh_in (p := ρ.1 12 t) (w := decide (rW (rSt2 ρ t) t = 0)) h6).2
  exact rf_nu (rSt2_ok hw hp) (by omega) (by exact trivial)
/-- a value comes to a place -/
def rG (ρ : ax_R) (i p : Nat) (b : Bool) : ax_R :=
  if b = true ∨ ρ.1 8 (8 * (6 * ρ.1 18 i + p) + ρ.1 19 i) ≤ ρ.1 21 i then nu (ru ρ 7 (8 * (6 * ρ.1 18 i + p) + ρ.1 19 i) (ρ.2.2 23 i)) 8 (8 * (6 * ρ.1 18 i + p) + ρ.1 19 i) (ρ.1 21 i + 1) else ρ
theorem nu_2 {ρ : ax_R} {k j v : Nat} : (nu ρ k j v).2 = ρ.2 := rfl
theorem ru_1 {ρ : ax_R} {k j : Nat} {v : Int32} : (ru ρ k j v).1 = ρ.1 := rfl
theorem bu_1 {ρ : ax_R} {k j : Nat} {v : Bool} : (bu ρ k j v).1 = ρ.1 := rfl
theorem ru_21 {ρ : ax_R} {k j : Nat} {v : Int32} : (ru ρ k j v).2.1 = ρ.2.1 := rfl
theorem bu_22 {ρ : ax_R} {k j : Nat} {v : Bool} : (bu ρ k j v).2.2 = ρ.2.2 := rfl
theorem nu_n {ρ : ax_R} {k j v a i : Nat} (h : a ≠ k) : (nu ρ k j v).1 a i = ρ.1 a i := by simp [nu, h]
theorem nu_s {ρ : ax_R} {k j v : Nat} : (nu ρ k j v).1 k j = v := by simp [nu]
/-- an object comes to a transaction -/
def rN (ρ : ax_R) (t r o p : Nat) : ax_R := nu (ru (nu (nu (nu ρ 14 t (ρ.1 14 t + 1)) 18 (8 * t + ρ.1 14 t) r) 19 (8 * t + ρ.1 14 t) o) 20 (8 * t + ρ.1 14 t) (ρ.2.2 7 (8 * (6 * r + p) + o))) 21 (8 * t + ρ.1 14 t) (ρ.1 8 (8 * (6 * r + p) + o))
/-- what a transaction reaches of an object -/
def rR (ρ : ax_R) (t r o : Nat) : Int32 × ax_R :=
  if ρ.1 12 t ≠ 0 then (-3, ρ) else if rM ρ r = 0 then (-5, ρ) else
  if ρ.2.1 0 (ρ.1 11 t) = false ∨ rU ρ r (((rL ρ r)[0]?).getD 0) = false ∨ (rIo ρ t r o = none ∧ ρ.2.2 9 (8 * r + o) ≠ -9) then (-6, ρ) else
  match rIo ρ t r o with
  | some j => (nI j, ρ)
  | none => if ρ.1 14 t = 8 then (-4, ρ) else (nI (8 * t + ρ.1 14 t), rN ρ t r o (((rL ρ r)[0]?).getD 0))
theorem rR_cases (ρ : ax_R) (t r o : Nat) : ((rR ρ t r o).1 < 0 ∧ (rR ρ t r o).2 = ρ) ∨ (∃ j, rIo ρ t r o = some j ∧ rR ρ t r o = (nI j, ρ)) ∨ (rIo ρ t r o = none ∧ ρ.1 14 t ≠ 8 ∧ rR ρ t r o = (nI (8 * t + ρ.1 14 t), rN ρ t r o (((rL ρ r)[0]?).getD 0))) := by
  by_cases h1 : ρ.1 12 t ≠ 0
  · left; rw [rR, if_pos h1]; exact ⟨by show (-3 : Int32) < 0; decide, rfl⟩
  · by_cases h2 : rM ρ r = 0
    · left; rw [rR, if_neg h1, if_pos h2]; exact ⟨by show (-5 : Int32) < 0; decide, rfl⟩
    · by_cases h3 : ρ.2.1 0 (ρ.1 11 t) = false ∨ rU ρ r (((rL ρ r)[0]?).getD 0) = false ∨ (rIo ρ t r o = none ∧ ρ.2.2 9 (8 * r + o) ≠ -9)
      · left; rw [rR, if_neg h1, if_neg h2, if_pos h3]; exact ⟨by show (-6 : Int32) < 0; decide, rfl⟩
      · have e : rR ρ t r o = (match rIo ρ t r o with
          | some j => (nI j, ρ)
          | none => if ρ.1 14 t = 8 then (-4, ρ) else (nI (8 * t + ρ.1 14 t), rN ρ t r o (((rL ρ r)[0]?).getD 0))) := by
          rw [rR, if_neg h1, if_neg h2, if_neg h3]
        cases hio : rIo ρ t r o with
        | some j =>
          rw [hio] at e
          exact Or.inr (Or.inl ⟨j, rfl, e⟩)
        | none =>
          rw [hio] at e
          by_cases h4 : ρ.1 14 t = 8
          · left
            rw [e]
            show (if ρ.1 14 t = 8 then ((-4 : Int32), ρ) else _).1 < 0 ∧ (if ρ.1 14 t = 8 then ((-4 : Int32), ρ) else _).2 = ρ
            rw [if_pos h4]
            exact ⟨by show (-4 : Int32) < 0; decide, rfl⟩
          · refine Or.inr (Or.inr ⟨rfl, h4, ?_⟩)
            rw [e]
            show (if ρ.1 14 t = 8 then ((-4 : Int32), ρ) else _) = _
            rw [if_neg h4]
section REFM
variable {c : ax_H} {ρ : ax_R}
theorem nu_17 {ρ : ax_R} {t : Nat} : (nu ρ 13 t 0).1 17 0 = ρ.1 17 0 := by simp [nu]
theorem nu_17b {ρ : ax_R} {v : Nat} : (nu ρ 17 0 v).1 17 0 = v := by simp [nu]
theorem rW_lt (ρ : ax_R) (t : Nat) (h : rf_ok ρ) : rW ρ t < 2 ^ 31 := by
  have h1 : rW ρ t ≤ (rI ρ t).length := List.countP_le_length
  rw [rI, List.length_range'] at h1
  have := rk_14 h t
  omega
theorem rW_le (ρ : ax_R) (t : Nat) : rW ρ t ≤ ρ.1 14 t := by
  have h1 : rW ρ t ≤ (rI ρ t).length := List.countP_le_length
  rwa [rI, List.length_range'] at h1
theorem lp_settle {t : Nat} (ht : t < 60) : ∀ (n : Nat) (ρ : ax_R), rf_ok ρ → ρ.1 17 0 + (if ρ.1 12 t = 1 then 1 else 0) < 1000000 → ρ.1 12 t ≤ 8 ∧ 8 - ρ.1 12 t < n → ax_Z mX4_settle 6 0 0 (ax_DV (fh c (rSt n ρ t))) 0 [some (ax_r (80, 0)), some (ax_i (nI t)), none] [] (fh c ρ) 0 0 := by
  intro n
  induction n with
  | zero => intro ρ hw hp hm; omega
  | succ n ih =>
    intro ρ hw hp hm
    have h12 : ρ.1 12 t < 2 ^ 31 := rk_N hw _ _
    refine ax_aload_n dX4_settle_0 rfl ?_
    refine ax_iload_n dX4_settle_1 rfl ?_
    refine ax_V1 cv_X4_186 dX4_settle_2 fh_M rfl (ok_isOver hw ht) (by decide) (Nat.le_refl _) (Nat.le_refl _) (Nat.le_of_ble_eq_true rfl) ?_
    refine ax_beq 93 dX4_settle_5 (by decide) (fun c5 => ?_) (fun c5 => ?_)
    · refine ax_vretD dX4_settle_93 rfl ⟨(Nat.le_refl _), (Nat.le_refl _)⟩ ?_
      rw [rSt, if_neg (by simp [c5])]
    · rw [rSt, if_pos c5]
      obtain ⟨hph1, hph6⟩ := rOv_ph c5
      have hw1 := rOvS_ok (ρ := ρ) hw ht
      have e12 : (rOvS ρ t).1 12 t = ρ.1 12 t := rOvS_1 (by decide) (by decide)
      have e17 : (rOvS ρ t).1 17 0 = ρ.1 17 0 := rOvS_1 (by decide) (by decide)
      generalize rOvS ρ t = ρ1 at hw1 e12 e17 ⊢
      have hp1 : ρ1.1 17 0 + (if ρ1.1 12 t = 1 then 1 else 0) < 1000000 := by rw [e12, e17]; exact hp
      have hwn := rSt1_ok hw1 (t := t) (by omega) hp1
      have hw2 := rSt2_ok hw1 (t := t) hp1
      have hphn := rSt1_ph (ρ := ρ1) (t := t) (by omega)
      have hpn : (rSt1 ρ1 t).1 17 0 + (if (rSt1 ρ1 t).1 12 t = 1 then 1 else 0) < 1000000 := by
        rw [rSt1_pl, if_neg (show ¬ (rSt1 ρ1 t).1 12 t = 1 by omega)]; exact hp1
      have hmn : (rSt1 ρ1 t).1 12 t ≤ 8 ∧ 8 - (rSt1 ρ1 t).1 12 t < n := by omega
      clear h12
      have h12 : ρ1.1 12 t < 2 ^ 31 := rk_N hw1 _ _
      refine ax_aload_n dX4_settle_8 rfl ?_
      refine rg_12 dX4_settle_9 ?_
      refine ax_iload_n dX4_settle_12 rfl ?_
      refine rl_12 dX4_settle_13 (by first | omega | exact rk_N hw1 _ _) ?_
      refine ax_istore_n dX4_settle_14 rfl (by decide) ?_
      refine ax_aload_n dX4_settle_15 rfl ?_
      refine rg_13 dX4_settle_16 ?_
      refine ax_iload_n dX4_settle_19 rfl ?_
      refine ax_iconst (nI 0) dX4_settle_20 (by decide) ?_
      refine rs_13 dX4_settle_21 (by first | omega | exact rk_N hw1 _ _) ?_
      refine ax_iload_n dX4_settle_22 rfl ?_
      refine ax_iconst (nI 1) dX4_settle_23 (by decide) ?_
      refine ax_nne 47 dX4_settle_24 (by decide) (by first | omega | exact rk_N hw1 _ _) (by first | omega | exact rk_N hw1 _ _) (fun c24 => ?_) (fun c24 => ?_)
      · refine ax_aload_n dX4_settle_47 rfl ?_
        refine rg_12 dX4_settle_48 ?_
        refine ax_iload_n dX4_settle_51 rfl ?_
        refine ax_iload_n dX4_settle_52 rfl ?_
        refine ax_iconst (nI 2) dX4_settle_53 (by decide) ?_
        refine ax_nne 65 dX4_settle_54 (by decide) (by first | omega | exact rk_N hw1 _ _) (by first | omega | exact rk_N hw1 _ _) (fun c54 => ?_) (fun c54 => ?_)
        · refine ax_iload_n dX4_settle_65 rfl ?_
          refine ax_iconst (nI 5) dX4_settle_66 (by decide) ?_
          refine ax_nne 75 dX4_settle_67 (by decide) (by first | omega | exact rk_N hw1 _ _) (by first | omega | exact rk_N hw1 _ _) (fun c67 => ?_) (fun c67 => ?_)
          · refine ax_iload_n dX4_settle_75 rfl ?_
            refine ax_bipush (nI 6) dX4_settle_76 (by decide) ?_
            refine ax_nne 86 dX4_settle_78 (by decide) (by first | omega | exact rk_N hw1 _ _) (by first | omega | exact rk_N hw1 _ _) (fun c78 => ?_) (fun c78 => ?_)
            · refine ax_iload_n dX4_settle_86 rfl ?_
              refine ax_iconst (nI 1) dX4_settle_87 (by decide) ?_
              refine ax_iaddn dX4_settle_88 ?_
              refine rs_12 dX4_settle_89 (by first | omega | exact rk_N hw1 _ _) ?_
              refine ax_goto 0 dX4_settle_90 (by decide) ?_
              refine ax_fg [true, true, false] rfl ?_
              refine ax_hq (h2 := fh c (rSt1 ρ1 t)) (congrArg (fh c) (by first | omega | (simp [rSt1, rSt2, rPh, nu_17, nu_17b, c5, c24, c54, c67, c78]; done))) ?_
              exact ih (rSt1 ρ1 t) hwn hpn hmn
            · refine ax_bipush (nI 8) dX4_settle_81 (by decide) ?_
              refine ax_goto 89 dX4_settle_83 (by decide) ?_
              refine rs_12 dX4_settle_89 (by first | omega | exact rk_N hw1 _ _) ?_
              refine ax_goto 0 dX4_settle_90 (by decide) ?_
              refine ax_fg [true, true, false] rfl ?_
              refine ax_hq (h2 := fh c (rSt1 ρ1 t)) (congrArg (fh c) (by first | omega | (simp [rSt1, rSt2, rPh, nu_17, nu_17b, c5, c24, c54, c67, c78]; done))) ?_
              exact ih (rSt1 ρ1 t) hwn hpn hmn
          · refine ax_bipush (nI 7) dX4_settle_70 (by decide) ?_
            refine ax_goto 89 dX4_settle_72 (by decide) ?_
            refine rs_12 dX4_settle_89 (by first | omega | exact rk_N hw1 _ _) ?_
            refine ax_goto 0 dX4_settle_90 (by decide) ?_
            refine ax_fg [true, true, false] rfl ?_
            refine ax_hq (h2 := fh c (rSt1 ρ1 t)) (congrArg (fh c) (by first | omega | (simp [rSt1, rSt2, rPh, nu_17, nu_17b, c5, c24, c54, c67]; done))) ?_
            exact ih (rSt1 ρ1 t) hwn hpn hmn
        · refine ax_aload_n dX4_settle_57 rfl ?_
          refine ax_iload_n dX4_settle_58 rfl ?_
          refine ax_V1 cv_X4_161 dX4_settle_59 fh_M rfl (ok_writes (by first | exact (by simpa [rSt2, nu_17, nu_17b, c24] using hw2)) ht) (by decide) (Nat.le_refl _) (Nat.le_refl _) (Nat.le_of_ble_eq_true rfl) ?_
          refine ax_zeq 70 dX4_settle_62 (by decide) (by refine Nat.lt_of_le_of_lt (rW_le _ _) ?_; have := rk_14 hw1 t; simp only [nu]; simp; omega) (fun c62 => ?_) (fun c62 => ?_)
          · refine ax_bipush (nI 7) dX4_settle_70 (by decide) ?_
            refine ax_goto 89 dX4_settle_72 (by decide) ?_
            refine rs_12 dX4_settle_89 (by first | omega | exact rk_N hw1 _ _) ?_
            refine ax_goto 0 dX4_settle_90 (by decide) ?_
            refine ax_fg [true, true, false] rfl ?_
            refine ax_hq (h2 := fh c (rSt1 ρ1 t)) (congrArg (fh c) (by first | omega | (simp [rSt1, rSt2, rPh, nu_17, nu_17b, c5, c24, c54, c62]; done))) ?_
            exact ih (rSt1 ρ1 t) hwn hpn hmn
          · refine ax_iload_n dX4_settle_65 rfl ?_
            refine ax_iconst (nI 5) dX4_settle_66 (by decide) ?_
            refine ax_nne 75 dX4_settle_67 (by decide) (by first | omega | exact rk_N hw1 _ _) (by first | omega | exact rk_N hw1 _ _) (fun c67 => ?_) (fun c67 => ?_)
            · refine ax_iload_n dX4_settle_75 rfl ?_
              refine ax_bipush (nI 6) dX4_settle_76 (by decide) ?_
              refine ax_nne 86 dX4_settle_78 (by decide) (by first | omega | exact rk_N hw1 _ _) (by first | omega | exact rk_N hw1 _ _) (fun c78 => ?_) (fun c78 => ?_)
              · refine ax_iload_n dX4_settle_86 rfl ?_
                refine ax_iconst (nI 1) dX4_settle_87 (by decide) ?_
                refine ax_iaddn dX4_settle_88 ?_
                refine rs_12 dX4_settle_89 (by first | omega | exact rk_N hw1 _ _) ?_
                refine ax_goto 0 dX4_settle_90 (by decide) ?_
                refine ax_fg [true, true, false] rfl ?_
                refine ax_hq (h2 := fh c (rSt1 ρ1 t)) (congrArg (fh c) (by first | omega | (simp [rSt1, rSt2, rPh, nu_17, nu_17b, c5, c24, c54, c62, c67, c78]; done))) ?_
                exact ih (rSt1 ρ1 t) hwn hpn hmn
              · refine ax_bipush (nI 8) dX4_settle_81 (by decide) ?_
                refine ax_goto 89 dX4_settle_83 (by decide) ?_
                refine rs_12 dX4_settle_89 (by first | omega | exact rk_N hw1 _ _) ?_
                refine ax_goto 0 dX4_settle_90 (by decide) ?_
                refine ax_fg [true, true, false] rfl ?_
                refine ax_hq (h2 := fh c (rSt1 ρ1 t)) (congrArg (fh c) (by first | omega | (simp [rSt1, rSt2, rPh, nu_17, nu_17b, c5, c24, c54, c62, c67, c78]; done))) ?_
                exact ih (rSt1 ρ1 t) hwn hpn hmn
            · refine ax_bipush (nI 7) dX4_settle_70 (by decide) ?_
              refine ax_goto 89 dX4_settle_72 (by decide) ?_
              refine rs_12 dX4_settle_89 (by first | omega | exact rk_N hw1 _ _) ?_
              refine ax_goto 0 dX4_settle_90 (by decide) ?_
              refine ax_fg [true, true, false] rfl ?_
              refine ax_hq (h2 := fh c (rSt1 ρ1 t)) (congrArg (fh c) (by first | omega | (simp [rSt1, rSt2, rPh, nu_17, nu_17b, c5, c24, c54, c62, c67]; done))) ?_
              exact ih (rSt1 ρ1 t) hwn hpn hmn
      · refine ax_aload_n dX4_settle_27 rfl ?_
        refine ax_dup dX4_settle_28 rfl ?_
        refine rg_17 dX4_settle_29 ?_
        refine ax_iconst (nI 1) dX4_settle_32 (by decide) ?_
        refine ax_iaddn dX4_settle_33 ?_
        refine rp_17 dX4_settle_34 ?_
        refine ax_aload_n dX4_settle_37 rfl ?_
        refine rg_16 dX4_settle_38 ?_
        refine ax_iload_n dX4_settle_41 rfl ?_
        refine ax_aload_n dX4_settle_42 rfl ?_
        refine rg_17 dX4_settle_43 ?_
        refine rs_16 dX4_settle_46 (by first | omega | exact rk_N hw1 _ _) ?_
        refine ax_aload_n dX4_settle_47 rfl ?_
        refine rg_12 dX4_settle_48 ?_
        refine ax_iload_n dX4_settle_51 rfl ?_
        refine ax_iload_n dX4_settle_52 rfl ?_
        refine ax_iconst (nI 2) dX4_settle_53 (by decide) ?_
        refine ax_nne 65 dX4_settle_54 (by decide) (by first | omega | exact rk_N hw1 _ _) (by first | omega | exact rk_N hw1 _ _) (fun c54 => ?_) (fun c54 => ?_)
        · refine ax_iload_n dX4_settle_65 rfl ?_
          refine ax_iconst (nI 5) dX4_settle_66 (by decide) ?_
          refine ax_nne 75 dX4_settle_67 (by decide) (by first | omega | exact rk_N hw1 _ _) (by first | omega | exact rk_N hw1 _ _) (fun c67 => ?_) (fun c67 => ?_)
          · refine ax_iload_n dX4_settle_75 rfl ?_
            refine ax_bipush (nI 6) dX4_settle_76 (by decide) ?_
            refine ax_nne 86 dX4_settle_78 (by decide) (by first | omega | exact rk_N hw1 _ _) (by first | omega | exact rk_N hw1 _ _) (fun c78 => ?_) (fun c78 => ?_)
            · refine ax_iload_n dX4_settle_86 rfl ?_
              refine ax_iconst (nI 1) dX4_settle_87 (by decide) ?_
              refine ax_iaddn dX4_settle_88 ?_
              refine rs_12 dX4_settle_89 (by first | omega | exact rk_N hw1 _ _) ?_
              refine ax_goto 0 dX4_settle_90 (by decide) ?_
              refine ax_fg [true, true, false] rfl ?_
              refine ax_hq (h2 := fh c (rSt1 ρ1 t)) (congrArg (fh c) (by first | omega | (simp [rSt1, rSt2, rPh, nu_17, nu_17b, c5, c24, c54, c67, c78]; done))) ?_
              exact ih (rSt1 ρ1 t) hwn hpn hmn
            · refine ax_bipush (nI 8) dX4_settle_81 (by decide) ?_
              refine ax_goto 89 dX4_settle_83 (by decide) ?_
              refine rs_12 dX4_settle_89 (by first | omega | exact rk_N hw1 _ _) ?_
              refine ax_goto 0 dX4_settle_90 (by decide) ?_
              refine ax_fg [true, true, false] rfl ?_
              refine ax_hq (h2 := fh c (rSt1 ρ1 t)) (congrArg (fh c) (by first | omega | (simp [rSt1, rSt2, rPh, nu_17, nu_17b, c5, c24, c54, c67, c78]; done))) ?_
              exact ih (rSt1 ρ1 t) hwn hpn hmn
          · refine ax_bipush (nI 7) dX4_settle_70 (by decide) ?_
            refine ax_goto 89 dX4_settle_72 (by decide) ?_
            refine rs_12 dX4_settle_89 (by first | omega | exact rk_N hw1 _ _) ?_
            refine ax_goto 0 dX4_settle_90 (by decide) ?_
            refine ax_fg [true, true, false] rfl ?_
            refine ax_hq (h2 := fh c (rSt1 ρ1 t)) (congrArg (fh c) (by first | omega | (simp [rSt1, rSt2, rPh, nu_17, nu_17b, c5, c24, c54, c67]; done))) ?_
            exact ih (rSt1 ρ1 t) hwn hpn hmn
        · refine ax_aload_n dX4_settle_57 rfl ?_
          refine ax_iload_n dX4_settle_58 rfl ?_
          refine ax_V1 cv_X4_161 dX4_settle_59 fh_M rfl (ok_writes (by first | exact (by simpa [rSt2, nu_17, nu_17b, c24] using hw2)) ht) (by decide) (Nat.le_refl _) (Nat.le_refl _) (Nat.le_of_ble_eq_true rfl) ?_
          refine ax_zeq 70 dX4_settle_62 (by decide) (by refine Nat.lt_of_le_of_lt (rW_le _ _) ?_; have := rk_14 hw1 t; simp only [nu]; simp; omega) (fun c62 => ?_) (fun c62 => ?_)
          · refine ax_bipush (nI 7) dX4_settle_70 (by decide) ?_
            refine ax_goto 89 dX4_settle_72 (by decide) ?_
            refine rs_12 dX4_settle_89 (by first | omega | exact rk_N hw1 _ _) ?_
            refine ax_goto 0 dX4_settle_90 (by decide) ?_
            refine ax_fg [true, true, false] rfl ?_
            refine ax_hq (h2 := fh c (rSt1 ρ1 t)) (congrArg (fh c) (by first | omega | (simp [rSt1, rSt2, rPh, nu_17, nu_17b, c5, c24, c54, c62]; done))) ?_
            exact ih (rSt1 ρ1 t) hwn hpn hmn
          · refine ax_iload_n dX4_settle_65 rfl ?_
            refine ax_iconst (nI 5) dX4_settle_66 (by decide) ?_
            refine ax_nne 75 dX4_settle_67 (by decide) (by first | omega | exact rk_N hw1 _ _) (by first | omega | exact rk_N hw1 _ _) (fun c67 => ?_) (fun c67 => ?_)
            · refine ax_iload_n dX4_settle_75 rfl ?_
              refine ax_bipush (nI 6) dX4_settle_76 (by decide) ?_
              refine ax_nne 86 dX4_settle_78 (by decide) (by first | omega | exact rk_N hw1 _ _) (by first | omega | exact rk_N hw1 _ _) (fun c78 => ?_) (fun c78 => ?_)
              · refine ax_iload_n dX4_settle_86 rfl ?_
                refine ax_iconst (nI 1) dX4_settle_87 (by decide) ?_
                refine ax_iaddn dX4_settle_88 ?_
                refine rs_12 dX4_settle_89 (by first | omega | exact rk_N hw1 _ _) ?_
                refine ax_goto 0 dX4_settle_90 (by decide) ?_
                refine ax_fg [true, true, false] rfl ?_
                refine ax_hq (h2 := fh c (rSt1 ρ1 t)) (congrArg (fh c) (by first | omega | (simp [rSt1, rSt2, rPh, nu_17, nu_17b, c5, c24, c54, c62, c67, c78]; done))) ?_
                exact ih (rSt1 ρ1 t) hwn hpn hmn
              · refine ax_bipush (nI 8) dX4_settle_81 (by decide) ?_
                refine ax_goto 89 dX4_settle_83 (by decide) ?_
                refine rs_12 dX4_settle_89 (by first | omega | exact rk_N hw1 _ _) ?_
                refine ax_goto 0 dX4_settle_90 (by decide) ?_
                refine ax_fg [true, true, false] rfl ?_
                refine ax_hq (h2 := fh c (rSt1 ρ1 t)) (congrArg (fh c) (by first | omega | (simp [rSt1, rSt2, rPh, nu_17, nu_17b, c5, c24, c54, c62, c67, c78]; done))) ?_
                exact ih (rSt1 ρ1 t) hwn hpn hmn
            · refine ax_bipush (nI 7) dX4_settle_70 (by decide) ?_
              refine ax_goto 89 dX4_settle_72 (by decide) ?_
              refine rs_12 dX4_settle_89 (by first | omega | exact rk_N hw1 _ _) ?_
              refine ax_goto 0 dX4_settle_90 (by decide) ?_
              refine ax_fg [true, true, false] rfl ?_
              refine ax_hq (h2 := fh c (rSt1 ρ1 t)) (congrArg (fh c) (by first | omega | (simp [rSt1, rSt2, rPh, nu_17, nu_17b, c5, c24, c54, c62, c67]; done))) ?_
              exact ih (rSt1 ρ1 t) hwn hpn hmn
theorem ok_settle (hw : rf_ok ρ) {t : Nat} (ht : t < 60) (hp : ρ.1 17 0 + 1 < 1000000) (h8 : ρ.1 12 t ≤ 8) : ax_Ok mX4_settle yX4_settle 6 0 0 [ax_r (80, 0), ax_i (nI t)] (fh c ρ) (ax_DV (fh c (rSt 9 ρ t))) := by
  refine ax_Ok.of (by decide) rfl (fun q => by cases q) (Nat.le_of_ble_eq_true rfl) rfl ?_
  exact lp_settle ht 9 ρ hw (by split <;> omega) (by omega)
theorem ok_give (hw : rf_ok ρ) {i p : Nat} {b : Bool} (hi : i < 480) (hp : p < 6) : ax_Ok mX4_give yX4_give 1 0 0 [ax_r (80, 0), ax_i (nI i), ax_i (nI p), ax_i (ax_b b)] (fh c ρ) (ax_DV (fh c (rG ρ i p b))) := by
  refine ax_Ok.of (by decide) rfl (fun q => by cases q) (Nat.le_of_ble_eq_true rfl) rfl ?_
  have h18 := rk_18 hw i
  have h19 := rk_19 hw i
  refine ax_bipush (nI 8) dX4_give_0 (by decide) ?_
  refine ax_bipush (nI 6) dX4_give_2 (by decide) ?_
  refine ax_aload_n dX4_give_4 rfl ?_
  refine rg_18 dX4_give_5 ?_
  refine ax_iload_n dX4_give_8 rfl ?_
  refine rl_18 dX4_give_9 (by first | omega | exact rk_N hw _ _) ?_
  refine ax_imuln dX4_give_10 ?_
  refine ax_iload_n dX4_give_11 rfl ?_
  refine ax_iaddn dX4_give_12 ?_
  refine ax_imuln dX4_give_13 ?_
  refine ax_aload_n dX4_give_14 rfl ?_
  refine rg_19 dX4_give_15 ?_
  refine ax_iload_n dX4_give_18 rfl ?_
  refine rl_19 dX4_give_19 (by first | omega | exact rk_N hw _ _) ?_
  refine ax_iaddn dX4_give_20 ?_
  refine ax_istore dX4_give_21 rfl (by decide) ?_
  refine ax_iload_n dX4_give_23 rfl ?_
  refine ax_bne 43 dX4_give_24 (by decide) (fun c24 => ?_) (fun c24 => ?_)
  · refine ax_aload_n dX4_give_43 rfl ?_
    refine rg_7 dX4_give_44 ?_
    refine ax_iload dX4_give_47 rfl ?_
    refine ax_aload_n dX4_give_49 rfl ?_
    refine rg_23 dX4_give_50 ?_
    refine ax_iload_n dX4_give_53 rfl ?_
    refine rl_23 dX4_give_54 (by first | omega | exact rk_N hw _ _) ?_
    refine rs_7 dX4_give_55 (by first | omega | exact rk_N hw _ _) ?_
    refine ax_aload_n dX4_give_56 rfl ?_
    refine rg_8 dX4_give_57 ?_
    refine ax_iload dX4_give_60 rfl ?_
    refine ax_aload_n dX4_give_62 rfl ?_
    refine rg_21 dX4_give_63 ?_
    refine ax_iload_n dX4_give_66 rfl ?_
    refine rl_21 dX4_give_67 (by first | omega | exact rk_N hw _ _) ?_
    refine ax_iconst (nI 1) dX4_give_68 (by decide) ?_
    refine ax_iaddn dX4_give_69 ?_
    refine rs_8 dX4_give_70 (by first | omega | exact rk_N hw _ _) ?_
    refine ax_vretD dX4_give_71 rfl ⟨(Nat.le_refl _), (Nat.le_refl _)⟩ ?_
    first | (simp [rG, c24]; done) | (simp [rG, c24]; rfl)
  · refine ax_aload_n dX4_give_27 rfl ?_
    refine rg_8 dX4_give_28 ?_
    refine ax_iload dX4_give_31 rfl ?_
    refine rl_8 dX4_give_33 (by first | omega | exact rk_N hw _ _) ?_
    refine ax_aload_n dX4_give_34 rfl ?_
    refine rg_21 dX4_give_35 ?_
    refine ax_iload_n dX4_give_38 rfl ?_
    refine rl_21 dX4_give_39 (by first | omega | exact rk_N hw _ _) ?_
    refine ax_ngt 71 dX4_give_40 (by decide) (by first | omega | exact rk_N hw _ _) (by first | omega | exact rk_N hw _ _) (fun c40 => ?_) (fun c40 => ?_)
    · refine ax_vretD dX4_give_71 rfl ⟨(Nat.le_refl _), (Nat.le_refl _)⟩ ?_
      first | (simp [rG, c24, c40, Nat.not_le.mpr c40]; done) | (simp [rG, c24, c40, Nat.not_le.mpr c40]; rfl)
    · refine ax_aload_n dX4_give_43 rfl ?_
      refine rg_7 dX4_give_44 ?_
      refine ax_iload dX4_give_47 rfl ?_
      refine ax_aload_n dX4_give_49 rfl ?_
      refine rg_23 dX4_give_50 ?_
      refine ax_iload_n dX4_give_53 rfl ?_
      refine rl_23 dX4_give_54 (by first | omega | exact rk_N hw _ _) ?_
      refine rs_7 dX4_give_55 (by first | omega | exact rk_N hw _ _) ?_
      refine ax_aload_n dX4_give_56 rfl ?_
      refine rg_8 dX4_give_57 ?_
      refine ax_iload dX4_give_60 rfl ?_
      refine ax_aload_n dX4_give_62 rfl ?_
      refine rg_21 dX4_give_63 ?_
      refine ax_iload_n dX4_give_66 rfl ?_
      refine rl_21 dX4_give_67 (by first | omega | exact rk_N hw _ _) ?_
      refine ax_iconst (nI 1) dX4_give_68 (by decide) ?_
      refine ax_iaddn dX4_give_69 ?_
      refine rs_8 dX4_give_70 (by first | omega | exact rk_N hw _ _) ?_
      refine ax_vretD dX4_give_71 rfl ⟨(Nat.le_refl _), (Nat.le_refl _)⟩ ?_
      first | (simp [rG, c24, c40, Nat.not_lt.mpr c40]; done) | (simp [rG, c24, c40, Nat.not_lt.mpr c40]; rfl)
theorem ok_reach (hw : rf_ok ρ) {t r o : Nat} (ht : t < 60) (hr : r < 6) (ho : o < 8) : ax_Ok mX4_reach yX4_reach 4 0 0 [ax_r (80, 0), ax_i (nI t), ax_i (nI r), ax_i (nI o)] (fh c ρ) (ax_D (ax_i (rR ρ t r o).1) (fh c (rR ρ t r o).2)) := by
  refine ax_Ok.of (by decide) rfl (fun q => by cases q) (Nat.le_of_ble_eq_true rfl) rfl ?_
  have h14 := rk_14 hw t
  have h12 := rk_N hw 12 t
  cases hio : rIo ρ t r o with
  | none =>
    refine ax_aload_n dX4_reach_0 rfl ?_
    refine rg_12 dX4_reach_1 ?_
    refine ax_iload_n dX4_reach_4 rfl ?_
    refine rl_12 dX4_reach_5 (by first | omega | exact rk_11 hw _ | exact rk_N hw _ _) ?_
    refine ax_zeq 12 dX4_reach_6 (by decide) (by first | omega | exact rk_11 hw _ | exact rk_N hw _ _) (fun c6 => ?_) (fun c6 => ?_)
    · refine ax_aload_n dX4_reach_12 rfl ?_
      refine ax_iload_n dX4_reach_13 rfl ?_
      refine ax_V1 cv_X4_121 dX4_reach_14 fh_M rfl (ok_isLost hw (by first | omega | exact rk_6 hw _ | exact rk_11 hw _ | exact rk_18 hw _ | exact rk_19 hw _ | exact rk_27 hw _ | exact rk_N hw _ _)) (by decide) (Nat.le_refl _) (Nat.le_refl _) (Nat.le_of_ble_eq_true rfl) ?_
      refine ax_beq 23 dX4_reach_17 (by decide) (fun c17 => ?_) (fun c17 => ?_)
      · have c17x : ¬ rM ρ r = 0 := by simpa using c17
        refine ax_aload_n dX4_reach_23 rfl ?_
        refine ax_iload_n dX4_reach_24 rfl ?_
        refine ax_V1 cv_X4_124 dX4_reach_25 fh_M rfl (ok_primary hw (by first | omega | exact rk_6 hw _ | exact rk_11 hw _ | exact rk_18 hw _ | exact rk_19 hw _ | exact rk_27 hw _ | exact rk_N hw _ _)) (by decide) (Nat.le_refl _) (Nat.le_refl _) (Nat.le_of_ble_eq_true rfl) ?_
        obtain ⟨p, hp, hp5, hpo⟩ := rL_some c17x
        have h5 := rk_5 hw r
        rw [hp, show oI (some p) = nI p from rfl]
        refine ax_istore dX4_reach_28 rfl (by decide) ?_
        refine ax_aload_n dX4_reach_30 rfl ?_
        refine ax_iload_n dX4_reach_31 rfl ?_
        refine ax_iload_n dX4_reach_32 rfl ?_
        refine ax_iload_n dX4_reach_33 rfl ?_
        refine ax_V3 cv_X4_139 dX4_reach_34 fh_M rfl (ok_itemOf hw (by first | omega | exact rk_6 hw _ | exact rk_11 hw _ | exact rk_18 hw _ | exact rk_19 hw _ | exact rk_27 hw _ | exact rk_N hw _ _) (by first | omega | exact rk_6 hw _ | exact rk_11 hw _ | exact rk_18 hw _ | exact rk_19 hw _ | exact rk_27 hw _ | exact rk_N hw _ _) (by first | omega | exact rk_6 hw _ | exact rk_11 hw _ | exact rk_18 hw _ | exact rk_19 hw _ | exact rk_27 hw _ | exact rk_N hw _ _)) (by decide) (Nat.le_refl _) (Nat.le_refl _) (Nat.le_of_ble_eq_true rfl) ?_
        rw [hio]
        refine ax_istore dX4_reach_37 rfl (by decide) ?_
        refine ax_aload_n dX4_reach_39 rfl ?_
        refine rg_0 dX4_reach_40 ?_
        refine ax_aload_n dX4_reach_43 rfl ?_
        refine rg_11 dX4_reach_44 ?_
        refine ax_iload_n dX4_reach_47 rfl ?_
        refine rl_11 dX4_reach_48 (by first | omega | exact rk_11 hw _ | exact rk_N hw _ _) ?_
        refine rl_0 dX4_reach_49 (by first | omega | exact rk_11 hw _ | exact rk_N hw _ _) ?_
        refine ax_beq 86 dX4_reach_50 (by decide) (fun c50 => ?_) (fun c50 => ?_)
        · refine ax_bipush (-6) dX4_reach_86 (by decide) ?_
          refine ax_iretD dX4_reach_88 rfl ⟨(Nat.le_refl _), (Nat.le_refl _)⟩ ?_ ?_
          · first | (simp [rR, rN, nu_2, ru_1, nu_n, hio, c6, c17, c50]; done) | (simp [rR, rN, nu_2, ru_1, nu_n, hio, c17x, c6, c17, c50]; done) | (simp [rR, rN, nu_2, ru_1, nu_n, hio, hp, c17x, c6, c17, c50]; done)
          · first | (simp [rR, rN, nu_2, ru_1, nu_n, hio, c6, c17, c50]; done) | (simp [rR, rN, nu_2, ru_1, nu_n, hio, c17x, c6, c17, c50]; done) | (simp [rR, rN, nu_2, ru_1, nu_n, hio, hp, c17x, c6, c17, c50]; done)
        · refine ax_aload_n dX4_reach_53 rfl ?_
          refine ax_iload_n dX4_reach_54 rfl ?_
          refine ax_iload dX4_reach_55 rfl ?_
          refine ax_V2 cv_X4_127 dX4_reach_57 fh_M rfl (ok_isUpAt hw (by first | omega | exact rk_6 hw _ | exact rk_11 hw _ | exact rk_18 hw _ | exact rk_19 hw _ | exact rk_27 hw _ | exact rk_N hw _ _) (by first | omega | exact rk_6 hw _ | exact rk_11 hw _ | exact rk_18 hw _ | exact rk_19 hw _ | exact rk_27 hw _ | exact rk_N hw _ _)) (by decide) (Nat.le_refl _) (Nat.le_refl _) (Nat.le_of_ble_eq_true rfl) ?_
          refine ax_beq 86 dX4_reach_60 (by decide) (fun c60 => ?_) (fun c60 => ?_)
          · refine ax_bipush (-6) dX4_reach_86 (by decide) ?_
            refine ax_iretD dX4_reach_88 rfl ⟨(Nat.le_refl _), (Nat.le_refl _)⟩ ?_ ?_
            · first | (simp [rR, rN, nu_2, ru_1, nu_n, hio, c6, c17, c50, c60]; done) | (simp [rR, rN, nu_2, ru_1, nu_n, hio, c17x, c6, c17, c50, c60]; done) | (simp [rR, rN, nu_2, ru_1, nu_n, hio, hp, c17x, c6, c17, c50, c60]; done)
            · first | (simp [rR, rN, nu_2, ru_1, nu_n, hio, c6, c17, c50, c60]; done) | (simp [rR, rN, nu_2, ru_1, nu_n, hio, c17x, c6, c17, c50, c60]; done) | (simp [rR, rN, nu_2, ru_1, nu_n, hio, hp, c17x, c6, c17, c50, c60]; done)
          · refine ax_iload dX4_reach_63 rfl ?_
            refine ax_bipush (-9) dX4_reach_65 (by decide) ?_
            refine ax_icmp_ne 89 dX4_reach_67 (by decide) (fun c67 => absurd c67 (fun z => z rfl)) (fun c67 => ?_)
            refine ax_aload_n dX4_reach_70 rfl ?_
            refine rg_9 dX4_reach_71 ?_
            refine ax_bipush (nI 8) dX4_reach_74 (by decide) ?_
            refine ax_iload_n dX4_reach_76 rfl ?_
            refine ax_imuln dX4_reach_77 ?_
            refine ax_iload_n dX4_reach_78 rfl ?_
            refine ax_iaddn dX4_reach_79 ?_
            refine rl_9 dX4_reach_80 (by first | omega | exact rk_11 hw _ | exact rk_N hw _ _) ?_
            refine ax_bipush (-9) dX4_reach_81 (by decide) ?_
            refine ax_icmp_eq 89 dX4_reach_83 (by decide) (fun c83 => ?_) (fun c83 => ?_)
            · refine ax_iload dX4_reach_89 rfl ?_
              refine ax_bipush (-9) dX4_reach_91 (by decide) ?_
              refine ax_icmp_eq 99 dX4_reach_93 (by decide) (fun c93 => ?_) (fun c93 => absurd c93 (fun z => z rfl))
              refine ax_aload_n dX4_reach_99 rfl ?_
              refine rg_14 dX4_reach_100 ?_
              refine ax_iload_n dX4_reach_103 rfl ?_
              refine rl_14 dX4_reach_104 (by first | omega | exact rk_11 hw _ | exact rk_N hw _ _) ?_
              refine ax_bipush (nI 8) dX4_reach_105 (by decide) ?_
              refine ax_nne 113 dX4_reach_107 (by decide) (by first | omega | exact rk_11 hw _ | exact rk_N hw _ _) (by first | omega | exact rk_11 hw _ | exact rk_N hw _ _) (fun c107 => ?_) (fun c107 => ?_)
              · refine ax_bipush (nI 8) dX4_reach_113 (by decide) ?_
                refine ax_iload_n dX4_reach_115 rfl ?_
                refine ax_imuln dX4_reach_116 ?_
                refine ax_aload_n dX4_reach_117 rfl ?_
                refine rg_14 dX4_reach_118 ?_
                refine ax_iload_n dX4_reach_121 rfl ?_
                refine rl_14 dX4_reach_122 (by first | omega | exact rk_11 hw _ | exact rk_N hw _ _) ?_
                refine ax_iaddn dX4_reach_123 ?_
                refine ax_istore dX4_reach_124 rfl (by decide) ?_
                refine ax_aload_n dX4_reach_126 rfl ?_
                refine rg_14 dX4_reach_127 ?_
                refine ax_iload_n dX4_reach_130 rfl ?_
                refine ax_dup2 dX4_reach_131 rfl rfl ?_
                refine rl_14 dX4_reach_132 (by first | omega | exact rk_11 hw _ | exact rk_N hw _ _) ?_
                refine ax_iconst (nI 1) dX4_reach_133 (by decide) ?_
                refine ax_iaddn dX4_reach_134 ?_
                refine rs_14 dX4_reach_135 (by first | omega | exact rk_11 hw _ | exact rk_N hw _ _) ?_
                refine ax_aload_n dX4_reach_136 rfl ?_
                refine rg_18 dX4_reach_137 ?_
                refine ax_iload dX4_reach_140 rfl ?_
                refine ax_iload_n dX4_reach_142 rfl ?_
                refine rs_18 dX4_reach_143 (by first | omega | exact rk_11 hw _ | exact rk_N hw _ _) ?_
                refine ax_aload_n dX4_reach_144 rfl ?_
                refine rg_19 dX4_reach_145 ?_
                refine ax_iload dX4_reach_148 rfl ?_
                refine ax_iload_n dX4_reach_150 rfl ?_
                refine rs_19 dX4_reach_151 (by first | omega | exact rk_11 hw _ | exact rk_N hw _ _) ?_
                refine ax_aload_n dX4_reach_152 rfl ?_
                refine rg_20 dX4_reach_153 ?_
                refine ax_iload dX4_reach_156 rfl ?_
                refine ax_aload_n dX4_reach_158 rfl ?_
                refine rg_7 dX4_reach_159 ?_
                refine ax_bipush (nI 8) dX4_reach_162 (by decide) ?_
                refine ax_bipush (nI 6) dX4_reach_164 (by decide) ?_
                refine ax_iload_n dX4_reach_166 rfl ?_
                refine ax_imuln dX4_reach_167 ?_
                refine ax_iload dX4_reach_168 rfl ?_
                refine ax_iaddn dX4_reach_170 ?_
                refine ax_imuln dX4_reach_171 ?_
                refine ax_iload_n dX4_reach_172 rfl ?_
                refine ax_iaddn dX4_reach_173 ?_
                refine rl_7 dX4_reach_174 (by first | omega | exact rk_11 hw _ | exact rk_N hw _ _) ?_
                refine rs_20 dX4_reach_175 (by first | omega | exact rk_11 hw _ | exact rk_N hw _ _) ?_
                refine ax_aload_n dX4_reach_176 rfl ?_
                refine rg_21 dX4_reach_177 ?_
                refine ax_iload dX4_reach_180 rfl ?_
                refine ax_aload_n dX4_reach_182 rfl ?_
                refine rg_8 dX4_reach_183 ?_
                refine ax_bipush (nI 8) dX4_reach_186 (by decide) ?_
                refine ax_bipush (nI 6) dX4_reach_188 (by decide) ?_
                refine ax_iload_n dX4_reach_190 rfl ?_
                refine ax_imuln dX4_reach_191 ?_
                refine ax_iload dX4_reach_192 rfl ?_
                refine ax_iaddn dX4_reach_194 ?_
                refine ax_imuln dX4_reach_195 ?_
                refine ax_iload_n dX4_reach_196 rfl ?_
                refine ax_iaddn dX4_reach_197 ?_
                refine rl_8 dX4_reach_198 (by first | omega | exact rk_11 hw _ | exact rk_N hw _ _) ?_
                refine rs_21 dX4_reach_199 (by first | omega | exact rk_11 hw _ | exact rk_N hw _ _) ?_
                refine ax_iload dX4_reach_200 rfl ?_
                refine ax_iretD dX4_reach_202 rfl ⟨(Nat.le_refl _), (Nat.le_refl _)⟩ ?_ ?_
                · first | (simp [rR, rN, nu_2, ru_1, nu_n, hio, c6, c17, c50, c60, c67, c83, c93, c107]; done) | (simp [rR, rN, nu_2, ru_1, nu_n, hio, c17x, c6, c17, c50, c60, c67, c83, c93, c107]; done) | (simp [rR, rN, nu_2, ru_1, nu_n, hio, hp, c17x, c6, c17, c50, c60, c67, c83, c93, c107]; done)
                · first | (simp [rR, rN, nu_2, ru_1, nu_n, hio, c6, c17, c50, c60, c67, c83, c93, c107]; done) | (simp [rR, rN, nu_2, ru_1, nu_n, hio, c17x, c6, c17, c50, c60, c67, c83, c93, c107]; done) | (simp [rR, rN, nu_2, ru_1, nu_n, hio, hp, c17x, c6, c17, c50, c60, c67, c83, c93, c107]; done)
              · refine ax_bipush (-4) dX4_reach_110 (by decide) ?_
                refine ax_iretD dX4_reach_112 rfl ⟨(Nat.le_refl _), (Nat.le_refl _)⟩ ?_ ?_
                · first | (simp [rR, rN, nu_2, ru_1, nu_n, hio, c6, c17, c50, c60, c67, c83, c93, c107]; done) | (simp [rR, rN, nu_2, ru_1, nu_n, hio, c17x, c6, c17, c50, c60, c67, c83, c93, c107]; done) | (simp [rR, rN, nu_2, ru_1, nu_n, hio, hp, c17x, c6, c17, c50, c60, c67, c83, c93, c107]; done)
                · first | (simp [rR, rN, nu_2, ru_1, nu_n, hio, c6, c17, c50, c60, c67, c83, c93, c107]; done) | (simp [rR, rN, nu_2, ru_1, nu_n, hio, c17x, c6, c17, c50, c60, c67, c83, c93, c107]; done) | (simp [rR, rN, nu_2, ru_1, nu_n, hio, hp, c17x, c6, c17, c50, c60, c67, c83, c93, c107]; done)
            · refine ax_bipush (-6) dX4_reach_86 (by decide) ?_
              refine ax_iretD dX4_reach_88 rfl ⟨(Nat.le_refl _), (Nat.le_refl _)⟩ ?_ ?_
              · first | (simp [rR, rN, nu_2, ru_1, nu_n, hio, c6, c17, c50, c60, c67, c83]; done) | (simp [rR, rN, nu_2, ru_1, nu_n, hio, c17x, c6, c17, c50, c60, c67, c83]; done) | (simp [rR, rN, nu_2, ru_1, nu_n, hio, hp, c17x, c6, c17, c50, c60, c67, c83]; done)
              · first | (simp [rR, rN, nu_2, ru_1, nu_n, hio, c6, c17, c50, c60, c67, c83]; done) | (simp [rR, rN, nu_2, ru_1, nu_n, hio, c17x, c6, c17, c50, c60, c67, c83]; done) | (simp [rR, rN, nu_2, ru_1, nu_n, hio, hp, c17x, c6, c17, c50, c60, c67, c83]; done)
      · have c17x : rM ρ r = 0 := by simpa using c17
        refine ax_bipush (-5) dX4_reach_20 (by decide) ?_
        refine ax_iretD dX4_reach_22 rfl ⟨(Nat.le_refl _), (Nat.le_refl _)⟩ ?_ ?_
        · first | (simp [rR, rN, nu_2, ru_1, nu_n, hio, c6, c17]; done) | (simp [rR, rN, nu_2, ru_1, nu_n, hio, c17x, c6, c17]; done) | (simp [rR, rN, nu_2, ru_1, nu_n, hio, hp, c17x, c6, c17]; done)
        · first | (simp [rR, rN, nu_2, ru_1, nu_n, hio, c6, c17]; done) | (simp [rR, rN, nu_2, ru_1, nu_n, hio, c17x, c6, c17]; done) | (simp [rR, rN, nu_2, ru_1, nu_n, hio, hp, c17x, c6, c17]; done)
    · refine ax_bipush (-3) dX4_reach_9 (by decide) ?_
      refine ax_iretD dX4_reach_11 rfl ⟨(Nat.le_refl _), (Nat.le_refl _)⟩ ?_ ?_
      · first | (simp [rR, rN, nu_2, ru_1, nu_n, hio, c6]; done) | (simp [rR, rN, nu_2, ru_1, nu_n, hio, c17x, c6]; done) | (simp [rR, rN, nu_2, ru_1, nu_n, hio, hp, c17x, c6]; done)
      · first | (simp [rR, rN, nu_2, ru_1, nu_n, hio, c6]; done) | (simp [rR, rN, nu_2, ru_1, nu_n, hio, c17x, c6]; done) | (simp [rR, rN, nu_2, ru_1, nu_n, hio, hp, c17x, c6]; done)
  | some j =>
    have hj := rIo_lt hw ht hio
    refine ax_aload_n dX4_reach_0 rfl ?_
    refine rg_12 dX4_reach_1 ?_
    refine ax_iload_n dX4_reach_4 rfl ?_
    refine rl_12 dX4_reach_5 (by first | omega | exact rk_11 hw _ | exact rk_N hw _ _) ?_
    refine ax_zeq 12 dX4_reach_6 (by decide) (by first | omega | exact rk_11 hw _ | exact rk_N hw _ _) (fun c6 => ?_) (fun c6 => ?_)
    · refine ax_aload_n dX4_reach_12 rfl ?_
      refine ax_iload_n dX4_reach_13 rfl ?_
      refine ax_V1 cv_X4_121 dX4_reach_14 fh_M rfl (ok_isLost hw (by first | omega | exact rk_6 hw _ | exact rk_11 hw _ | exact rk_18 hw _ | exact rk_19 hw _ | exact rk_27 hw _ | exact rk_N hw _ _)) (by decide) (Nat.le_refl _) (Nat.le_refl _) (Nat.le_of_ble_eq_true rfl) ?_
      refine ax_beq 23 dX4_reach_17 (by decide) (fun c17 => ?_) (fun c17 => ?_)
      · have c17x : ¬ rM ρ r = 0 := by simpa using c17
        refine ax_aload_n dX4_reach_23 rfl ?_
        refine ax_iload_n dX4_reach_24 rfl ?_
        refine ax_V1 cv_X4_124 dX4_reach_25 fh_M rfl (ok_primary hw (by first | omega | exact rk_6 hw _ | exact rk_11 hw _ | exact rk_18 hw _ | exact rk_19 hw _ | exact rk_27 hw _ | exact rk_N hw _ _)) (by decide) (Nat.le_refl _) (Nat.le_refl _) (Nat.le_of_ble_eq_true rfl) ?_
        obtain ⟨p, hp, hp5, hpo⟩ := rL_some c17x
        have h5 := rk_5 hw r
        rw [hp, show oI (some p) = nI p from rfl]
        refine ax_istore dX4_reach_28 rfl (by decide) ?_
        refine ax_aload_n dX4_reach_30 rfl ?_
        refine ax_iload_n dX4_reach_31 rfl ?_
        refine ax_iload_n dX4_reach_32 rfl ?_
        refine ax_iload_n dX4_reach_33 rfl ?_
        refine ax_V3 cv_X4_139 dX4_reach_34 fh_M rfl (ok_itemOf hw (by first | omega | exact rk_6 hw _ | exact rk_11 hw _ | exact rk_18 hw _ | exact rk_19 hw _ | exact rk_27 hw _ | exact rk_N hw _ _) (by first | omega | exact rk_6 hw _ | exact rk_11 hw _ | exact rk_18 hw _ | exact rk_19 hw _ | exact rk_27 hw _ | exact rk_N hw _ _) (by first | omega | exact rk_6 hw _ | exact rk_11 hw _ | exact rk_18 hw _ | exact rk_19 hw _ | exact rk_27 hw _ | exact rk_N hw _ _)) (by decide) (Nat.le_refl _) (Nat.le_refl _) (Nat.le_of_ble_eq_true rfl) ?_
        rw [hio, show oI (some j) = nI j from rfl]
        refine ax_istore dX4_reach_37 rfl (by decide) ?_
        refine ax_aload_n dX4_reach_39 rfl ?_
        refine rg_0 dX4_reach_40 ?_
        refine ax_aload_n dX4_reach_43 rfl ?_
        refine rg_11 dX4_reach_44 ?_
        refine ax_iload_n dX4_reach_47 rfl ?_
        refine rl_11 dX4_reach_48 (by first | omega | exact rk_11 hw _ | exact rk_N hw _ _) ?_
        refine rl_0 dX4_reach_49 (by first | omega | exact rk_11 hw _ | exact rk_N hw _ _) ?_
        refine ax_beq 86 dX4_reach_50 (by decide) (fun c50 => ?_) (fun c50 => ?_)
        · refine ax_bipush (-6) dX4_reach_86 (by decide) ?_
          refine ax_iretD dX4_reach_88 rfl ⟨(Nat.le_refl _), (Nat.le_refl _)⟩ ?_ ?_
          · first | (simp [rR, rN, nu_2, ru_1, nu_n, hio, c6, c17, c50]; done) | (simp [rR, rN, nu_2, ru_1, nu_n, hio, c17x, c6, c17, c50]; done) | (simp [rR, rN, nu_2, ru_1, nu_n, hio, hp, c17x, c6, c17, c50]; done)
          · first | (simp [rR, rN, nu_2, ru_1, nu_n, hio, c6, c17, c50]; done) | (simp [rR, rN, nu_2, ru_1, nu_n, hio, c17x, c6, c17, c50]; done) | (simp [rR, rN, nu_2, ru_1, nu_n, hio, hp, c17x, c6, c17, c50]; done)
        · refine ax_aload_n dX4_reach_53 rfl ?_
          refine ax_iload_n dX4_reach_54 rfl ?_
          refine ax_iload dX4_reach_55 rfl ?_
          refine ax_V2 cv_X4_127 dX4_reach_57 fh_M rfl (ok_isUpAt hw (by first | omega | exact rk_6 hw _ | exact rk_11 hw _ | exact rk_18 hw _ | exact rk_19 hw _ | exact rk_27 hw _ | exact rk_N hw _ _) (by first | omega | exact rk_6 hw _ | exact rk_11 hw _ | exact rk_18 hw _ | exact rk_19 hw _ | exact rk_27 hw _ | exact rk_N hw _ _)) (by decide) (Nat.le_refl _) (Nat.le_refl _) (Nat.le_of_ble_eq_true rfl) ?_
          refine ax_beq 86 dX4_reach_60 (by decide) (fun c60 => ?_) (fun c60 => ?_)
          · refine ax_bipush (-6) dX4_reach_86 (by decide) ?_
            refine ax_iretD dX4_reach_88 rfl ⟨(Nat.le_refl _), (Nat.le_refl _)⟩ ?_ ?_
            · first | (simp [rR, rN, nu_2, ru_1, nu_n, hio, c6, c17, c50, c60]; done) | (simp [rR, rN, nu_2, ru_1, nu_n, hio, c17x, c6, c17, c50, c60]; done) | (simp [rR, rN, nu_2, ru_1, nu_n, hio, hp, c17x, c6, c17, c50, c60]; done)
            · first | (simp [rR, rN, nu_2, ru_1, nu_n, hio, c6, c17, c50, c60]; done) | (simp [rR, rN, nu_2, ru_1, nu_n, hio, c17x, c6, c17, c50, c60]; done) | (simp [rR, rN, nu_2, ru_1, nu_n, hio, hp, c17x, c6, c17, c50, c60]; done)
          · refine ax_iload dX4_reach_63 rfl ?_
            refine ax_bipush (-9) dX4_reach_65 (by decide) ?_
            refine ax_icmp_ne 89 dX4_reach_67 (by decide) (fun c67 => ?_) (fun c67 => absurd c67 (nI_n9 (by omega)))
            refine ax_iload dX4_reach_89 rfl ?_
            refine ax_bipush (-9) dX4_reach_91 (by decide) ?_
            refine ax_icmp_eq 99 dX4_reach_93 (by decide) (fun c93 => absurd c93 (nI_n9 (by omega))) (fun c93 => ?_)
            refine ax_iload dX4_reach_96 rfl ?_
            refine ax_iretD dX4_reach_98 rfl ⟨(Nat.le_refl _), (Nat.le_refl _)⟩ ?_ ?_
            · first | (simp [rR, rN, nu_2, ru_1, nu_n, hio, c6, c17, c50, c60, c67, c93]; done) | (simp [rR, rN, nu_2, ru_1, nu_n, hio, c17x, c6, c17, c50, c60, c67, c93]; done) | (simp [rR, rN, nu_2, ru_1, nu_n, hio, hp, c17x, c6, c17, c50, c60, c67, c93]; done)
            · first | (simp [rR, rN, nu_2, ru_1, nu_n, hio, c6, c17, c50, c60, c67, c93]; done) | (simp [rR, rN, nu_2, ru_1, nu_n, hio, c17x, c6, c17, c50, c60, c67, c93]; done) | (simp [rR, rN, nu_2, ru_1, nu_n, hio, hp, c17x, c6, c17, c50, c60, c67, c93]; done)
      · have c17x : rM ρ r = 0 := by simpa using c17
        refine ax_bipush (-5) dX4_reach_20 (by decide) ?_
        refine ax_iretD dX4_reach_22 rfl ⟨(Nat.le_refl _), (Nat.le_refl _)⟩ ?_ ?_
        · first | (simp [rR, rN, nu_2, ru_1, nu_n, hio, c6, c17]; done) | (simp [rR, rN, nu_2, ru_1, nu_n, hio, c17x, c6, c17]; done) | (simp [rR, rN, nu_2, ru_1, nu_n, hio, hp, c17x, c6, c17]; done)
        · first | (simp [rR, rN, nu_2, ru_1, nu_n, hio, c6, c17]; done) | (simp [rR, rN, nu_2, ru_1, nu_n, hio, c17x, c6, c17]; done) | (simp [rR, rN, nu_2, ru_1, nu_n, hio, hp, c17x, c6, c17]; done)
    · refine ax_bipush (-3) dX4_reach_9 (by decide) ?_
      refine ax_iretD dX4_reach_11 rfl ⟨(Nat.le_refl _), (Nat.le_refl _)⟩ ?_ ?_
      · first | (simp [rR, rN, nu_2, ru_1, nu_n, hio, c6]; done) | (simp [rR, rN, nu_2, ru_1, nu_n, hio, c17x, c6]; done) | (simp [rR, rN, nu_2, ru_1, nu_n, hio, hp, c17x, c6]; done)
      · first | (simp [rR, rN, nu_2, ru_1, nu_n, hio, c6]; done) | (simp [rR, rN, nu_2, ru_1, nu_n, hio, c17x, c6]; done) | (simp [rR, rN, nu_2, ru_1, nu_n, hio, hp, c17x, c6]; done)
end REFM
