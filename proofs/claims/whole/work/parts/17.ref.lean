/-! The reference: its state is three families of rows, of numbers, of truth values, of ints; the row of a field has the field's number. -/
abbrev ax_R : Type := (Nat → Nat → Nat) × (Nat → Nat → Bool) × (Nat → Nat → Int32)
def rf_f (ρ : ax_R) : List ax_V := [ax_r (81, 0), ax_r (81, 1), ax_r (81, 2), ax_i (nI (ρ.1 3 0)), ax_i (nI (ρ.1 4 0)), ax_r (81, 5), ax_r (81, 6), ax_r (81, 7), ax_r (81, 8), ax_r (81, 9), ax_i (nI (ρ.1 10 0)), ax_r (81, 11), ax_r (81, 12), ax_r (81, 13), ax_r (81, 14), ax_r (81, 15), ax_r (81, 16), ax_i (nI (ρ.1 17 0)), ax_r (81, 18), ax_r (81, 19), ax_r (81, 20), ax_r (81, 21), ax_r (81, 22), ax_r (81, 23), ax_r (81, 24), ax_i (nI (ρ.1 25 0)), ax_r (81, 26), ax_r (81, 27), ax_i (nI (ρ.1 28 0)), ax_i (nI (ρ.1 29 0)), ax_i (ρ.2.2 30 0), ax_r (81, 31), ax_r (81, 32)]
def rf_a (ρ : ax_R) (k : Nat) : Option ax_C := match k with
  | 0 => some (ax_az 6 (fun j => ax_b (ρ.2.1 0 j)))
  | 1 => some (ax_az 6 (fun j => ax_b (ρ.2.1 1 j)))
  | 2 => some (ax_az 6 (fun j => ax_b (ρ.2.1 2 j)))
  | 5 => some (ax_ai 6 (fun j => nI (ρ.1 5 j)))
  | 6 => some (ax_ai 36 (fun j => nI (ρ.1 6 j)))
  | 7 => some (ax_ai 288 (ρ.2.2 7))
  | 8 => some (ax_ai 288 (fun j => nI (ρ.1 8 j)))
  | 9 => some (ax_ai 48 (ρ.2.2 9))
  | 11 => some (ax_ai 60 (fun j => nI (ρ.1 11 j)))
  | 12 => some (ax_ai 60 (fun j => nI (ρ.1 12 j)))
  | 13 => some (ax_ai 60 (fun j => nI (ρ.1 13 j)))
  | 14 => some (ax_ai 60 (fun j => nI (ρ.1 14 j)))
  | 15 => some (ax_az 60 (fun j => ax_b (ρ.2.1 15 j)))
  | 16 => some (ax_ai 60 (fun j => nI (ρ.1 16 j)))
  | 18 => some (ax_ai 480 (fun j => nI (ρ.1 18 j)))
  | 19 => some (ax_ai 480 (fun j => nI (ρ.1 19 j)))
  | 20 => some (ax_ai 480 (ρ.2.2 20))
  | 21 => some (ax_ai 480 (fun j => nI (ρ.1 21 j)))
  | 22 => some (ax_az 480 (fun j => ax_b (ρ.2.1 22 j)))
  | 23 => some (ax_ai 480 (ρ.2.2 23))
  | 24 => some (ax_ai 480 (fun j => nI (ρ.1 24 j)))
  | 26 => some (ax_ai 1440 (ρ.2.2 26))
  | 27 => some (ax_ai 1440 (fun j => nI (ρ.1 27 j)))
  | 31 => some (ax_ai 6 (ρ.2.2 31))
  | 32 => some (ax_ai 48 (ρ.2.2 32))
  | _ => none
def fh (c : ax_H) (ρ : ax_R) : ax_H := fun u => match u.1 with
  | 80 => (match u.2 with
    | 0 => some (ax_o 5 (rf_f ρ))
    | _ => none)
  | 81 => rf_a ρ u.2
  | _ => c u
theorem fh_M {c : ax_H} {ρ : ax_R} : fh c ρ (80, 0) = some (ax_o 5 (rf_f ρ)) := rfl
theorem fh_A {c : ax_H} {ρ : ax_R} {k : Nat} : fh c ρ (81, k) = rf_a ρ k := rfl
def nu (ρ : ax_R) (k j v : Nat) : ax_R := (fun a i => if a = k ∧ i = j then v else ρ.1 a i, ρ.2)
def bu (ρ : ax_R) (k j : Nat) (v : Bool) : ax_R := (ρ.1, fun a i => if a = k ∧ i = j then v else ρ.2.1 a i, ρ.2.2)
def ru (ρ : ax_R) (k j : Nat) (v : Int32) : ax_R := (ρ.1, ρ.2.1, fun a i => if a = k ∧ i = j then v else ρ.2.2 a i)
theorem rf_a_nu {ρ : ax_R} {k j v i : Nat} (e : i ≠ k) : rf_a (nu ρ k j v) i = rf_a ρ i := by
  unfold rf_a
  split <;> simp [nu, e]
theorem rf_a_bu {ρ : ax_R} {k j i : Nat} {v : Bool} (e : i ≠ k) : rf_a (bu ρ k j v) i = rf_a ρ i := by
  unfold rf_a
  split <;> simp [bu, e]
theorem rf_a_ru {ρ : ax_R} {k j i : Nat} {v : Int32} (e : i ≠ k) : rf_a (ru ρ k j v) i = rf_a ρ i := by
  unfold rf_a
  split <;> first | rfl | (simp only [ru]; congr 3; funext i; simp [e])
theorem fh_up {c : ax_H} {ρ ρ2 : ax_R} {k : Nat} {C : ax_C} (h1 : rf_f ρ2 = rf_f ρ) (h2 : ∀ i, i ≠ k → rf_a ρ2 i = rf_a ρ i) (h3 : rf_a ρ2 k = some C) : ax_up (fh c ρ) (81, k) C = fh c ρ2 := by
  funext u
  obtain ⟨t, i⟩ := u
  by_cases e : (t, i) = (81, k)
  · cases e
    rw [ax_up_s, fh_A, h3]
  · rw [ax_up_n e]
    unfold fh
    split
    · rw [h1]
    · rename_i ht
      have ht : t = 81 := ht
      subst ht
      exact (h2 i (fun q => e (by rw [q]))).symm
    · rfl
theorem fh_upf {c : ax_H} {ρ ρ2 : ax_R} {fs : List ax_V} (h1 : rf_f ρ2 = fs) (h2 : ∀ i, rf_a ρ2 i = rf_a ρ i) : ax_up (fh c ρ) (80, 0) (ax_o 5 fs) = fh c ρ2 := by
  funext u
  obtain ⟨t, i⟩ := u
  by_cases e : (t, i) = (80, 0)
  · cases e
    rw [ax_up_s, fh_M, h1]
  · rw [ax_up_n e]
    unfold fh
    split
    · rename_i ht
      have ht : t = 80 := ht
      subst ht
      split
      · rename_i hi
        have hi : i = 0 := hi
        subst hi
        exact absurd rfl e
      · rfl
    · exact (h2 i).symm
    · rfl
section REF
variable {cc : ByteArray} {nL : Nat} {rt : Option FieldType} {ini : Bool} {d mc ms : Nat} {Fi : Option ax_V → ax_H → Prop} {pc : Nat} {L : List (Option ax_V)} {S : List ax_V} {c : ax_H} {ρ : ax_R} {uc us : Nat}
theorem rg_0 (hd : decode cc pc = .ok (.getfield 7, 3)) (kk : ax_Z (RX4, cc, nL, rt, ini) d mc ms Fi (pc + 3) L (ax_r (81, 0) :: S) (fh c ρ) uc us) : ax_Z (RX4, cc, nL, rt, ini) d mc ms Fi (pc) L (ax_r (80, 0) :: S) (fh c ρ) uc us := ax_get (ci := 5) (k := 0) (T := TX4) hd fh_M rfl (by decide) fl_X4_7 rfl kk
theorem rl_0 {j : Nat} (hd : decode cc pc = .ok (.baload, 1)) (hj : j < 6) (kk : ax_Z (RX4, cc, nL, rt, ini) d mc ms Fi (pc + 1) L (ax_i (ax_b (ρ.2.1 0 j)) :: S) (fh c ρ) uc us) : ax_Z (RX4, cc, nL, rt, ini) d mc ms Fi (pc) L (ax_i (nI j) :: ax_r (81, 0) :: S) (fh c ρ) uc us := ax_zaldn (f := fun j => ax_b (ρ.2.1 0 j)) j hd rfl rfl hj (by decide) kk
theorem rs_0 {j : Nat} {v : Bool} (hd : decode cc pc = .ok (.bastore, 1)) (hj : j < 6) (kk : ax_Z (RX4, cc, nL, rt, ini) d mc ms Fi (pc + 1) L (S) (fh c (bu ρ 0 j v)) uc us) : ax_Z (RX4, cc, nL, rt, ini) d mc ms Fi (pc) L (ax_i (ax_b v) :: ax_i (nI j) :: ax_r (81, 0) :: S) (fh c ρ) uc us := ax_zastn j hd rfl rfl hj (by decide) (ax_b01 v) (fh_up (ρ2 := (bu ρ 0 j v)) (by simp [rf_f, nu, bu, ru]) (fun i e => rf_a_bu e) (by
  simp only [rf_a]
  congr 3
  funext i
  by_cases e : i = j <;> simp [upd, nu, bu, ru, e])) kk
theorem rg_1 (hd : decode cc pc = .ok (.getfield 13, 3)) (kk : ax_Z (RX4, cc, nL, rt, ini) d mc ms Fi (pc + 3) L (ax_r (81, 1) :: S) (fh c ρ) uc us) : ax_Z (RX4, cc, nL, rt, ini) d mc ms Fi (pc) L (ax_r (80, 0) :: S) (fh c ρ) uc us := ax_get (ci := 5) (k := 1) (T := TX4) hd fh_M rfl (by decide) fl_X4_13 rfl kk
theorem rl_1 {j : Nat} (hd : decode cc pc = .ok (.baload, 1)) (hj : j < 6) (kk : ax_Z (RX4, cc, nL, rt, ini) d mc ms Fi (pc + 1) L (ax_i (ax_b (ρ.2.1 1 j)) :: S) (fh c ρ) uc us) : ax_Z (RX4, cc, nL, rt, ini) d mc ms Fi (pc) L (ax_i (nI j) :: ax_r (81, 1) :: S) (fh c ρ) uc us := ax_zaldn (f := fun j => ax_b (ρ.2.1 1 j)) j hd rfl rfl hj (by decide) kk
theorem rs_1 {j : Nat} {v : Bool} (hd : decode cc pc = .ok (.bastore, 1)) (hj : j < 6) (kk : ax_Z (RX4, cc, nL, rt, ini) d mc ms Fi (pc + 1) L (S) (fh c (bu ρ 1 j v)) uc us) : ax_Z (RX4, cc, nL, rt, ini) d mc ms Fi (pc) L (ax_i (ax_b v) :: ax_i (nI j) :: ax_r (81, 1) :: S) (fh c ρ) uc us := ax_zastn j hd rfl rfl hj (by decide) (ax_b01 v) (fh_up (ρ2 := (bu ρ 1 j v)) (by simp [rf_f, nu, bu, ru]) (fun i e => rf_a_bu e) (by
  simp only [rf_a]
  congr 3
  funext i
  by_cases e : i = j <;> simp [upd, nu, bu, ru, e])) kk
theorem rg_2 (hd : decode cc pc = .ok (.getfield 16, 3)) (kk : ax_Z (RX4, cc, nL, rt, ini) d mc ms Fi (pc + 3) L (ax_r (81, 2) :: S) (fh c ρ) uc us) : ax_Z (RX4, cc, nL, rt, ini) d mc ms Fi (pc) L (ax_r (80, 0) :: S) (fh c ρ) uc us := ax_get (ci := 5) (k := 2) (T := TX4) hd fh_M rfl (by decide) fl_X4_16 rfl kk
theorem rl_2 {j : Nat} (hd : decode cc pc = .ok (.baload, 1)) (hj : j < 6) (kk : ax_Z (RX4, cc, nL, rt, ini) d mc ms Fi (pc + 1) L (ax_i (ax_b (ρ.2.1 2 j)) :: S) (fh c ρ) uc us) : ax_Z (RX4, cc, nL, rt, ini) d mc ms Fi (pc) L (ax_i (nI j) :: ax_r (81, 2) :: S) (fh c ρ) uc us := ax_zaldn (f := fun j => ax_b (ρ.2.1 2 j)) j hd rfl rfl hj (by decide) kk
theorem rs_2 {j : Nat} {v : Bool} (hd : decode cc pc = .ok (.bastore, 1)) (hj : j < 6) (kk : ax_Z (RX4, cc, nL, rt, ini) d mc ms Fi (pc + 1) L (S) (fh c (bu ρ 2 j v)) uc us) : ax_Z (RX4, cc, nL, rt, ini) d mc ms Fi (pc) L (ax_i (ax_b v) :: ax_i (nI j) :: ax_r (81, 2) :: S) (fh c ρ) uc us := ax_zastn j hd rfl rfl hj (by decide) (ax_b01 v) (fh_up (ρ2 := (bu ρ 2 j v)) (by simp [rf_f, nu, bu, ru]) (fun i e => rf_a_bu e) (by
  simp only [rf_a]
  congr 3
  funext i
  by_cases e : i = j <;> simp [upd, nu, bu, ru, e])) kk
theorem rg_3 (hd : decode cc pc = .ok (.getfield 221, 3)) (kk : ax_Z (RX4, cc, nL, rt, ini) d mc ms Fi (pc + 3) L (ax_i (nI (ρ.1 3 0)) :: S) (fh c ρ) uc us) : ax_Z (RX4, cc, nL, rt, ini) d mc ms Fi (pc) L (ax_r (80, 0) :: S) (fh c ρ) uc us := ax_get (ci := 5) (k := 3) (T := TX4) hd fh_M rfl (by decide) fl_X4_221 rfl kk
theorem rp_3 {v : Nat} (hd : decode cc pc = .ok (.putfield 221, 3)) (kk : ax_Z (RX4, cc, nL, rt, ini) d mc ms Fi (pc + 3) L (S) (fh c (nu ρ 3 0 v)) uc us) : ax_Z (RX4, cc, nL, rt, ini) d mc ms Fi (pc) L (ax_i (nI v) :: ax_r (80, 0) :: S) (fh c ρ) uc us := ax_put (ci := 5) (k := 3) (T := TX4) (ty := .int) hd fh_M rfl (by decide) (by show 3 < 33; decide) fl_X4_221 rfl (by decide +kernel) (fun _ => rfl) (fun _ => rfl) (fh_upf (ρ2 := (nu ρ 3 0 v)) (by simp [rf_f, nu, ru]) (fun i => by
  by_cases e : i = 3
  · subst e; rfl
  · exact rf_a_nu e)) kk
theorem rg_4 (hd : decode cc pc = .ok (.getfield 92, 3)) (kk : ax_Z (RX4, cc, nL, rt, ini) d mc ms Fi (pc + 3) L (ax_i (nI (ρ.1 4 0)) :: S) (fh c ρ) uc us) : ax_Z (RX4, cc, nL, rt, ini) d mc ms Fi (pc) L (ax_r (80, 0) :: S) (fh c ρ) uc us := ax_get (ci := 5) (k := 4) (T := TX4) hd fh_M rfl (by decide) fl_X4_92 rfl kk
theorem rp_4 {v : Nat} (hd : decode cc pc = .ok (.putfield 92, 3)) (kk : ax_Z (RX4, cc, nL, rt, ini) d mc ms Fi (pc + 3) L (S) (fh c (nu ρ 4 0 v)) uc us) : ax_Z (RX4, cc, nL, rt, ini) d mc ms Fi (pc) L (ax_i (nI v) :: ax_r (80, 0) :: S) (fh c ρ) uc us := ax_put (ci := 5) (k := 4) (T := TX4) (ty := .int) hd fh_M rfl (by decide) (by show 4 < 33; decide) fl_X4_92 rfl (by decide +kernel) (fun _ => rfl) (fun _ => rfl) (fh_upf (ρ2 := (nu ρ 4 0 v)) (by simp [rf_f, nu, ru]) (fun i => by
  by_cases e : i = 4
  · subst e; rfl
  · exact rf_a_nu e)) kk
theorem rg_5 (hd : decode cc pc = .ok (.getfield 19, 3)) (kk : ax_Z (RX4, cc, nL, rt, ini) d mc ms Fi (pc + 3) L (ax_r (81, 5) :: S) (fh c ρ) uc us) : ax_Z (RX4, cc, nL, rt, ini) d mc ms Fi (pc) L (ax_r (80, 0) :: S) (fh c ρ) uc us := ax_get (ci := 5) (k := 5) (T := TX4) hd fh_M rfl (by decide) fl_X4_19 rfl kk
theorem rl_5 {j : Nat} (hd : decode cc pc = .ok (.iaload, 1)) (hj : j < 6) (kk : ax_Z (RX4, cc, nL, rt, ini) d mc ms Fi (pc + 1) L (ax_i (nI (ρ.1 5 j)) :: S) (fh c ρ) uc us) : ax_Z (RX4, cc, nL, rt, ini) d mc ms Fi (pc) L (ax_i (nI j) :: ax_r (81, 5) :: S) (fh c ρ) uc us := ax_ialdn (f := fun j => nI (ρ.1 5 j)) j hd rfl rfl hj (by decide) kk
theorem rs_5 {j : Nat} {v : Nat} (hd : decode cc pc = .ok (.iastore, 1)) (hj : j < 6) (kk : ax_Z (RX4, cc, nL, rt, ini) d mc ms Fi (pc + 1) L (S) (fh c (nu ρ 5 j v)) uc us) : ax_Z (RX4, cc, nL, rt, ini) d mc ms Fi (pc) L (ax_i (nI v) :: ax_i (nI j) :: ax_r (81, 5) :: S) (fh c ρ) uc us := ax_iastn j hd rfl rfl hj (by decide) (fh_up (ρ2 := (nu ρ 5 j v)) (by simp [rf_f, nu, bu, ru]) (fun i e => rf_a_nu e) (by
  simp only [rf_a]
  congr 3
  funext i
  by_cases e : i = j <;> simp [upd, nu, bu, ru, e])) kk
theorem rg_6 (hd : decode cc pc = .ok (.getfield 23, 3)) (kk : ax_Z (RX4, cc, nL, rt, ini) d mc ms Fi (pc + 3) L (ax_r (81, 6) :: S) (fh c ρ) uc us) : ax_Z (RX4, cc, nL, rt, ini) d mc ms Fi (pc) L (ax_r (80, 0) :: S) (fh c ρ) uc us := ax_get (ci := 5) (k := 6) (T := TX4) hd fh_M rfl (by decide) fl_X4_23 rfl kk
theorem rl_6 {j : Nat} (hd : decode cc pc = .ok (.iaload, 1)) (hj : j < 36) (kk : ax_Z (RX4, cc, nL, rt, ini) d mc ms Fi (pc + 1) L (ax_i (nI (ρ.1 6 j)) :: S) (fh c ρ) uc us) : ax_Z (RX4, cc, nL, rt, ini) d mc ms Fi (pc) L (ax_i (nI j) :: ax_r (81, 6) :: S) (fh c ρ) uc us := ax_ialdn (f := fun j => nI (ρ.1 6 j)) j hd rfl rfl hj (by decide) kk
theorem rs_6 {j : Nat} {v : Nat} (hd : decode cc pc = .ok (.iastore, 1)) (hj : j < 36) (kk : ax_Z (RX4, cc, nL, rt, ini) d mc ms Fi (pc + 1) L (S) (fh c (nu ρ 6 j v)) uc us) : ax_Z (RX4, cc, nL, rt, ini) d mc ms Fi (pc) L (ax_i (nI v) :: ax_i (nI j) :: ax_r (81, 6) :: S) (fh c ρ) uc us := ax_iastn j hd rfl rfl hj (by decide) (fh_up (ρ2 := (nu ρ 6 j v)) (by simp [rf_f, nu, bu, ru]) (fun i e => rf_a_nu e) (by
  simp only [rf_a]
  congr 3
  funext i
  by_cases e : i = j <;> simp [upd, nu, bu, ru, e])) kk
theorem rg_7 (hd : decode cc pc = .ok (.getfield 26, 3)) (kk : ax_Z (RX4, cc, nL, rt, ini) d mc ms Fi (pc + 3) L (ax_r (81, 7) :: S) (fh c ρ) uc us) : ax_Z (RX4, cc, nL, rt, ini) d mc ms Fi (pc) L (ax_r (80, 0) :: S) (fh c ρ) uc us := ax_get (ci := 5) (k := 7) (T := TX4) hd fh_M rfl (by decide) fl_X4_26 rfl kk
theorem rl_7 {j : Nat} (hd : decode cc pc = .ok (.iaload, 1)) (hj : j < 288) (kk : ax_Z (RX4, cc, nL, rt, ini) d mc ms Fi (pc + 1) L (ax_i (ρ.2.2 7 j) :: S) (fh c ρ) uc us) : ax_Z (RX4, cc, nL, rt, ini) d mc ms Fi (pc) L (ax_i (nI j) :: ax_r (81, 7) :: S) (fh c ρ) uc us := ax_ialdn (f := ρ.2.2 7) j hd rfl rfl hj (by decide) kk
theorem rs_7 {j : Nat} {v : Int32} (hd : decode cc pc = .ok (.iastore, 1)) (hj : j < 288) (kk : ax_Z (RX4, cc, nL, rt, ini) d mc ms Fi (pc + 1) L (S) (fh c (ru ρ 7 j v)) uc us) : ax_Z (RX4, cc, nL, rt, ini) d mc ms Fi (pc) L (ax_i (v) :: ax_i (nI j) :: ax_r (81, 7) :: S) (fh c ρ) uc us := ax_iastn j hd rfl rfl hj (by decide) (fh_up (ρ2 := (ru ρ 7 j v)) (by simp [rf_f, nu, bu, ru]) (fun i e => rf_a_ru e) (by
  simp only [rf_a]
  congr 3
  funext i
  by_cases e : i = j <;> simp [upd, nu, bu, ru, e])) kk
theorem rg_8 (hd : decode cc pc = .ok (.getfield 29, 3)) (kk : ax_Z (RX4, cc, nL, rt, ini) d mc ms Fi (pc + 3) L (ax_r (81, 8) :: S) (fh c ρ) uc us) : ax_Z (RX4, cc, nL, rt, ini) d mc ms Fi (pc) L (ax_r (80, 0) :: S) (fh c ρ) uc us := ax_get (ci := 5) (k := 8) (T := TX4) hd fh_M rfl (by decide) fl_X4_29 rfl kk
theorem rl_8 {j : Nat} (hd : decode cc pc = .ok (.iaload, 1)) (hj : j < 288) (kk : ax_Z (RX4, cc, nL, rt, ini) d mc ms Fi (pc + 1) L (ax_i (nI (ρ.1 8 j)) :: S) (fh c ρ) uc us) : ax_Z (RX4, cc, nL, rt, ini) d mc ms Fi (pc) L (ax_i (nI j) :: ax_r (81, 8) :: S) (fh c ρ) uc us := ax_ialdn (f := fun j => nI (ρ.1 8 j)) j hd rfl rfl hj (by decide) kk
theorem rs_8 {j : Nat} {v : Nat} (hd : decode cc pc = .ok (.iastore, 1)) (hj : j < 288) (kk : ax_Z (RX4, cc, nL, rt, ini) d mc ms Fi (pc + 1) L (S) (fh c (nu ρ 8 j v)) uc us) : ax_Z (RX4, cc, nL, rt, ini) d mc ms Fi (pc) L (ax_i (nI v) :: ax_i (nI j) :: ax_r (81, 8) :: S) (fh c ρ) uc us := ax_iastn j hd rfl rfl hj (by decide) (fh_up (ρ2 := (nu ρ 8 j v)) (by simp [rf_f, nu, bu, ru]) (fun i e => rf_a_nu e) (by
  simp only [rf_a]
  congr 3
  funext i
  by_cases e : i = j <;> simp [upd, nu, bu, ru, e])) kk
theorem rg_9 (hd : decode cc pc = .ok (.getfield 32, 3)) (kk : ax_Z (RX4, cc, nL, rt, ini) d mc ms Fi (pc + 3) L (ax_r (81, 9) :: S) (fh c ρ) uc us) : ax_Z (RX4, cc, nL, rt, ini) d mc ms Fi (pc) L (ax_r (80, 0) :: S) (fh c ρ) uc us := ax_get (ci := 5) (k := 9) (T := TX4) hd fh_M rfl (by decide) fl_X4_32 rfl kk
theorem rl_9 {j : Nat} (hd : decode cc pc = .ok (.iaload, 1)) (hj : j < 48) (kk : ax_Z (RX4, cc, nL, rt, ini) d mc ms Fi (pc + 1) L (ax_i (ρ.2.2 9 j) :: S) (fh c ρ) uc us) : ax_Z (RX4, cc, nL, rt, ini) d mc ms Fi (pc) L (ax_i (nI j) :: ax_r (81, 9) :: S) (fh c ρ) uc us := ax_ialdn (f := ρ.2.2 9) j hd rfl rfl hj (by decide) kk
theorem rs_9 {j : Nat} {v : Int32} (hd : decode cc pc = .ok (.iastore, 1)) (hj : j < 48) (kk : ax_Z (RX4, cc, nL, rt, ini) d mc ms Fi (pc + 1) L (S) (fh c (ru ρ 9 j v)) uc us) : ax_Z (RX4, cc, nL, rt, ini) d mc ms Fi (pc) L (ax_i (v) :: ax_i (nI j) :: ax_r (81, 9) :: S) (fh c ρ) uc us := ax_iastn j hd rfl rfl hj (by decide) (fh_up (ρ2 := (ru ρ 9 j v)) (by simp [rf_f, nu, bu, ru]) (fun i e => rf_a_ru e) (by
  simp only [rf_a]
  congr 3
  funext i
  by_cases e : i = j <;> simp [upd, nu, bu, ru, e])) kk
theorem rg_10 (hd : decode cc pc = .ok (.getfield 130, 3)) (kk : ax_Z (RX4, cc, nL, rt, ini) d mc ms Fi (pc + 3) L (ax_i (nI (ρ.1 10 0)) :: S) (fh c ρ) uc us) : ax_Z (RX4, cc, nL, rt, ini) d mc ms Fi (pc) L (ax_r (80, 0) :: S) (fh c ρ) uc us := ax_get (ci := 5) (k := 10) (T := TX4) hd fh_M rfl (by decide) fl_X4_130 rfl kk
theorem rp_10 {v : Nat} (hd : decode cc pc = .ok (.putfield 130, 3)) (kk : ax_Z (RX4, cc, nL, rt, ini) d mc ms Fi (pc + 3) L (S) (fh c (nu ρ 10 0 v)) uc us) : ax_Z (RX4, cc, nL, rt, ini) d mc ms Fi (pc) L (ax_i (nI v) :: ax_r (80, 0) :: S) (fh c ρ) uc us := ax_put (ci := 5) (k := 10) (T := TX4) (ty := .int) hd fh_M rfl (by decide) (by show 10 < 33; decide) fl_X4_130 rfl (by decide +kernel) (fun _ => rfl) (fun _ => rfl) (fh_upf (ρ2 := (nu ρ 10 0 v)) (by simp [rf_f, nu, ru]) (fun i => by
  by_cases e : i = 10
  · subst e; rfl
  · exact rf_a_nu e)) kk
theorem rg_11 (hd : decode cc pc = .ok (.getfield 35, 3)) (kk : ax_Z (RX4, cc, nL, rt, ini) d mc ms Fi (pc + 3) L (ax_r (81, 11) :: S) (fh c ρ) uc us) : ax_Z (RX4, cc, nL, rt, ini) d mc ms Fi (pc) L (ax_r (80, 0) :: S) (fh c ρ) uc us := ax_get (ci := 5) (k := 11) (T := TX4) hd fh_M rfl (by decide) fl_X4_35 rfl kk
theorem rl_11 {j : Nat} (hd : decode cc pc = .ok (.iaload, 1)) (hj : j < 60) (kk : ax_Z (RX4, cc, nL, rt, ini) d mc ms Fi (pc + 1) L (ax_i (nI (ρ.1 11 j)) :: S) (fh c ρ) uc us) : ax_Z (RX4, cc, nL, rt, ini) d mc ms Fi (pc) L (ax_i (nI j) :: ax_r (81, 11) :: S) (fh c ρ) uc us := ax_ialdn (f := fun j => nI (ρ.1 11 j)) j hd rfl rfl hj (by decide) kk
theorem rs_11 {j : Nat} {v : Nat} (hd : decode cc pc = .ok (.iastore, 1)) (hj : j < 60) (kk : ax_Z (RX4, cc, nL, rt, ini) d mc ms Fi (pc + 1) L (S) (fh c (nu ρ 11 j v)) uc us) : ax_Z (RX4, cc, nL, rt, ini) d mc ms Fi (pc) L (ax_i (nI v) :: ax_i (nI j) :: ax_r (81, 11) :: S) (fh c ρ) uc us := ax_iastn j hd rfl rfl hj (by decide) (fh_up (ρ2 := (nu ρ 11 j v)) (by simp [rf_f, nu, bu, ru]) (fun i e => rf_a_nu e) (by
  simp only [rf_a]
  congr 3
  funext i
  by_cases e : i = j <;> simp [upd, nu, bu, ru, e])) kk
theorem rg_12 (hd : decode cc pc = .ok (.getfield 38, 3)) (kk : ax_Z (RX4, cc, nL, rt, ini) d mc ms Fi (pc + 3) L (ax_r (81, 12) :: S) (fh c ρ) uc us) : ax_Z (RX4, cc, nL, rt, ini) d mc ms Fi (pc) L (ax_r (80, 0) :: S) (fh c ρ) uc us := ax_get (ci := 5) (k := 12) (T := TX4) hd fh_M rfl (by decide) fl_X4_38 rfl kk
theorem rl_12 {j : Nat} (hd : decode cc pc = .ok (.iaload, 1)) (hj : j < 60) (kk : ax_Z (RX4, cc, nL, rt, ini) d mc ms Fi (pc + 1) L (ax_i (nI (ρ.1 12 j)) :: S) (fh c ρ) uc us) : ax_Z (RX4, cc, nL, rt, ini) d mc ms Fi (pc) L (ax_i (nI j) :: ax_r (81, 12) :: S) (fh c ρ) uc us := ax_ialdn (f := fun j => nI (ρ.1 12 j)) j hd rfl rfl hj (by decide) kk
theorem rs_12 {j : Nat} {v : Nat} (hd : decode cc pc = .ok (.iastore, 1)) (hj : j < 60) (kk : ax_Z (RX4, cc, nL, rt, ini) d mc ms Fi (pc + 1) L (S) (fh c (nu ρ 12 j v)) uc us) : ax_Z (RX4, cc, nL, rt, ini) d mc ms Fi (pc) L (ax_i (nI v) :: ax_i (nI j) :: ax_r (81, 12) :: S) (fh c ρ) uc us := ax_iastn j hd rfl rfl hj (by decide) (fh_up (ρ2 := (nu ρ 12 j v)) (by simp [rf_f, nu, bu, ru]) (fun i e => rf_a_nu e) (by
  simp only [rf_a]
  congr 3
  funext i
  by_cases e : i = j <;> simp [upd, nu, bu, ru, e])) kk
theorem rg_13 (hd : decode cc pc = .ok (.getfield 41, 3)) (kk : ax_Z (RX4, cc, nL, rt, ini) d mc ms Fi (pc + 3) L (ax_r (81, 13) :: S) (fh c ρ) uc us) : ax_Z (RX4, cc, nL, rt, ini) d mc ms Fi (pc) L (ax_r (80, 0) :: S) (fh c ρ) uc us := ax_get (ci := 5) (k := 13) (T := TX4) hd fh_M rfl (by decide) fl_X4_41 rfl kk
theorem rl_13 {j : Nat} (hd : decode cc pc = .ok (.iaload, 1)) (hj : j < 60) (kk : ax_Z (RX4, cc, nL, rt, ini) d mc ms Fi (pc + 1) L (ax_i (nI (ρ.1 13 j)) :: S) (fh c ρ) uc us) : ax_Z (RX4, cc, nL, rt, ini) d mc ms Fi (pc) L (ax_i (nI j) :: ax_r (81, 13) :: S) (fh c ρ) uc us := ax_ialdn (f := fun j => nI (ρ.1 13 j)) j hd rfl rfl hj (by decide) kk
theorem rs_13 {j : Nat} {v : Nat} (hd : decode cc pc = .ok (.iastore, 1)) (hj : j < 60) (kk : ax_Z (RX4, cc, nL, rt, ini) d mc ms Fi (pc + 1) L (S) (fh c (nu ρ 13 j v)) uc us) : ax_Z (RX4, cc, nL, rt, ini) d mc ms Fi (pc) L (ax_i (nI v) :: ax_i (nI j) :: ax_r (81, 13) :: S) (fh c ρ) uc us := ax_iastn j hd rfl rfl hj (by decide) (fh_up (ρ2 := (nu ρ 13 j v)) (by simp [rf_f, nu, bu, ru]) (fun i e => rf_a_nu e) (by
  simp only [rf_a]
  congr 3
  funext i
  by_cases e : i = j <;> simp [upd, nu, bu, ru, e])) kk
theorem rg_14 (hd : decode cc pc = .ok (.getfield 44, 3)) (kk : ax_Z (RX4, cc, nL, rt, ini) d mc ms Fi (pc + 3) L (ax_r (81, 14) :: S) (fh c ρ) uc us) : ax_Z (RX4, cc, nL, rt, ini) d mc ms Fi (pc) L (ax_r (80, 0) :: S) (fh c ρ) uc us := ax_get (ci := 5) (k := 14) (T := TX4) hd fh_M rfl (by decide) fl_X4_44 rfl kk
theorem rl_14 {j : Nat} (hd : decode cc pc = .ok (.iaload, 1)) (hj : j < 60) (kk : ax_Z (RX4, cc, nL, rt, ini) d mc ms Fi (pc + 1) L (ax_i (nI (ρ.1 14 j)) :: S) (fh c ρ) uc us) : ax_Z (RX4, cc, nL, rt, ini) d mc ms Fi (pc) L (ax_i (nI j) :: ax_r (81, 14) :: S) (fh c ρ) uc us := ax_ialdn (f := fun j => nI (ρ.1 14 j)) j hd rfl rfl hj (by decide) kk
theorem rs_14 {j : Nat} {v : Nat} (hd : decode cc pc = .ok (.iastore, 1)) (hj : j < 60) (kk : ax_Z (RX4, cc, nL, rt, ini) d mc ms Fi (pc + 1) L (S) (fh c (nu ρ 14 j v)) uc us) : ax_Z (RX4, cc, nL, rt, ini) d mc ms Fi (pc) L (ax_i (nI v) :: ax_i (nI j) :: ax_r (81, 14) :: S) (fh c ρ) uc us := ax_iastn j hd rfl rfl hj (by decide) (fh_up (ρ2 := (nu ρ 14 j v)) (by simp [rf_f, nu, bu, ru]) (fun i e => rf_a_nu e) (by
  simp only [rf_a]
  congr 3
  funext i
  by_cases e : i = j <;> simp [upd, nu, bu, ru, e])) kk
theorem rg_15 (hd : decode cc pc = .ok (.getfield 47, 3)) (kk : ax_Z (RX4, cc, nL, rt, ini) d mc ms Fi (pc + 3) L (ax_r (81, 15) :: S) (fh c ρ) uc us) : ax_Z (RX4, cc, nL, rt, ini) d mc ms Fi (pc) L (ax_r (80, 0) :: S) (fh c ρ) uc us := ax_get (ci := 5) (k := 15) (T := TX4) hd fh_M rfl (by decide) fl_X4_47 rfl kk
theorem rl_15 {j : Nat} (hd : decode cc pc = .ok (.baload, 1)) (hj : j < 60) (kk : ax_Z (RX4, cc, nL, rt, ini) d mc ms Fi (pc + 1) L (ax_i (ax_b (ρ.2.1 15 j)) :: S) (fh c ρ) uc us) : ax_Z (RX4, cc, nL, rt, ini) d mc ms Fi (pc) L (ax_i (nI j) :: ax_r (81, 15) :: S) (fh c ρ) uc us := ax_zaldn (f := fun j => ax_b (ρ.2.1 15 j)) j hd rfl rfl hj (by decide) kk
theorem rs_15 {j : Nat} {v : Bool} (hd : decode cc pc = .ok (.bastore, 1)) (hj : j < 60) (kk : ax_Z (RX4, cc, nL, rt, ini) d mc ms Fi (pc + 1) L (S) (fh c (bu ρ 15 j v)) uc us) : ax_Z (RX4, cc, nL, rt, ini) d mc ms Fi (pc) L (ax_i (ax_b v) :: ax_i (nI j) :: ax_r (81, 15) :: S) (fh c ρ) uc us := ax_zastn j hd rfl rfl hj (by decide) (ax_b01 v) (fh_up (ρ2 := (bu ρ 15 j v)) (by simp [rf_f, nu, bu, ru]) (fun i e => rf_a_bu e) (by
  simp only [rf_a]
  congr 3
  funext i
  by_cases e : i = j <;> simp [upd, nu, bu, ru, e])) kk
theorem rg_16 (hd : decode cc pc = .ok (.getfield 50, 3)) (kk : ax_Z (RX4, cc, nL, rt, ini) d mc ms Fi (pc + 3) L (ax_r (81, 16) :: S) (fh c ρ) uc us) : ax_Z (RX4, cc, nL, rt, ini) d mc ms Fi (pc) L (ax_r (80, 0) :: S) (fh c ρ) uc us := ax_get (ci := 5) (k := 16) (T := TX4) hd fh_M rfl (by decide) fl_X4_50 rfl kk
theorem rl_16 {j : Nat} (hd : decode cc pc = .ok (.iaload, 1)) (hj : j < 60) (kk : ax_Z (RX4, cc, nL, rt, ini) d mc ms Fi (pc + 1) L (ax_i (nI (ρ.1 16 j)) :: S) (fh c ρ) uc us) : ax_Z (RX4, cc, nL, rt, ini) d mc ms Fi (pc) L (ax_i (nI j) :: ax_r (81, 16) :: S) (fh c ρ) uc us := ax_ialdn (f := fun j => nI (ρ.1 16 j)) j hd rfl rfl hj (by decide) kk
theorem rs_16 {j : Nat} {v : Nat} (hd : decode cc pc = .ok (.iastore, 1)) (hj : j < 60) (kk : ax_Z (RX4, cc, nL, rt, ini) d mc ms Fi (pc + 1) L (S) (fh c (nu ρ 16 j v)) uc us) : ax_Z (RX4, cc, nL, rt, ini) d mc ms Fi (pc) L (ax_i (nI v) :: ax_i (nI j) :: ax_r (81, 16) :: S) (fh c ρ) uc us := ax_iastn j hd rfl rfl hj (by decide) (fh_up (ρ2 := (nu ρ 16 j v)) (by simp [rf_f, nu, bu, ru]) (fun i e => rf_a_nu e) (by
  simp only [rf_a]
  congr 3
  funext i
  by_cases e : i = j <;> simp [upd, nu, bu, ru, e])) kk
theorem rg_17 (hd : decode cc pc = .ok (.getfield 189, 3)) (kk : ax_Z (RX4, cc, nL, rt, ini) d mc ms Fi (pc + 3) L (ax_i (nI (ρ.1 17 0)) :: S) (fh c ρ) uc us) : ax_Z (RX4, cc, nL, rt, ini) d mc ms Fi (pc) L (ax_r (80, 0) :: S) (fh c ρ) uc us := ax_get (ci := 5) (k := 17) (T := TX4) hd fh_M rfl (by decide) fl_X4_189 rfl kk
theorem rp_17 {v : Nat} (hd : decode cc pc = .ok (.putfield 189, 3)) (kk : ax_Z (RX4, cc, nL, rt, ini) d mc ms Fi (pc + 3) L (S) (fh c (nu ρ 17 0 v)) uc us) : ax_Z (RX4, cc, nL, rt, ini) d mc ms Fi (pc) L (ax_i (nI v) :: ax_r (80, 0) :: S) (fh c ρ) uc us := ax_put (ci := 5) (k := 17) (T := TX4) (ty := .int) hd fh_M rfl (by decide) (by show 17 < 33; decide) fl_X4_189 rfl (by decide +kernel) (fun _ => rfl) (fun _ => rfl) (fh_upf (ρ2 := (nu ρ 17 0 v)) (by simp [rf_f, nu, ru]) (fun i => by
  by_cases e : i = 17
  · subst e; rfl
  · exact rf_a_nu e)) kk
theorem rg_18 (hd : decode cc pc = .ok (.getfield 53, 3)) (kk : ax_Z (RX4, cc, nL, rt, ini) d mc ms Fi (pc + 3) L (ax_r (81, 18) :: S) (fh c ρ) uc us) : ax_Z (RX4, cc, nL, rt, ini) d mc ms Fi (pc) L (ax_r (80, 0) :: S) (fh c ρ) uc us := ax_get (ci := 5) (k := 18) (T := TX4) hd fh_M rfl (by decide) fl_X4_53 rfl kk
theorem rl_18 {j : Nat} (hd : decode cc pc = .ok (.iaload, 1)) (hj : j < 480) (kk : ax_Z (RX4, cc, nL, rt, ini) d mc ms Fi (pc + 1) L (ax_i (nI (ρ.1 18 j)) :: S) (fh c ρ) uc us) : ax_Z (RX4, cc, nL, rt, ini) d mc ms Fi (pc) L (ax_i (nI j) :: ax_r (81, 18) :: S) (fh c ρ) uc us := ax_ialdn (f := fun j => nI (ρ.1 18 j)) j hd rfl rfl hj (by decide) kk
theorem rs_18 {j : Nat} {v : Nat} (hd : decode cc pc = .ok (.iastore, 1)) (hj : j < 480) (kk : ax_Z (RX4, cc, nL, rt, ini) d mc ms Fi (pc + 1) L (S) (fh c (nu ρ 18 j v)) uc us) : ax_Z (RX4, cc, nL, rt, ini) d mc ms Fi (pc) L (ax_i (nI v) :: ax_i (nI j) :: ax_r (81, 18) :: S) (fh c ρ) uc us := ax_iastn j hd rfl rfl hj (by decide) (fh_up (ρ2 := (nu ρ 18 j v)) (by simp [rf_f, nu, bu, ru]) (fun i e => rf_a_nu e) (by
  simp only [rf_a]
  congr 3
  funext i
  by_cases e : i = j <;> simp [upd, nu, bu, ru, e])) kk
theorem rg_19 (hd : decode cc pc = .ok (.getfield 56, 3)) (kk : ax_Z (RX4, cc, nL, rt, ini) d mc ms Fi (pc + 3) L (ax_r (81, 19) :: S) (fh c ρ) uc us) : ax_Z (RX4, cc, nL, rt, ini) d mc ms Fi (pc) L (ax_r (80, 0) :: S) (fh c ρ) uc us := ax_get (ci := 5) (k := 19) (T := TX4) hd fh_M rfl (by decide) fl_X4_56 rfl kk
theorem rl_19 {j : Nat} (hd : decode cc pc = .ok (.iaload, 1)) (hj : j < 480) (kk : ax_Z (RX4, cc, nL, rt, ini) d mc ms Fi (pc + 1) L (ax_i (nI (ρ.1 19 j)) :: S) (fh c ρ) uc us) : ax_Z (RX4, cc, nL, rt, ini) d mc ms Fi (pc) L (ax_i (nI j) :: ax_r (81, 19) :: S) (fh c ρ) uc us := ax_ialdn (f := fun j => nI (ρ.1 19 j)) j hd rfl rfl hj (by decide) kk
theorem rs_19 {j : Nat} {v : Nat} (hd : decode cc pc = .ok (.iastore, 1)) (hj : j < 480) (kk : ax_Z (RX4, cc, nL, rt, ini) d mc ms Fi (pc + 1) L (S) (fh c (nu ρ 19 j v)) uc us) : ax_Z (RX4, cc, nL, rt, ini) d mc ms Fi (pc) L (ax_i (nI v) :: ax_i (nI j) :: ax_r (81, 19) :: S) (fh c ρ) uc us := ax_iastn j hd rfl rfl hj (by decide) (fh_up (ρ2 := (nu ρ 19 j v)) (by simp [rf_f, nu, bu, ru]) (fun i e => rf_a_nu e) (by
  simp only [rf_a]
  congr 3
  funext i
  by_cases e : i = j <;> simp [upd, nu, bu, ru, e])) kk
theorem rg_20 (hd : decode cc pc = .ok (.getfield 59, 3)) (kk : ax_Z (RX4, cc, nL, rt, ini) d mc ms Fi (pc + 3) L (ax_r (81, 20) :: S) (fh c ρ) uc us) : ax_Z (RX4, cc, nL, rt, ini) d mc ms Fi (pc) L (ax_r (80, 0) :: S) (fh c ρ) uc us := ax_get (ci := 5) (k := 20) (T := TX4) hd fh_M rfl (by decide) fl_X4_59 rfl kk
theorem rl_20 {j : Nat} (hd : decode cc pc = .ok (.iaload, 1)) (hj : j < 480) (kk : ax_Z (RX4, cc, nL, rt, ini) d mc ms Fi (pc + 1) L (ax_i (ρ.2.2 20 j) :: S) (fh c ρ) uc us) : ax_Z (RX4, cc, nL, rt, ini) d mc ms Fi (pc) L (ax_i (nI j) :: ax_r (81, 20) :: S) (fh c ρ) uc us := ax_ialdn (f := ρ.2.2 20) j hd rfl rfl hj (by decide) kk
theorem rs_20 {j : Nat} {v : Int32} (hd : decode cc pc = .ok (.iastore, 1)) (hj : j < 480) (kk : ax_Z (RX4, cc, nL, rt, ini) d mc ms Fi (pc + 1) L (S) (fh c (ru ρ 20 j v)) uc us) : ax_Z (RX4, cc, nL, rt, ini) d mc ms Fi (pc) L (ax_i (v) :: ax_i (nI j) :: ax_r (81, 20) :: S) (fh c ρ) uc us := ax_iastn j hd rfl rfl hj (by decide) (fh_up (ρ2 := (ru ρ 20 j v)) (by simp [rf_f, nu, bu, ru]) (fun i e => rf_a_ru e) (by
  simp only [rf_a]
  congr 3
  funext i
  by_cases e : i = j <;> simp [upd, nu, bu, ru, e])) kk
theorem rg_21 (hd : decode cc pc = .ok (.getfield 62, 3)) (kk : ax_Z (RX4, cc, nL, rt, ini) d mc ms Fi (pc + 3) L (ax_r (81, 21) :: S) (fh c ρ) uc us) : ax_Z (RX4, cc, nL, rt, ini) d mc ms Fi (pc) L (ax_r (80, 0) :: S) (fh c ρ) uc us := ax_get (ci := 5) (k := 21) (T := TX4) hd fh_M rfl (by decide) fl_X4_62 rfl kk
theorem rl_21 {j : Nat} (hd : decode cc pc = .ok (.iaload, 1)) (hj : j < 480) (kk : ax_Z (RX4, cc, nL, rt, ini) d mc ms Fi (pc + 1) L (ax_i (nI (ρ.1 21 j)) :: S) (fh c ρ) uc us) : ax_Z (RX4, cc, nL, rt, ini) d mc ms Fi (pc) L (ax_i (nI j) :: ax_r (81, 21) :: S) (fh c ρ) uc us := ax_ialdn (f := fun j => nI (ρ.1 21 j)) j hd rfl rfl hj (by decide) kk
theorem rs_21 {j : Nat} {v : Nat} (hd : decode cc pc = .ok (.iastore, 1)) (hj : j < 480) (kk : ax_Z (RX4, cc, nL, rt, ini) d mc ms Fi (pc + 1) L (S) (fh c (nu ρ 21 j v)) uc us) : ax_Z (RX4, cc, nL, rt, ini) d mc ms Fi (pc) L (ax_i (nI v) :: ax_i (nI j) :: ax_r (81, 21) :: S) (fh c ρ) uc us := ax_iastn j hd rfl rfl hj (by decide) (fh_up (ρ2 := (nu ρ 21 j v)) (by simp [rf_f, nu, bu, ru]) (fun i e => rf_a_nu e) (by
  simp only [rf_a]
  congr 3
  funext i
  by_cases e : i = j <;> simp [upd, nu, bu, ru, e])) kk
theorem rg_22 (hd : decode cc pc = .ok (.getfield 65, 3)) (kk : ax_Z (RX4, cc, nL, rt, ini) d mc ms Fi (pc + 3) L (ax_r (81, 22) :: S) (fh c ρ) uc us) : ax_Z (RX4, cc, nL, rt, ini) d mc ms Fi (pc) L (ax_r (80, 0) :: S) (fh c ρ) uc us := ax_get (ci := 5) (k := 22) (T := TX4) hd fh_M rfl (by decide) fl_X4_65 rfl kk
theorem rl_22 {j : Nat} (hd : decode cc pc = .ok (.baload, 1)) (hj : j < 480) (kk : ax_Z (RX4, cc, nL, rt, ini) d mc ms Fi (pc + 1) L (ax_i (ax_b (ρ.2.1 22 j)) :: S) (fh c ρ) uc us) : ax_Z (RX4, cc, nL, rt, ini) d mc ms Fi (pc) L (ax_i (nI j) :: ax_r (81, 22) :: S) (fh c ρ) uc us := ax_zaldn (f := fun j => ax_b (ρ.2.1 22 j)) j hd rfl rfl hj (by decide) kk
theorem rs_22 {j : Nat} {v : Bool} (hd : decode cc pc = .ok (.bastore, 1)) (hj : j < 480) (kk : ax_Z (RX4, cc, nL, rt, ini) d mc ms Fi (pc + 1) L (S) (fh c (bu ρ 22 j v)) uc us) : ax_Z (RX4, cc, nL, rt, ini) d mc ms Fi (pc) L (ax_i (ax_b v) :: ax_i (nI j) :: ax_r (81, 22) :: S) (fh c ρ) uc us := ax_zastn j hd rfl rfl hj (by decide) (ax_b01 v) (fh_up (ρ2 := (bu ρ 22 j v)) (by simp [rf_f, nu, bu, ru]) (fun i e => rf_a_bu e) (by
  simp only [rf_a]
  congr 3
  funext i
  by_cases e : i = j <;> simp [upd, nu, bu, ru, e])) kk
theorem rg_23 (hd : decode cc pc = .ok (.getfield 68, 3)) (kk : ax_Z (RX4, cc, nL, rt, ini) d mc ms Fi (pc + 3) L (ax_r (81, 23) :: S) (fh c ρ) uc us) : ax_Z (RX4, cc, nL, rt, ini) d mc ms Fi (pc) L (ax_r (80, 0) :: S) (fh c ρ) uc us := ax_get (ci := 5) (k := 23) (T := TX4) hd fh_M rfl (by decide) fl_X4_68 rfl kk
theorem rl_23 {j : Nat} (hd : decode cc pc = .ok (.iaload, 1)) (hj : j < 480) (kk : ax_Z (RX4, cc, nL, rt, ini) d mc ms Fi (pc + 1) L (ax_i (ρ.2.2 23 j) :: S) (fh c ρ) uc us) : ax_Z (RX4, cc, nL, rt, ini) d mc ms Fi (pc) L (ax_i (nI j) :: ax_r (81, 23) :: S) (fh c ρ) uc us := ax_ialdn (f := ρ.2.2 23) j hd rfl rfl hj (by decide) kk
theorem rs_23 {j : Nat} {v : Int32} (hd : decode cc pc = .ok (.iastore, 1)) (hj : j < 480) (kk : ax_Z (RX4, cc, nL, rt, ini) d mc ms Fi (pc + 1) L (S) (fh c (ru ρ 23 j v)) uc us) : ax_Z (RX4, cc, nL, rt, ini) d mc ms Fi (pc) L (ax_i (v) :: ax_i (nI j) :: ax_r (81, 23) :: S) (fh c ρ) uc us := ax_iastn j hd rfl rfl hj (by decide) (fh_up (ρ2 := (ru ρ 23 j v)) (by simp [rf_f, nu, bu, ru]) (fun i e => rf_a_ru e) (by
  simp only [rf_a]
  congr 3
  funext i
  by_cases e : i = j <;> simp [upd, nu, bu, ru, e])) kk
theorem rg_24 (hd : decode cc pc = .ok (.getfield 71, 3)) (kk : ax_Z (RX4, cc, nL, rt, ini) d mc ms Fi (pc + 3) L (ax_r (81, 24) :: S) (fh c ρ) uc us) : ax_Z (RX4, cc, nL, rt, ini) d mc ms Fi (pc) L (ax_r (80, 0) :: S) (fh c ρ) uc us := ax_get (ci := 5) (k := 24) (T := TX4) hd fh_M rfl (by decide) fl_X4_71 rfl kk
theorem rl_24 {j : Nat} (hd : decode cc pc = .ok (.iaload, 1)) (hj : j < 480) (kk : ax_Z (RX4, cc, nL, rt, ini) d mc ms Fi (pc + 1) L (ax_i (nI (ρ.1 24 j)) :: S) (fh c ρ) uc us) : ax_Z (RX4, cc, nL, rt, ini) d mc ms Fi (pc) L (ax_i (nI j) :: ax_r (81, 24) :: S) (fh c ρ) uc us := ax_ialdn (f := fun j => nI (ρ.1 24 j)) j hd rfl rfl hj (by decide) kk
theorem rs_24 {j : Nat} {v : Nat} (hd : decode cc pc = .ok (.iastore, 1)) (hj : j < 480) (kk : ax_Z (RX4, cc, nL, rt, ini) d mc ms Fi (pc + 1) L (S) (fh c (nu ρ 24 j v)) uc us) : ax_Z (RX4, cc, nL, rt, ini) d mc ms Fi (pc) L (ax_i (nI v) :: ax_i (nI j) :: ax_r (81, 24) :: S) (fh c ρ) uc us := ax_iastn j hd rfl rfl hj (by decide) (fh_up (ρ2 := (nu ρ 24 j v)) (by simp [rf_f, nu, bu, ru]) (fun i e => rf_a_nu e) (by
  simp only [rf_a]
  congr 3
  funext i
  by_cases e : i = j <;> simp [upd, nu, bu, ru, e])) kk
theorem rg_25 (hd : decode cc pc = .ok (.getfield 170, 3)) (kk : ax_Z (RX4, cc, nL, rt, ini) d mc ms Fi (pc + 3) L (ax_i (nI (ρ.1 25 0)) :: S) (fh c ρ) uc us) : ax_Z (RX4, cc, nL, rt, ini) d mc ms Fi (pc) L (ax_r (80, 0) :: S) (fh c ρ) uc us := ax_get (ci := 5) (k := 25) (T := TX4) hd fh_M rfl (by decide) fl_X4_170 rfl kk
theorem rp_25 {v : Nat} (hd : decode cc pc = .ok (.putfield 170, 3)) (kk : ax_Z (RX4, cc, nL, rt, ini) d mc ms Fi (pc + 3) L (S) (fh c (nu ρ 25 0 v)) uc us) : ax_Z (RX4, cc, nL, rt, ini) d mc ms Fi (pc) L (ax_i (nI v) :: ax_r (80, 0) :: S) (fh c ρ) uc us := ax_put (ci := 5) (k := 25) (T := TX4) (ty := .int) hd fh_M rfl (by decide) (by show 25 < 33; decide) fl_X4_170 rfl (by decide +kernel) (fun _ => rfl) (fun _ => rfl) (fh_upf (ρ2 := (nu ρ 25 0 v)) (by simp [rf_f, nu, ru]) (fun i => by
  by_cases e : i = 25
  · subst e; rfl
  · exact rf_a_nu e)) kk
theorem rg_26 (hd : decode cc pc = .ok (.getfield 74, 3)) (kk : ax_Z (RX4, cc, nL, rt, ini) d mc ms Fi (pc + 3) L (ax_r (81, 26) :: S) (fh c ρ) uc us) : ax_Z (RX4, cc, nL, rt, ini) d mc ms Fi (pc) L (ax_r (80, 0) :: S) (fh c ρ) uc us := ax_get (ci := 5) (k := 26) (T := TX4) hd fh_M rfl (by decide) fl_X4_74 rfl kk
theorem rl_26 {j : Nat} (hd : decode cc pc = .ok (.iaload, 1)) (hj : j < 1440) (kk : ax_Z (RX4, cc, nL, rt, ini) d mc ms Fi (pc + 1) L (ax_i (ρ.2.2 26 j) :: S) (fh c ρ) uc us) : ax_Z (RX4, cc, nL, rt, ini) d mc ms Fi (pc) L (ax_i (nI j) :: ax_r (81, 26) :: S) (fh c ρ) uc us := ax_ialdn (f := ρ.2.2 26) j hd rfl rfl hj (by decide) kk
theorem rs_26 {j : Nat} {v : Int32} (hd : decode cc pc = .ok (.iastore, 1)) (hj : j < 1440) (kk : ax_Z (RX4, cc, nL, rt, ini) d mc ms Fi (pc + 1) L (S) (fh c (ru ρ 26 j v)) uc us) : ax_Z (RX4, cc, nL, rt, ini) d mc ms Fi (pc) L (ax_i (v) :: ax_i (nI j) :: ax_r (81, 26) :: S) (fh c ρ) uc us := ax_iastn j hd rfl rfl hj (by decide) (fh_up (ρ2 := (ru ρ 26 j v)) (by simp [rf_f, nu, bu, ru]) (fun i e => rf_a_ru e) (by
  simp only [rf_a]
  congr 3
  funext i
  by_cases e : i = j <;> simp [upd, nu, bu, ru, e])) kk
theorem rg_27 (hd : decode cc pc = .ok (.getfield 77, 3)) (kk : ax_Z (RX4, cc, nL, rt, ini) d mc ms Fi (pc + 3) L (ax_r (81, 27) :: S) (fh c ρ) uc us) : ax_Z (RX4, cc, nL, rt, ini) d mc ms Fi (pc) L (ax_r (80, 0) :: S) (fh c ρ) uc us := ax_get (ci := 5) (k := 27) (T := TX4) hd fh_M rfl (by decide) fl_X4_77 rfl kk
theorem rl_27 {j : Nat} (hd : decode cc pc = .ok (.iaload, 1)) (hj : j < 1440) (kk : ax_Z (RX4, cc, nL, rt, ini) d mc ms Fi (pc + 1) L (ax_i (nI (ρ.1 27 j)) :: S) (fh c ρ) uc us) : ax_Z (RX4, cc, nL, rt, ini) d mc ms Fi (pc) L (ax_i (nI j) :: ax_r (81, 27) :: S) (fh c ρ) uc us := ax_ialdn (f := fun j => nI (ρ.1 27 j)) j hd rfl rfl hj (by decide) kk
theorem rs_27 {j : Nat} {v : Nat} (hd : decode cc pc = .ok (.iastore, 1)) (hj : j < 1440) (kk : ax_Z (RX4, cc, nL, rt, ini) d mc ms Fi (pc + 1) L (S) (fh c (nu ρ 27 j v)) uc us) : ax_Z (RX4, cc, nL, rt, ini) d mc ms Fi (pc) L (ax_i (nI v) :: ax_i (nI j) :: ax_r (81, 27) :: S) (fh c ρ) uc us := ax_iastn j hd rfl rfl hj (by decide) (fh_up (ρ2 := (nu ρ 27 j v)) (by simp [rf_f, nu, bu, ru]) (fun i e => rf_a_nu e) (by
  simp only [rf_a]
  congr 3
  funext i
  by_cases e : i = j <;> simp [upd, nu, bu, ru, e])) kk
theorem rg_28 (hd : decode cc pc = .ok (.getfield 164, 3)) (kk : ax_Z (RX4, cc, nL, rt, ini) d mc ms Fi (pc + 3) L (ax_i (nI (ρ.1 28 0)) :: S) (fh c ρ) uc us) : ax_Z (RX4, cc, nL, rt, ini) d mc ms Fi (pc) L (ax_r (80, 0) :: S) (fh c ρ) uc us := ax_get (ci := 5) (k := 28) (T := TX4) hd fh_M rfl (by decide) fl_X4_164 rfl kk
theorem rp_28 {v : Nat} (hd : decode cc pc = .ok (.putfield 164, 3)) (kk : ax_Z (RX4, cc, nL, rt, ini) d mc ms Fi (pc + 3) L (S) (fh c (nu ρ 28 0 v)) uc us) : ax_Z (RX4, cc, nL, rt, ini) d mc ms Fi (pc) L (ax_i (nI v) :: ax_r (80, 0) :: S) (fh c ρ) uc us := ax_put (ci := 5) (k := 28) (T := TX4) (ty := .int) hd fh_M rfl (by decide) (by show 28 < 33; decide) fl_X4_164 rfl (by decide +kernel) (fun _ => rfl) (fun _ => rfl) (fh_upf (ρ2 := (nu ρ 28 0 v)) (by simp [rf_f, nu, ru]) (fun i => by
  by_cases e : i = 28
  · subst e; rfl
  · exact rf_a_nu e)) kk
theorem rg_29 (hd : decode cc pc = .ok (.getfield 167, 3)) (kk : ax_Z (RX4, cc, nL, rt, ini) d mc ms Fi (pc + 3) L (ax_i (nI (ρ.1 29 0)) :: S) (fh c ρ) uc us) : ax_Z (RX4, cc, nL, rt, ini) d mc ms Fi (pc) L (ax_r (80, 0) :: S) (fh c ρ) uc us := ax_get (ci := 5) (k := 29) (T := TX4) hd fh_M rfl (by decide) fl_X4_167 rfl kk
theorem rp_29 {v : Nat} (hd : decode cc pc = .ok (.putfield 167, 3)) (kk : ax_Z (RX4, cc, nL, rt, ini) d mc ms Fi (pc + 3) L (S) (fh c (nu ρ 29 0 v)) uc us) : ax_Z (RX4, cc, nL, rt, ini) d mc ms Fi (pc) L (ax_i (nI v) :: ax_r (80, 0) :: S) (fh c ρ) uc us := ax_put (ci := 5) (k := 29) (T := TX4) (ty := .int) hd fh_M rfl (by decide) (by show 29 < 33; decide) fl_X4_167 rfl (by decide +kernel) (fun _ => rfl) (fun _ => rfl) (fh_upf (ρ2 := (nu ρ 29 0 v)) (by simp [rf_f, nu, ru]) (fun i => by
  by_cases e : i = 29
  · subst e; rfl
  · exact rf_a_nu e)) kk
theorem rg_30 (hd : decode cc pc = .ok (.getfield 196, 3)) (kk : ax_Z (RX4, cc, nL, rt, ini) d mc ms Fi (pc + 3) L (ax_i (ρ.2.2 30 0) :: S) (fh c ρ) uc us) : ax_Z (RX4, cc, nL, rt, ini) d mc ms Fi (pc) L (ax_r (80, 0) :: S) (fh c ρ) uc us := ax_get (ci := 5) (k := 30) (T := TX4) hd fh_M rfl (by decide) fl_X4_196 rfl kk
theorem rp_30 {v : Int32} (hd : decode cc pc = .ok (.putfield 196, 3)) (kk : ax_Z (RX4, cc, nL, rt, ini) d mc ms Fi (pc + 3) L (S) (fh c (ru ρ 30 0 v)) uc us) : ax_Z (RX4, cc, nL, rt, ini) d mc ms Fi (pc) L (ax_i (v) :: ax_r (80, 0) :: S) (fh c ρ) uc us := ax_put (ci := 5) (k := 30) (T := TX4) (ty := .int) hd fh_M rfl (by decide) (by show 30 < 33; decide) fl_X4_196 rfl (by decide +kernel) (fun _ => rfl) (fun _ => rfl) (fh_upf (ρ2 := (ru ρ 30 0 v)) (by simp [rf_f, nu, ru]) (fun i => by
  by_cases e : i = 30
  · subst e; rfl
  · exact rf_a_ru e)) kk
theorem rg_31 (hd : decode cc pc = .ok (.getfield 80, 3)) (kk : ax_Z (RX4, cc, nL, rt, ini) d mc ms Fi (pc + 3) L (ax_r (81, 31) :: S) (fh c ρ) uc us) : ax_Z (RX4, cc, nL, rt, ini) d mc ms Fi (pc) L (ax_r (80, 0) :: S) (fh c ρ) uc us := ax_get (ci := 5) (k := 31) (T := TX4) hd fh_M rfl (by decide) fl_X4_80 rfl kk
theorem rl_31 {j : Nat} (hd : decode cc pc = .ok (.iaload, 1)) (hj : j < 6) (kk : ax_Z (RX4, cc, nL, rt, ini) d mc ms Fi (pc + 1) L (ax_i (ρ.2.2 31 j) :: S) (fh c ρ) uc us) : ax_Z (RX4, cc, nL, rt, ini) d mc ms Fi (pc) L (ax_i (nI j) :: ax_r (81, 31) :: S) (fh c ρ) uc us := ax_ialdn (f := ρ.2.2 31) j hd rfl rfl hj (by decide) kk
theorem rs_31 {j : Nat} {v : Int32} (hd : decode cc pc = .ok (.iastore, 1)) (hj : j < 6) (kk : ax_Z (RX4, cc, nL, rt, ini) d mc ms Fi (pc + 1) L (S) (fh c (ru ρ 31 j v)) uc us) : ax_Z (RX4, cc, nL, rt, ini) d mc ms Fi (pc) L (ax_i (v) :: ax_i (nI j) :: ax_r (81, 31) :: S) (fh c ρ) uc us := ax_iastn j hd rfl rfl hj (by decide) (fh_up (ρ2 := (ru ρ 31 j v)) (by simp [rf_f, nu, bu, ru]) (fun i e => rf_a_ru e) (by
  simp only [rf_a]
  congr 3
  funext i
  by_cases e : i = j <;> simp [upd, nu, bu, ru, e])) kk
theorem rg_32 (hd : decode cc pc = .ok (.getfield 83, 3)) (kk : ax_Z (RX4, cc, nL, rt, ini) d mc ms Fi (pc + 3) L (ax_r (81, 32) :: S) (fh c ρ) uc us) : ax_Z (RX4, cc, nL, rt, ini) d mc ms Fi (pc) L (ax_r (80, 0) :: S) (fh c ρ) uc us := ax_get (ci := 5) (k := 32) (T := TX4) hd fh_M rfl (by decide) fl_X4_83 rfl kk
theorem rl_32 {j : Nat} (hd : decode cc pc = .ok (.iaload, 1)) (hj : j < 48) (kk : ax_Z (RX4, cc, nL, rt, ini) d mc ms Fi (pc + 1) L (ax_i (ρ.2.2 32 j) :: S) (fh c ρ) uc us) : ax_Z (RX4, cc, nL, rt, ini) d mc ms Fi (pc) L (ax_i (nI j) :: ax_r (81, 32) :: S) (fh c ρ) uc us := ax_ialdn (f := ρ.2.2 32) j hd rfl rfl hj (by decide) kk
theorem rs_32 {j : Nat} {v : Int32} (hd : decode cc pc = .ok (.iastore, 1)) (hj : j < 48) (kk : ax_Z (RX4, cc, nL, rt, ini) d mc ms Fi (pc + 1) L (S) (fh c (ru ρ 32 j v)) uc us) : ax_Z (RX4, cc, nL, rt, ini) d mc ms Fi (pc) L (ax_i (v) :: ax_i (nI j) :: ax_r (81, 32) :: S) (fh c ρ) uc us := ax_iastn j hd rfl rfl hj (by decide) (fh_up (ρ2 := (ru ρ 32 j v)) (by simp [rf_f, nu, bu, ru]) (fun i e => rf_a_ru e) (by
  simp only [rf_a]
  congr 3
  funext i
  by_cases e : i = j <;> simp [upd, nu, bu, ru, e])) kk
end REF
