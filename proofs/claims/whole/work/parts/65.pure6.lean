theorem sum_up {t v : Nat} {g : Nat → Nat} : ∀ (l : List Nat), l.Nodup → t ∈ l → (l.map (fun x => if x = t then v else g x)).sum + g t = (l.map g).sum + v
  | [], _, h => by cases h
  | x :: l, hn, h => by
    have hn := List.nodup_cons.mp hn
    rw [List.map_cons, List.map_cons, List.sum_cons, List.sum_cons]
    by_cases e : x = t
    · have : l.map (fun x => if x = t then v else g x) = l.map g := mp_co fun y hy => if_neg (fun z => hn.1 (by rw [e, ← z]; exact hy))
      rw [this, if_pos e, e]
      omega
    · have := sum_up (v := v) (g := g) l hn.2 ((List.mem_cons.mp h).resolve_left (fun z => e z.symm))
      rw [if_neg e]
      omega
theorem sum_le {f g : Nat → Nat} : ∀ (l : List Nat), (∀ x, f x ≤ g x) → (l.map f).sum ≤ (l.map g).sum
  | [], _ => Nat.le_refl _
  | x :: l, h => by
    rw [List.map_cons, List.map_cons, List.sum_cons, List.sum_cons]
    have := sum_le l h
    have := h x
    omega
theorem rg_nd {a n : Nat} : (List.range' a n).Nodup := List.nodup_range' (step := 1)
theorem gS_up {t v : Nat} {g : Nat → Nat} (ht : t < 60) : gSum (fun x => if x = t then v else g x) + g t = gSum g + v := sum_up _ rg_nd (List.mem_range'_1.mpr (by omega))
theorem gS_le {t : Nat} {g : Nat → Nat} (ht : t < 60) (h : ∀ x, g x ≤ 24) : gSum g ≤ 1416 + g t := by
  have h1 := gS_up (t := t) (v := 0) (g := g) ht
  have h2 : gSum (fun x => if x = t then 0 else g x) ≤ gSum (fun x => if x = t then 0 else 24) := sum_le _ fun x => by
    split
    · exact Nat.le_refl _
    · exact h x
  have h3 := gS_up (t := t) (v := 0) (g := fun _ => 24) ht
  have h4 : gSum (fun _ => 24) = 1440 := by decide
  omega
theorem fm_len {f : Nat → List (Nat × Nat)} : ∀ (l : List Nat), (∀ x, (f x).length ≤ 3) → (l.flatMap f).length ≤ 3 * l.length
  | [], _ => by simp
  | x :: l, h => by
    rw [List.flatMap_cons, List.length_append, List.length_cons]
    have := fm_len l h
    have := h x
    omega
section PU6
variable {κ ρ : ax_R} {b : Nat} {t : Nat}
theorem rB_len (h : Iv κ ρ b (fun _ => True)) : (rB κ t).length ≤ 24 := by
  have h8 := h.kf.i8 t
  unfold rB
  refine Nat.le_trans (fm_len _ fun i => ?_) ?_
  · unfold rBk
    split
    · rw [List.length_map, ← List.countP_eq_length_filter]
      refine Nat.le_trans (List.countP_mono_left fun x _ hx => ?_) (h.m3 (κ.1 18 i))
      simp only [Bool.and_eq_true] at hx
      exact hx.2
    · exact Nat.zero_le _
  · unfold rI
    rw [List.length_range']
    omega
theorem e_ki : 6 * cKi κ t + κ.1 44 t % 6 = 48 * t + κ.1 44 t := by unfold cKi; omega
/-- a backup gets a record -/
theorem act_back (h : Iv κ ρ b (fun _ => True)) (ht : t < κ.1 10 0) (hp : κ.1 12 t = 3) (hb : b + 1 < 1000000) : iA (bu (nu κ 44 t (κ.1 44 t + 1)) 41 (6 * cKi κ t + κ.1 44 t % 6) true) (nu (nu (nu (ru ρ 26 (ρ.1 25 0) (nI (cKi κ t))) 27 (ρ.1 25 0) (κ.1 44 t % 6)) 25 0 (ρ.1 25 0 + 1)) 13 t (ρ.1 13 t + 1)) (b + 1) t ∧ ρ.1 25 0 < 1440 := by
  have hw := h.kf
  have h60 := hw.nT
  have b13 := (h.bd t).2.2.2
  have h8 := hw.i8 t
  obtain ⟨s0, s1, s2⟩ := h.st t ht (by unfold rAc; rw [hp]; rfl) trivial
  have s2' := s2
  rw [np_3 hp, Bool.and_eq_true] at s2'
  have hs : κ.1 44 t % 6 < κ.1 5 (κ.1 18 (cKi κ t)) := by
    have := s2'.2
    unfold bk at this
    rw [Bool.and_eq_true, decide_eq_true_eq] at this
    exact this.1
  have hi : κ.1 44 t / 6 < κ.1 14 t := by omega
  have hik : ik κ (cKi κ t) := ik.of hw ht hi
  have hki : cKi κ t < 480 := by unfold cKi; omega
  have e0 : (6 * cKi κ t + κ.1 44 t % 6) / 6 = cKi κ t ∧ (6 * cKi κ t + κ.1 44 t % 6) % 6 = κ.1 44 t % 6 := by omega
  have e48 : (6 * cKi κ t + κ.1 44 t % 6) / 48 = t ∧ (6 * cKi κ t + κ.1 44 t % 6) % 48 = κ.1 44 t := by rw [e_ki]; omega
  have h13 : ρ.1 13 t < 24 := by
    have n1 := (st0_nx s0).1 (by omega)
    have n2 : cNx κ t = some (κ.1 44 t) := List.find?_range'_eq_some.mpr ⟨s2, List.mem_range'_1.mpr (by omega), fun j h1 h2 => by omega⟩
    rw [n2] at n1
    have n3 : (rB κ t)[ρ.1 13 t]? = some (8 * t + κ.1 44 t / 6, κ.1 44 t % 6) := by
      rw [← al_3 hw hp, List.getElem?_map, ← n1]
      rfl
    have n4 := (List.getElem?_eq_some_iff.mp n3).1
    have n5 := rB_len (t := t) h
    omega
  obtain ⟨g, a1, a2, a3, a4⟩ := h.gb
  have hR : ρ.1 25 0 < 1440 := by
    have := gS_le (t := t) (by omega) a2
    have := a4 t hp
    omega
  refine ⟨?_, hR⟩
  have e44 : (bu (nu κ 44 t (κ.1 44 t + 1)) 41 (6 * cKi κ t + κ.1 44 t % 6) true).1 44 t = κ.1 44 t + 1 := by simp [nu, bu]
  have x44 : ∀ x, x ≠ t → (bu (nu κ 44 t (κ.1 44 t + 1)) 41 (6 * cKi κ t + κ.1 44 t % 6) true).1 44 x = κ.1 44 x := fun x hx => by simp [nu, bu, hx]
  have e41 : ∀ e, (bu (nu κ 44 t (κ.1 44 t + 1)) 41 (6 * cKi κ t + κ.1 44 t % 6) true).2.1 41 e = if e = 6 * cKi κ t + κ.1 44 t % 6 then true else κ.2.1 41 e := fun e => by simp [nu, bu]
  generalize hρ2 : nu (nu (nu (ru ρ 26 (ρ.1 25 0) (nI (cKi κ t))) 27 (ρ.1 25 0) (κ.1 44 t % 6)) 25 0 (ρ.1 25 0 + 1)) 13 t (ρ.1 13 t + 1) = ρ2
  have f13 : ∀ x, ρ2.1 13 x = if x = t then ρ.1 13 t + 1 else ρ.1 13 x := fun x => by rw [← hρ2]; simp [nu, ru]
  have f25 : ρ2.1 25 0 = ρ.1 25 0 + 1 := by rw [← hρ2]; simp [nu]
  have f27 : ∀ k, ρ2.1 27 k = if k = ρ.1 25 0 then κ.1 44 t % 6 else ρ.1 27 k := fun k => by rw [← hρ2]; simp [nu, ru]
  have f26 : ∀ k, ρ2.2.2 26 k = if k = ρ.1 25 0 then nI (cKi κ t) else ρ.2.2 26 k := fun k => by rw [← hρ2]; simp [nu, ru]
  have fag : ag (bu (nu κ 44 t (κ.1 44 t + 1)) 41 (6 * cKi κ t + κ.1 44 t % 6) true) ρ2 := by
    rw [← hρ2]
    exact ag_nur (ag_nur (ag_nur (ag_rur (ag_buc (ag_nuc h.ag (by decide)) (by decide)) (by decide)) (by decide)) (by decide)) (by decide)
  have fow : own ρ2 := by
    obtain ⟨o1, o2, o3, o4, o5, o6, o7, o8, o9⟩ := h.ow
    refine ⟨fun j => ?_, fun j => ?_, fun j => ?_, fun j => ?_, fun j => ?_, fun j => ?_, fun j => ?_, by omega, fun k => ?_⟩
    · rw [f13]; split; omega; exact o1 j
    · by_cases e : j = 0
      · rw [e, f25]; omega
      · have : ρ2.1 25 j = ρ.1 25 j := by rw [← hρ2]; simp [nu, ru, e]
        rw [this]; exact o2 j
    · have : ρ2.1 28 j = ρ.1 28 j := by rw [← hρ2]; simp [nu, ru]
      rw [this]; exact o3 j
    · have : ρ2.1 29 j = ρ.1 29 j := by rw [← hρ2]; simp [nu, ru]
      rw [this]; exact o4 j
    · have : ρ2.1 44 j = ρ.1 44 j := by rw [← hρ2]; simp [nu, ru]
      rw [this]; exact o5 j
    · have : ρ2.1 47 j = ρ.1 47 j := by rw [← hρ2]; simp [nu, ru]
      rw [this]; exact o6 j
    · rw [f27]; split; omega; exact o7 j
    · rw [f26]; split
      · exact Or.inr ⟨_, hki, rfl⟩
      · exact o9 k
  clear hρ2
  refine ⟨iv_upd (t := t) h (kf_re (κ := nu κ 44 t (κ.1 44 t + 1)) (kf_cu hw ht (by omega)) hik hs) fag fow (fun k hk => ?_) (fun k hk => ?_) (fun e he => ?_) (fun _ _ _ _ => Iff.rfl) (fun _ => Or.inl rfl) (fun _ _ => rfl) x44 (fun x hx => by rw [f13, if_neg hx]) (fun j => Nat.le_succ_of_le (h.bd j).1) (Nat.le_succ b) (by rw [f13, if_pos rfl]; omega) h.pa h.pb h.pc (fun k hk => ?_) (fun e he => ?_) (fun k k2 e e2 h1 h2 h3 h4 h5 h6 h7 h9 h10 => ?_) (fun e he => ?_) (fun _ _ z => absurd rfl z) (fun _ _ _ => trivial) ?_ ?_, fun _ => ?_⟩
  · simp only [List.mem_cons, List.not_mem_nil, or_false, not_or] at hk
    exact nk (by simp [hk])
  · simp only [List.mem_cons, List.not_mem_nil, or_false, not_or] at hk
    exact bkk hk.2
  · rw [e41, if_neg]
    intro z
    rw [z] at he
    exact he e48.1
  · rw [f25] at hk
    rw [f26, f27]
    by_cases z : k = ρ.1 25 0
    · rw [if_pos z, if_pos z]
      exact Or.inr ⟨6 * cKi κ t + κ.1 44 t % 6, by omega, by rw [e41, if_pos rfl], by rw [e0.1], e0.2.symm⟩
    · rw [if_neg z, if_neg z]
      rcases h.r1 k (by omega) with q | ⟨e, q1, q2, q3, q4⟩
      · exact Or.inl q
      · exact Or.inr ⟨e, q1, by rw [e41, q2]; split <;> rfl, q3, q4⟩
  · rw [e41] at he
    rw [f25]
    by_cases z : e = 6 * cKi κ t + κ.1 44 t % 6
    · refine ⟨by omega, ρ.1 25 0, by omega, ?_, ?_⟩
      · rw [f26, if_pos rfl, z, e0.1]
      · rw [f27, if_pos rfl, z, e0.2]
    · rw [if_neg z] at he
      obtain ⟨q1, k, q2, q3, q4⟩ := h.r2 e he
      refine ⟨q1, k, by omega, ?_, ?_⟩
      · rw [f26, if_neg (by omega)]; exact q3
      · rw [f27, if_neg (by omega)]; exact q4
  · rw [f25] at h2
    have z1 : k ≠ ρ.1 25 0 := by omega
    rw [f26, if_neg z1] at h3
    rw [f27, if_neg z1] at h4
    by_cases z : k2 = ρ.1 25 0
    · rw [f26, if_pos z] at h5
      rw [f27, if_pos z] at h6
      have h5 := (nI_inj (by omega) (by omega)).mp h5
      have he2 : e2 = 6 * cKi κ t + κ.1 44 t % 6 := by omega
      rcases h.r1 k (by omega) with q | ⟨e', q1, q2, q3, q4⟩
      · rw [q] at h3; exact absurd h3.symm (nI_ne9 (by omega))
      · rw [h3] at q3
        rw [h4] at q4
        have q3 := (nI_inj (by omega) (by omega)).mp q3
        have : e = e' := by omega
        subst this
        have q5 := (h.r4 e q2).2.2.2.2
        have : e / 48 = t := by rw [h10, he2]; exact e48.1
        rw [this] at q5
        have := q5 hp
        omega
    · rw [f26, if_neg z] at h5
      rw [f27, if_neg z] at h6
      exact h.r3 k k2 e e2 h1 (by omega) h3 h4 h5 h6 h7 h9 h10
  · rw [e41] at he
    by_cases z : e = 6 * cKi κ t + κ.1 44 t % 6
    · rw [z, e0.1, e48.1, e48.2, e44]
      exact ⟨hik, s2'.1, by show 3 ≤ κ.1 12 t; omega, by show κ.1 12 t ≤ 5; omega, fun _ => by omega⟩
    · rw [if_neg z] at he
      obtain ⟨q1, q2, q3, q4, q5⟩ := h.r4 e he
      refine ⟨q1, q2, q3, q4, fun y => ?_⟩
      have := q5 y
      by_cases w : e / 48 = t
      · rw [w, e44]; rw [w] at this; omega
      · rw [x44 _ w]; exact this
  · refine ⟨fun x => if x = t then ρ.1 13 t + 1 else g x, ?_, fun x => ?_, fun x hx => ?_, fun x hx => ?_⟩
    · have := gS_up (t := t) (v := ρ.1 13 t + 1) (g := g) (by omega)
      have := a4 t hp
      rw [f25]
      omega
    · show (if x = t then ρ.1 13 t + 1 else g x) ≤ 24
      split
      · omega
      · exact a2 x
    · have hx : κ.1 12 x ≤ 2 := hx
      show (if x = t then ρ.1 13 t + 1 else g x) = 0
      rw [if_neg (fun z : x = t => by rw [z] at hx; omega)]
      exact a3 x hx
    · rw [f13]
      show (if x = t then ρ.1 13 t + 1 else g x) ≤ _
      split
      · exact Nat.le_refl _
      · exact a4 x hx
  · intro i _ hi hwr _
    exact h.hl t i ht hi hwr (Or.inr (Or.inr (Or.inl hp)))
  · refine ⟨by rw [e44]; exact s1, fun _ => ?_, fun q => by have q : 5 ≤ κ.1 12 t := q; omega⟩
    rw [e44, f13, if_pos rfl, s0.2.1 (by omega)]
    exact (cnt_succ (p := cNp κ t) s2).symm.trans (cP_co fun j _ => by rw [np_3 hp, np_3 (show (bu (nu κ 44 t (κ.1 44 t + 1)) 41 (6 * cKi κ t + κ.1 44 t % 6) true).1 12 t = 3 from hp)]; rfl)
end PU6
