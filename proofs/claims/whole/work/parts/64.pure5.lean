section PU5
variable {κ ρ : ax_R} {b : Nat} {t : Nat}
/-- a state behind an act: what is shown of each -/
def iA (κ2 ρ2 : ax_R) (b t : Nat) : Prop := Iv κ2 ρ2 b (fun x => x ≠ t) ∧ (rAc κ2 t = true → st0 κ2 ρ2 t)
theorem nk {κ : ax_R} {a j v : Nat} {k : Nat} (h : k ≠ a) : (nu κ a j v).1 k = κ.1 k := by funext x; simp [nu, h]
theorem nx {κ : ax_R} {a j v x : Nat} (h : x ≠ j) : (nu κ a j v).1 a x = κ.1 a x := by simp [nu, h]
theorem rk {κ : ax_R} {a j : Nat} {v : Int32} {k : Nat} (h : k ≠ a) : (ru κ a j v).2.2 k = κ.2.2 k := by funext x; simp [ru, h]
theorem bkk {κ : ax_R} {a j : Nat} {v : Bool} {k : Nat} (h : k ≠ a) : (bu κ a j v).2.1 k = κ.2.1 k := by funext x; simp [bu, h]
/-- it gives up -/
theorem act_up (h : Iv κ ρ b (fun _ => True)) (ht : t < κ.1 10 0) (hp : κ.1 12 t = 1 ∨ κ.1 12 t = 2) (hb : b + 1 < 1000000) : iA (nu (nu (nu κ 44 t (κ.1 44 t + 1)) 12 t 6) 44 t 0) (nu (nu ρ 12 t 6) 13 t (ρ.1 13 t + 1)) (b + 1) t := by
  have hw := h.kf
  have b13 := (h.bd t).2.2.2
  have h8 := hw.i8 t
  have hc := (h.st t ht (by unfold rAc; rcases hp with q | q <;> rw [q] <;> rfl) trivial).2.1
  have e12 : (nu (nu (nu κ 44 t (κ.1 44 t + 1)) 12 t 6) 44 t 0).1 12 t = 6 := by simp [nu]
  have e44 : (nu (nu (nu κ 44 t (κ.1 44 t + 1)) 12 t 6) 44 t 0).1 44 t = 0 := by simp [nu]
  have e13 : (nu (nu ρ 12 t 6) 13 t (ρ.1 13 t + 1)).1 13 t = ρ.1 13 t + 1 := by simp [nu]
  have x12 : ∀ x, x ≠ t → (nu (nu (nu κ 44 t (κ.1 44 t + 1)) 12 t 6) 44 t 0).1 12 x = κ.1 12 x := fun x hx => by simp [nu, hx]
  have x44 : ∀ x, x ≠ t → (nu (nu (nu κ 44 t (κ.1 44 t + 1)) 12 t 6) 44 t 0).1 44 x = κ.1 44 x := fun x hx => by simp [nu, hx]
  refine ⟨iv_upd (t := t) h (kf_cu (kf_ph (kf_cu hw ht (by omega)) ht (by omega)) ht (by omega)) (ag_nur (ag_nuc (ag_nu (ag_nuc h.ag (by decide))) (by decide)) (by decide)) (own_nu (own_nu h.ow (by decide) (by omega)) (by decide) (by omega)) (fun k hk => ?_) (fun _ _ => rfl) (fun _ _ => rfl) (fun _ _ _ _ => Iff.rfl) (fun _ => Or.inl rfl) x12 x44 (fun x hx => by simp [nu, hx]) (fun j => Nat.le_succ_of_le (h.bd j).1) (Nat.le_succ b) (by rw [e13]; omega) h.pa h.pb (fun x hx => ?_) h.r1 h.r2 h.r3 (fun e he => ?_) (fun _ _ z => absurd rfl z) (fun _ _ _ => trivial) ?_ ?_, fun _ => ?_⟩
  · simp only [List.mem_cons, List.not_mem_nil, or_false, not_or] at hk
    funext x
    simp [nu, hk]
  · by_cases z : x = t
    · rw [z, e12] at hx; omega
    · rw [x12 x z] at hx; exact h.pc x hx
  · obtain ⟨q1, q2, q3, q4, q5⟩ := h.r4 e he
    by_cases z : e / 48 = t
    · rw [z] at q3; omega
    · rw [x12 _ z, x44 _ z]; exact ⟨q1, q2, q3, q4, q5⟩
  · obtain ⟨g, a1, a2, a3, a4⟩ := h.gb
    refine ⟨g, a1, a2, fun x hx => ?_, fun x hx => ?_⟩
    · by_cases z : x = t
      · rw [z, e12] at hx; omega
      · rw [x12 x z] at hx; exact a3 x hx
    · by_cases z : x = t
      · rw [z, e12] at hx; omega
      · rw [x12 x z] at hx
        have : (nu (nu ρ 12 t 6) 13 t (ρ.1 13 t + 1)).1 13 x = ρ.1 13 x := by simp [nu, z]
        rw [this]
        exact a4 x hx
  · intro i _ _ _ hcc
    rw [e12] at hcc
    omega
  · refine ⟨by rw [e44]; exact Nat.zero_le _, fun q => by rw [e12] at q; omega, fun _ j hj => by rw [e44] at hj; omega⟩
/-- the cursor goes one further, and nothing else happens to the phase -/
theorem gb_same {g : Nat → Nat} {κ2 ρ2 : ax_R} (h : ρ.1 25 0 ≤ gSum g ∧ (∀ t, g t ≤ 24) ∧ (∀ t, κ.1 12 t ≤ 2 → g t = 0) ∧ (∀ t, κ.1 12 t = 3 → g t ≤ ρ.1 13 t)) (e25 : ρ2.1 25 0 = ρ.1 25 0) (e12 : ∀ x, κ2.1 12 x = κ.1 12 x) (e13 : ∀ x, ρ.1 13 x ≤ ρ2.1 13 x) : ∃ g : Nat → Nat, ρ2.1 25 0 ≤ gSum g ∧ (∀ t, g t ≤ 24) ∧ (∀ t, κ2.1 12 t ≤ 2 → g t = 0) ∧ (∀ t, κ2.1 12 t = 3 → g t ≤ ρ2.1 13 t) := by
  obtain ⟨a1, a2, a3, a4⟩ := h
  exact ⟨g, by rw [e25]; exact a1, a2, fun x hx => a3 x (by rw [← e12]; exact hx), fun x hx => Nat.le_trans (a4 x (by rw [← e12]; exact hx)) (e13 x)⟩
theorem n13 {x v : Nat} (h : ρ.1 13 t ≤ v) : ρ.1 13 x ≤ (nu ρ 13 t v).1 13 x := by
  by_cases z : x = t
  · rw [z]; simpa [nu] using h
  · rw [nx z]; exact Nat.le_refl _
theorem act_look (h : Iv κ ρ b (fun _ => True)) (ht : t < κ.1 10 0) (hp : κ.1 12 t = 2) (hb : b + 1 < 1000000) : iA (nu κ 44 t (κ.1 44 t + 1)) (nu ρ 13 t (ρ.1 13 t + 1)) (b + 1) t := by
  have hw := h.kf
  have b13 := (h.bd t).2.2.2
  have h8 := hw.i8 t
  obtain ⟨s0, s1, s2⟩ := h.st t ht (by unfold rAc; rw [hp]; rfl) trivial
  have e44 : (nu κ 44 t (κ.1 44 t + 1)).1 44 t = κ.1 44 t + 1 := by simp [nu]
  have e13 : (nu ρ 13 t (ρ.1 13 t + 1)).1 13 t = ρ.1 13 t + 1 := by simp [nu]
  have x44 : ∀ x, x ≠ t → (nu κ 44 t (κ.1 44 t + 1)).1 44 x = κ.1 44 x := fun x hx => nx hx
  obtain ⟨g, hg⟩ := h.gb
  refine ⟨iv_upd (t := t) h (kf_cu hw ht (by omega)) (ag_nur (ag_nuc h.ag (by decide)) (by decide)) (own_nu h.ow (by decide) (by omega)) (fun k hk => ?_) (fun _ _ => rfl) (fun _ _ => rfl) (fun _ _ _ _ => Iff.rfl) (fun _ => Or.inl rfl) (fun _ _ => rfl) x44 (fun x hx => nx hx) (fun j => Nat.le_succ_of_le (h.bd j).1) (Nat.le_succ b) (by rw [e13]; omega) h.pa h.pb h.pc h.r1 h.r2 h.r3 (fun e he => ?_) (fun _ _ z => absurd rfl z) (fun _ _ _ => trivial) (gb_same hg rfl (fun _ => rfl) (fun x => n13 (Nat.le_succ _))) ?_, fun _ => ?_⟩
  · simp only [List.mem_cons, List.not_mem_nil, or_false, not_or] at hk
    exact nk (by simp [hk])
  · obtain ⟨q1, q2, q3, q4, q5⟩ := h.r4 e he
    by_cases z : e / 48 = t
    · rw [z] at q3; omega
    · rw [x44 _ z]; exact ⟨q1, q2, q3, q4, q5⟩
  · intro i _ hi hwr _
    exact h.hl t i ht hi hwr (Or.inr (Or.inl hp))
  · refine ⟨by rw [e44]; exact s1, fun _ => ?_, fun q => by have q : 5 ≤ κ.1 12 t := q; omega⟩
    rw [e44, e13, s0.2.1 (by omega)]
    exact (cnt_succ (p := cNp κ t) s2).symm
theorem nI_lt60 (h : Iv κ ρ b (fun _ => True)) {x y : Nat} (hx : x < κ.1 10 0) (hy : y < κ.1 10 0) : nI x = nI y ↔ x = y := by
  have := h.kf.nT
  exact nI_inj (by omega) (by omega)
/-- it locks an object -/
theorem act_lock (h : Iv κ ρ b (fun _ => True)) (ht : t < κ.1 10 0) (hp : κ.1 12 t = 1) (hb : b + 1 < 1000000) (hfree : κ.2.2 9 (8 * κ.1 18 (cKi κ t) + κ.1 19 (cKi κ t)) = -9) : iA (ru (nu κ 44 t (κ.1 44 t + 1)) 9 (8 * κ.1 18 (cKi κ t) + κ.1 19 (cKi κ t)) (nI t)) (nu (ru ρ 9 (8 * κ.1 18 (cKi κ t) + κ.1 19 (cKi κ t)) (nI t)) 13 t (ρ.1 13 t + 1)) (b + 1) t := by
  have hw := h.kf
  have h60 := hw.nT
  have b13 := (h.bd t).2.2.2
  have h8 := hw.i8 t
  obtain ⟨s0, s1, s2⟩ := h.st t ht (by unfold rAc; rw [hp]; rfl) trivial
  have s2' := s2
  rw [np_1 hp, Bool.and_eq_true, decide_eq_true_eq] at s2'
  have hi : κ.1 44 t / 6 < κ.1 14 t := by omega
  have hik : ik κ (cKi κ t) := ik.of hw ht hi
  have hir := ik.r hw hik
  have e44 : (ru (nu κ 44 t (κ.1 44 t + 1)) 9 (8 * κ.1 18 (cKi κ t) + κ.1 19 (cKi κ t)) (nI t)).1 44 t = κ.1 44 t + 1 := by simp [nu, ru]
  have e13 : (nu (ru ρ 9 (8 * κ.1 18 (cKi κ t) + κ.1 19 (cKi κ t)) (nI t)) 13 t (ρ.1 13 t + 1)).1 13 t = ρ.1 13 t + 1 := by simp [nu]
  have x44 : ∀ x, x ≠ t → (ru (nu κ 44 t (κ.1 44 t + 1)) 9 (8 * κ.1 18 (cKi κ t) + κ.1 19 (cKi κ t)) (nI t)).1 44 x = κ.1 44 x := fun x hx => by simp [nu, ru, hx]
  have e9 : ∀ j, (ru (nu κ 44 t (κ.1 44 t + 1)) 9 (8 * κ.1 18 (cKi κ t) + κ.1 19 (cKi κ t)) (nI t)).2.2 9 j = if j = 8 * κ.1 18 (cKi κ t) + κ.1 19 (cKi κ t) then nI t else κ.2.2 9 j := fun j => by simp [ru, nu]
  obtain ⟨g, hg⟩ := h.gb
  refine ⟨iv_upd (t := t) h (kf_lk (kf_cu hw ht (by omega)) hir (hw.o8 _)) (ag_nur (ag_ru (ag_nuc h.ag (by decide))) (by decide)) (own_nu h.ow (by decide) (by omega)) (fun k hk => ?_) (fun _ _ => rfl) (fun _ _ => rfl) (fun j x hx hxT => ?_) (fun j => ?_) (fun _ _ => rfl) x44 (fun x hx => nx hx) (fun j => Nat.le_succ_of_le (h.bd j).1) (Nat.le_succ b) (by rw [e13]; omega) h.pa h.pb h.pc h.r1 h.r2 h.r3 (fun e he => ?_) (fun _ _ z => absurd rfl z) (fun _ _ _ => trivial) (gb_same hg rfl (fun _ => rfl) (fun x => n13 (ρ := ru ρ 9 _ (nI t)) (Nat.le_succ _))) ?_, fun _ => ?_⟩
  · simp only [List.mem_cons, List.not_mem_nil, or_false, not_or] at hk
    exact nk (by simp [hk])
  · rw [e9]
    split
    · rename_i z
      rw [z, hfree]
      exact ⟨fun q => absurd ((nI_lt60 h ht hxT).mp q).symm hx, fun q => absurd q.symm (nI_ne9 (by omega))⟩
    · exact Iff.rfl
  · rw [e9]
    split
    · rename_i z
      exact Or.inr (Or.inr ⟨κ.1 44 t / 6, ht, hi, rfl, z, s2'.2⟩)
    · exact Or.inl rfl
  · obtain ⟨q1, q2, q3, q4, q5⟩ := h.r4 e he
    by_cases z : e / 48 = t
    · rw [z] at q3; omega
    · rw [x44 _ z]; exact ⟨q1, q2, q3, q4, q5⟩
  · intro i _ hii hwr hc
    rw [e44] at hc
    rw [e9]
    split
    · rfl
    · rename_i z
      rcases hc with ⟨-, c2⟩ | c | c | ⟨c1, -⟩
      · refine h.hl t i ht hii hwr (Or.inl ⟨hp, ?_⟩)
        apply Nat.lt_of_le_of_ne (by omega)
        intro y
        apply z
        unfold cKi
        rw [show κ.1 44 t / 6 = i by omega]
      · have c : κ.1 12 t = 2 := c; omega
      · have c : κ.1 12 t = 3 := c; omega
      · have c1 : κ.1 12 t = 4 := c1; omega
  · refine ⟨by rw [e44]; exact s1, fun _ => ?_, fun q => by have q : 5 ≤ κ.1 12 t := q; omega⟩
    rw [e44, e13, s0.2.1 (by omega), ← cnt_succ (p := cNp κ t) s2]
    exact cP_co fun j _ => by rw [np_1 hp, np_1 (show (ru (nu κ 44 t (κ.1 44 t + 1)) 9 (8 * κ.1 18 (cKi κ t) + κ.1 19 (cKi κ t)) (nI t)).1 12 t = 1 from hp)]; rfl
/-- it unlocks an object -/
theorem act_free (h : Iv κ ρ b (fun _ => True)) (ht : t < κ.1 10 0) (hp : κ.1 12 t = 6) (hb : b + 1 < 1000000) : iA (ru (nu κ 44 t (κ.1 44 t + 1)) 9 (8 * κ.1 18 (cKi κ t) + κ.1 19 (cKi κ t)) (-9)) (nu (ru ρ 9 (8 * κ.1 18 (cKi κ t) + κ.1 19 (cKi κ t)) (-9)) 13 t (ρ.1 13 t + 1)) (b + 1) t := by
  have hw := h.kf
  have h60 := hw.nT
  have b13 := (h.bd t).2.2.2
  have h8 := hw.i8 t
  obtain ⟨s0, s1, s2⟩ := h.st t ht (by unfold rAc; rw [hp]; rfl) trivial
  have s2' := s2
  rw [np_6 hp, Bool.and_eq_true, decide_eq_true_eq, decide_eq_true_eq] at s2'
  have hi : κ.1 44 t / 6 < κ.1 14 t := by omega
  have hik : ik κ (cKi κ t) := ik.of hw ht hi
  have hir := ik.r hw hik
  have e44 : (ru (nu κ 44 t (κ.1 44 t + 1)) 9 (8 * κ.1 18 (cKi κ t) + κ.1 19 (cKi κ t)) (-9)).1 44 t = κ.1 44 t + 1 := by simp [nu, ru]
  have e13 : (nu (ru ρ 9 (8 * κ.1 18 (cKi κ t) + κ.1 19 (cKi κ t)) (-9)) 13 t (ρ.1 13 t + 1)).1 13 t = ρ.1 13 t + 1 := by simp [nu]
  have x44 : ∀ x, x ≠ t → (ru (nu κ 44 t (κ.1 44 t + 1)) 9 (8 * κ.1 18 (cKi κ t) + κ.1 19 (cKi κ t)) (-9)).1 44 x = κ.1 44 x := fun x hx => by simp [nu, ru, hx]
  have e9 : ∀ j, (ru (nu κ 44 t (κ.1 44 t + 1)) 9 (8 * κ.1 18 (cKi κ t) + κ.1 19 (cKi κ t)) (-9)).2.2 9 j = if j = 8 * κ.1 18 (cKi κ t) + κ.1 19 (cKi κ t) then -9 else κ.2.2 9 j := fun j => by simp [ru, nu]
  obtain ⟨g, hg⟩ := h.gb
  refine ⟨iv_upd (t := t) h (kf_lk (kf_cu hw ht (by omega)) hir (hw.o8 _)) (ag_nur (ag_ru (ag_nuc h.ag (by decide))) (by decide)) (own_nu h.ow (by decide) (by omega)) (fun k hk => ?_) (fun _ _ => rfl) (fun _ _ => rfl) (fun j x hx hxT => ?_) (fun j => ?_) (fun _ _ => rfl) x44 (fun x hx => nx hx) (fun j => Nat.le_succ_of_le (h.bd j).1) (Nat.le_succ b) (by rw [e13]; omega) h.pa h.pb h.pc h.r1 h.r2 h.r3 (fun e he => ?_) (fun _ _ z => absurd rfl z) (fun _ _ _ => trivial) (gb_same hg rfl (fun _ => rfl) (fun x => n13 (ρ := ru ρ 9 _ (-9)) (Nat.le_succ _))) ?_, fun _ => ?_⟩
  · simp only [List.mem_cons, List.not_mem_nil, or_false, not_or] at hk
    exact nk (by simp [hk])
  · rw [e9]
    split
    · rename_i z
      rw [z, show κ.2.2 9 (8 * κ.1 18 (cKi κ t) + κ.1 19 (cKi κ t)) = nI t from s2'.2]
      exact ⟨fun q => absurd q.symm (nI_ne9 (by omega)), fun q => absurd ((nI_lt60 h ht hxT).mp q).symm hx⟩
    · exact Iff.rfl
  · rw [e9]
    split
    · exact Or.inr (Or.inl rfl)
    · exact Or.inl rfl
  · obtain ⟨q1, q2, q3, q4, q5⟩ := h.r4 e he
    by_cases z : e / 48 = t
    · rw [z] at q4; omega
    · rw [x44 _ z]; exact ⟨q1, q2, q3, q4, q5⟩
  · intro i _ hii hwr hc
    have hc : (κ.1 12 t = 1 ∧ _) ∨ κ.1 12 t = 2 ∨ κ.1 12 t = 3 ∨ (κ.1 12 t = 4 ∧ _) := hc
    rcases hc with ⟨c1, -⟩ | c | c | ⟨c1, -⟩ <;> omega
  · refine ⟨by rw [e44]; exact s1, fun q => by have q : κ.1 12 t ≤ 4 := q; omega, fun _ j hj => ?_⟩
    rw [e44] at hj
    rw [np_6 (show (ru (nu κ 44 t (κ.1 44 t + 1)) 9 (8 * κ.1 18 (cKi κ t) + κ.1 19 (cKi κ t)) (-9)).1 12 t = 6 from hp), e9]
    show (decide (j % 6 = 0) && decide ((if 8 * κ.1 18 (8 * t + j / 6) + κ.1 19 (8 * t + j / 6) = 8 * κ.1 18 (cKi κ t) + κ.1 19 (cKi κ t) then (-9 : Int32) else κ.2.2 9 (8 * κ.1 18 (8 * t + j / 6) + κ.1 19 (8 * t + j / 6))) = nI t)) = false
    split
    · have q9 : ¬ (-9 : Int32) = nI t := fun q => absurd q.symm (nI_ne9 (by omega))
      rw [decide_eq_false q9, Bool.and_false]
    · rename_i z
      by_cases y : j = κ.1 44 t
      · exact absurd (by rw [y]; rfl) z
      · have := s0.2.2 (by omega) j (by omega)
        rw [np_6 hp] at this
        exact this
end PU5
