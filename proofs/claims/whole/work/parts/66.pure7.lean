section PU7
variable {κ ρ : ax_R} {b : Nat} {t : Nat}
theorem it_lt (h : Iv κ ρ b (fun _ => True)) {t i j : Nat} (hi : i < κ.1 14 t) (hj : j < κ.1 14 t) (e : 8 * κ.1 18 (8 * t + i) + κ.1 19 (8 * t + i) = 8 * κ.1 18 (8 * t + j) + κ.1 19 (8 * t + j)) : i = j := by
  have h1 := h.kf.o8 (8 * t + i)
  have h2 := h.kf.o8 (8 * t + j)
  exact h.it t i j hi hj (by omega) (by omega)
/-- a value comes to the primary -/
theorem act_write (h : Iv κ ρ b (fun _ => True)) (ht : t < κ.1 10 0) (hp : κ.1 12 t = 4) (hb : b + 1 < 1000000) {s : Nat} (hs : s < κ.1 5 (κ.1 18 (cKi κ t))) {v : Int32} {κ1 ρ2 : ax_R} (hk1 : κ1 = bu (nu (ru (cPu (nu κ 44 t (κ.1 44 t + 1)) (κ.1 18 (cKi κ t)) s (κ.1 19 (cKi κ t)) v (κ.1 21 (cKi κ t) + 1)) 9 (8 * κ.1 18 (cKi κ t) + κ.1 19 (cKi κ t)) (-9)) 24 (cKi κ t) (κ.1 24 (cKi κ t) ||| 2 ^ s)) 15 t true)
    (hr2 : ρ2 = nu (bu (ru (nu (cPu ρ (κ.1 18 (cKi κ t)) s (κ.1 19 (cKi κ t)) v (κ.1 21 (cKi κ t) + 1)) 24 (cKi κ t) (κ.1 24 (cKi κ t) ||| 2 ^ s)) 9 (8 * κ.1 18 (cKi κ t) + κ.1 19 (cKi κ t)) (-9)) 15 t true) 13 t (ρ.1 13 t + 1)) (hkf : kf κ1) : iA κ1 ρ2 (b + 1) t := by
  have hw := h.kf
  have h60 := hw.nT
  have b13 := (h.bd t).2.2.2
  have h8 := hw.i8 t
  have h24 : κ.1 24 (cKi κ t) ||| 2 ^ s < 64 := or64 (hw.d6 _) (by have := hw.c6 (κ.1 18 (cKi κ t)); omega)
  obtain ⟨s0, s1, s2⟩ := h.st t ht (by unfold rAc; rw [hp]; rfl) trivial
  have s2' := s2
  rw [np_4 hp, Bool.and_eq_true, decide_eq_true_eq] at s2'
  have hi : κ.1 44 t / 6 < κ.1 14 t := by omega
  have hik : ik κ (cKi κ t) := ik.of hw ht hi
  have hlk : κ.2.2 9 (8 * κ.1 18 (cKi κ t) + κ.1 19 (cKi κ t)) = nI t := h.hl t (κ.1 44 t / 6) ht hi s2'.2 (Or.inr (Or.inr (Or.inr ⟨hp, by omega⟩)))
  have hag : ag κ1 ρ2 := by
    rw [hk1, hr2]
    exact ag_nur (ag_bu (ag_nu (ag_ru (ag_nu (ag_ru (ag_nuc h.ag (by decide))))))) (by decide)
  have hown : own ρ2 := by
    have h21 := (h.bd (cKi κ t)).2.1
    have o1 : own (cPu ρ (κ.1 18 (cKi κ t)) s (κ.1 19 (cKi κ t)) v (κ.1 21 (cKi κ t) + 1)) := own_nu (k := 8) (ρ := ru ρ 7 _ v) h.ow (by decide) (by omega)
    have o2 : own (nu (cPu ρ (κ.1 18 (cKi κ t)) s (κ.1 19 (cKi κ t)) v (κ.1 21 (cKi κ t) + 1)) 24 (cKi κ t) (κ.1 24 (cKi κ t) ||| 2 ^ s)) := own_nu o1 (by decide) (by omega)
    rw [hr2]
    exact own_nu (k := 13) (ρ := bu (ru (nu (cPu ρ (κ.1 18 (cKi κ t)) s (κ.1 19 (cKi κ t)) v (κ.1 21 (cKi κ t) + 1)) 24 (cKi κ t) (κ.1 24 (cKi κ t) ||| 2 ^ s)) 9 (8 * κ.1 18 (cKi κ t) + κ.1 19 (cKi κ t)) (-9)) 15 t true) o2 (by decide) (by omega)
  have e12 : ∀ x, κ1.1 12 x = κ.1 12 x := fun x => by rw [hk1]; simp [nu, bu, ru, cPu]
  have e44 : κ1.1 44 t = κ.1 44 t + 1 := by rw [hk1]; simp [nu, bu, ru, cPu]
  have x44 : ∀ x, x ≠ t → κ1.1 44 x = κ.1 44 x := fun x hx => by rw [hk1]; simp [nu, bu, ru, cPu, hx]
  have e13 : ∀ x, ρ2.1 13 x = if x = t then ρ.1 13 t + 1 else ρ.1 13 x := fun x => by rw [hr2]; simp [nu, bu, ru, cPu]
  have e9 : ∀ j, κ1.2.2 9 j = if j = 8 * κ.1 18 (cKi κ t) + κ.1 19 (cKi κ t) then -9 else κ.2.2 9 j := fun j => by rw [hk1]; simp [nu, bu, ru, cPu]
  have n : ∀ k, k ∉ [8, 12, 16, 17, 24, 44, 47] → κ1.1 k = κ.1 k := fun k hk => by
    simp only [List.mem_cons, List.not_mem_nil, or_false, not_or] at hk
    rw [hk1]
    funext x
    simp [nu, bu, ru, cPu, hk]
  have n1 : ∀ k, k ≠ 8 → k ≠ 24 → k ≠ 44 → κ1.1 k = κ.1 k := fun k q1 q2 q3 => by
    rw [hk1]
    funext x
    simp [nu, bu, ru, cPu, q1, q2, q3]
  have bb : ∀ k, k ≠ 15 → κ1.2.1 k = κ.2.1 k := fun k hk => by
    rw [hk1]
    funext x
    simp [nu, bu, ru, cPu, hk]
  have f25 : ρ2.1 25 = ρ.1 25 := by rw [hr2]; funext x; simp [nu, bu, ru, cPu]
  have f27 : ρ2.1 27 = ρ.1 27 := by rw [hr2]; funext x; simp [nu, bu, ru, cPu]
  have f26 : ρ2.2.2 26 = ρ.2.2 26 := by rw [hr2]; funext x; simp [nu, bu, ru, cPu]
  have e8 : ∀ j, κ1.1 8 j ≤ b + 1 := fun j => by
    have h1 := (h.bd j).1
    have h2 := (h.bd (cKi κ t)).2.1
    have : κ1.1 8 j = if j = 8 * (6 * κ.1 18 (cKi κ t) + s) + κ.1 19 (cKi κ t) then κ.1 21 (cKi κ t) + 1 else κ.1 8 j := by rw [hk1]; simp [nu, bu, ru, cPu]
    rw [this]
    split <;> omega
  clear hk1 hr2
  obtain ⟨g, hg⟩ := h.gb
  refine ⟨iv_upd (t := t) h hkf hag hown n (fun k hk => bb k (by simp only [List.mem_cons, List.not_mem_nil, or_false, not_or] at hk; exact hk.1)) (fun e _ => by rw [bb 41 (by decide)]) (fun j x hx hxT => ?_) (fun j => ?_) (fun x _ => e12 x) x44 (fun x hx => by rw [e13, if_neg hx]) e8 (Nat.le_succ b) (by rw [e13, if_pos rfl]; omega) ?_ ?_ ?_ ?_ ?_ ?_ (fun e he => ?_) (fun _ _ z => absurd rfl z) (fun _ _ _ => trivial) (gb_same hg (by rw [f25]) e12 (fun x => by rw [e13]; split; rename_i z; rw [z]; omega; exact Nat.le_refl _)) ?_, fun _ => ?_⟩
  · rw [e9]
    split
    · rename_i z
      rw [z, hlk]
      exact ⟨fun q => absurd q.symm (nI_ne9 (by omega)), fun q => absurd ((nI_lt60 h ht hxT).mp q).symm hx⟩
    · exact Iff.rfl
  · rw [e9]
    split
    · exact Or.inr (Or.inl rfl)
    · exact Or.inl rfl
  · rw [n1 17 (by decide) (by decide) (by decide), n1 16 (by decide) (by decide) (by decide), n1 47 (by decide) (by decide) (by decide)]; exact h.pa
  · rw [n1 17 (by decide) (by decide) (by decide), n1 16 (by decide) (by decide) (by decide), n1 47 (by decide) (by decide) (by decide)]; exact h.pb
  · rw [n1 12 (by decide) (by decide) (by decide), n1 16 (by decide) (by decide) (by decide)]; exact h.pc
  · rw [f25, f26, f27, bb 41 (by decide)]; exact h.r1
  · rw [f25, f26, f27, bb 41 (by decide)]; exact h.r2
  · rw [f25, f26, f27]; exact h.r3
  · rw [bb 41 (by decide)] at he
    obtain ⟨q1, q2, q3, q4, q5⟩ := h.r4 e he
    refine ⟨?_, by rw [bb 22 (by decide)]; exact q2, by rw [e12]; exact q3, by rw [e12]; exact q4, fun z => ?_⟩
    · unfold ik; rw [n 10 (by decide), n 14 (by decide)]; exact q1
    · rw [e12] at z
      have := q5 z
      by_cases w : e / 48 = t
      · rw [w, hp] at z; omega
      · rw [x44 _ w]; exact this
  · intro i _ hii hwr hc
    rw [e12, e44, hp] at hc
    have hc2 : κ.1 44 t + 1 ≤ 6 * i := by omega
    rw [e9, if_neg]
    · exact h.hl t i ht hii hwr (Or.inr (Or.inr (Or.inr ⟨hp, by omega⟩)))
    · intro z
      have := it_lt h hii hi z
      omega
  · refine ⟨by rw [e44, n 14 (by decide)]; exact s1, fun _ => ?_, fun q => by rw [e12] at q; omega⟩
    rw [e44, e13, if_pos rfl, s0.2.1 (by omega)]
    exact (cnt_succ (p := cNp κ t) s2).symm.trans (cP_co fun j _ => by rw [np_4 hp, np_4 (by rw [e12]; exact hp), bb 22 (by decide)])
/-- a record goes, and its value comes to the backup -/
theorem act_clean (h : Iv κ ρ b (fun _ => True)) (ht : t < κ.1 10 0) (hp : κ.1 12 t = 5) (hb : b + 1 < 1000000) {v : Int32} {κ1 ρ2 : ax_R} (hk1 : κ1 = nu (bu (cRz (nu κ 44 t (κ.1 44 t + 1)) (κ.1 18 (cKi κ t)) (κ.1 44 t % 6) (κ.1 19 (cKi κ t)) v (κ.1 21 (cKi κ t) + 1)) 41 (6 * cKi κ t + κ.1 44 t % 6) false) 24 (cKi κ t) (κ.1 24 (cKi κ t) ||| 2 ^ (κ.1 44 t % 6)))
    (hr2 : ρ2 = nu (ru (nu (cRz ρ (κ.1 18 (cKi κ t)) (κ.1 44 t % 6) (κ.1 19 (cKi κ t)) v (κ.1 21 (cKi κ t) + 1)) 24 (cKi κ t) (κ.1 24 (cKi κ t) ||| 2 ^ (κ.1 44 t % 6))) 26 ((rFr ρ t).getD 0) (-9)) 13 t (ρ.1 13 t + 1)) (hkf : kf κ1) : iA κ1 ρ2 (b + 1) t := by
  have hw := h.kf
  have h60 := hw.nT
  have b13 := (h.bd t).2.2.2
  have h8 := hw.i8 t
  obtain ⟨s0, s1, s2⟩ := h.st t ht (by unfold rAc; rw [hp]; rfl) trivial
  have h41 := np5 hp s2
  rw [← e_ki] at h41
  have hs := h.rs h41
  have e0 : (6 * cKi κ t + κ.1 44 t % 6) / 6 = cKi κ t ∧ (6 * cKi κ t + κ.1 44 t % 6) % 6 = κ.1 44 t % 6 := by omega
  have e48 : (6 * cKi κ t + κ.1 44 t % 6) / 48 = t ∧ (6 * cKi κ t + κ.1 44 t % 6) % 48 = κ.1 44 t := by rw [e_ki]; omega
  rw [e0.1, e0.2] at hs
  have hki : cKi κ t < 480 := by unfold cKi; omega
  have n2 : cNx κ t = some (κ.1 44 t) := List.find?_range'_eq_some.mpr ⟨s2, List.mem_range'_1.mpr (by omega), fun j h1 h2 => by omega⟩
  have n3 : (aL κ t)[0]? = some (κ.1 44 t) := by rw [← (st0_nx s0).2 (by omega)]; exact n2
  obtain ⟨k0, hk0⟩ : ∃ k0, rFr ρ t = some k0 := by
    cases hf : rFr ρ t with
    | none => rw [(h.fr hp).1 hf] at n3; cases n3
    | some k => exact ⟨k, rfl⟩
  obtain ⟨j, m1, m2, m3, m4⟩ := (h.fr hp).2 k0 hk0
  rw [n3] at m1
  cases m1
  have m2 : ρ.2.2 26 k0 = nI (cKi κ t) := m2
  have h24 : κ.1 24 (cKi κ t) ||| 2 ^ (κ.1 44 t % 6) < 64 := or64 (hw.d6 _) (by omega)
  have hcm : ∀ j, ρ.1 8 j = κ.1 8 j := fun j => by rw [h.ag.n 8 (by decide)]
  have hag : ag κ1 ρ2 := by
    rw [hk1, hr2]
    refine ag_nur (ag_rur (ag_nu (ag_buc ?_ (by decide))) (by decide)) (by decide)
    unfold cRz
    rw [hcm]
    show ag (if κ.1 8 _ < _ then _ else _) _
    split
    · exact ag_nu (ag_ru (ag_nuc h.ag (by decide)))
    · exact ag_nuc h.ag (by decide)
  rw [hk0] at hr2
  have hr2 : ρ2 = nu (ru (nu (cRz ρ (κ.1 18 (cKi κ t)) (κ.1 44 t % 6) (κ.1 19 (cKi κ t)) v (κ.1 21 (cKi κ t) + 1)) 24 (cKi κ t) (κ.1 24 (cKi κ t) ||| 2 ^ (κ.1 44 t % 6))) 26 k0 (-9)) 13 t (ρ.1 13 t + 1) := hr2
  have rzN : ∀ {κ : ax_R} {r s q n k : Nat}, k ≠ 8 → (cRz κ r s q v n).1 k = κ.1 k := fun hk => funext fun x => rz_1 hk
  have rzR : ∀ {κ : ax_R} {r s q n k : Nat}, k ≠ 7 → (cRz κ r s q v n).2.2 k = κ.2.2 k := fun hk => by
    unfold cRz cPu
    split
    · funext x; simp [nu, ru, hk]
    · rfl
  have e12 : ∀ x, κ1.1 12 x = κ.1 12 x := fun x => by rw [hk1]; simp [nu, bu, rz_1]
  have e44 : κ1.1 44 t = κ.1 44 t + 1 := by rw [hk1]; simp [nu, bu, rz_1]
  have x44 : ∀ x, x ≠ t → κ1.1 44 x = κ.1 44 x := fun x hx => by rw [hk1]; simp [nu, bu, rz_1, hx]
  have e13 : ∀ x, ρ2.1 13 x = if x = t then ρ.1 13 t + 1 else ρ.1 13 x := fun x => by rw [hr2]; simp [nu, ru, rz_1]
  have n1 : ∀ k, k ≠ 8 → k ≠ 24 → k ≠ 44 → κ1.1 k = κ.1 k := fun k q1 q2 q3 => by
    rw [hk1]
    funext x
    simp [nu, bu, rz_1, q1, q2, q3]
  have n : ∀ k, k ∉ [8, 12, 16, 17, 24, 44, 47] → κ1.1 k = κ.1 k := fun k hk => by
    simp only [List.mem_cons, List.not_mem_nil, or_false, not_or] at hk
    exact n1 k hk.1 hk.2.2.2.2.1 hk.2.2.2.2.2.1
  have e41 : ∀ e, κ1.2.1 41 e = if e = 6 * cKi κ t + κ.1 44 t % 6 then false else κ.2.1 41 e := fun e => by
    rw [hk1]
    show (if 41 = 41 ∧ e = _ then false else (cRz _ _ _ _ _ _).2.1 41 e) = _
    rw [rz_b]
    simp [nu]
  have bb : ∀ k, k ≠ 41 → κ1.2.1 k = κ.2.1 k := fun k hk => by
    rw [hk1]
    funext x
    show (if k = 41 ∧ x = _ then false else (cRz _ _ _ _ _ _).2.1 k x) = _
    rw [rz_b, if_neg (fun z => hk z.1)]
    rfl
  have e9 : κ1.2.2 9 = κ.2.2 9 := by rw [hk1]; exact rzR (by decide)
  have f25 : ρ2.1 25 = ρ.1 25 := by rw [hr2]; funext x; simp [nu, ru, rz_1]
  have f27 : ρ2.1 27 = ρ.1 27 := by rw [hr2]; funext x; simp [nu, ru, rz_1]
  have f26 : ∀ k, ρ2.2.2 26 k = if k = k0 then -9 else ρ.2.2 26 k := fun k => by
    rw [hr2]
    show (if 26 = 26 ∧ k = k0 then (-9 : Int32) else (cRz ρ _ _ _ _ _).2.2 26 k) = _
    rw [rzR (by decide)]
    simp
  have hown : own ρ2 := by
    have h21 := (h.bd (cKi κ t)).2.1
    have hrz : own (cRz ρ (κ.1 18 (cKi κ t)) (κ.1 44 t % 6) (κ.1 19 (cKi κ t)) v (κ.1 21 (cKi κ t) + 1)) := by
      unfold cRz
      split
      · exact own_nu (k := 8) (ρ := ru ρ 7 _ v) h.ow (by decide) (by omega)
      · exact h.ow
    have h3 : own (nu (cRz ρ (κ.1 18 (cKi κ t)) (κ.1 44 t % 6) (κ.1 19 (cKi κ t)) v (κ.1 21 (cKi κ t) + 1)) 24 (cKi κ t) (κ.1 24 (cKi κ t) ||| 2 ^ (κ.1 44 t % 6))) := own_nu hrz (by decide) (by omega)
    rw [hr2]
    refine own_nu ?_ (by decide) (by omega)
    obtain ⟨o1, o2, o3, o4, o5, o6, o7, o8, o9⟩ := h3
    refine ⟨o1, o2, o3, o4, o5, o6, o7, o8, fun k => ?_⟩
    show (if 26 = 26 ∧ k = k0 then (-9 : Int32) else _) = -9 ∨ ∃ j, j < 480 ∧ (if 26 = 26 ∧ k = k0 then (-9 : Int32) else _) = nI j
    by_cases z : k = k0
    · exact Or.inl (if_pos ⟨rfl, z⟩)
    · rw [if_neg (fun y => z y.2)]; exact o9 k
  have e8 : ∀ j, κ1.1 8 j ≤ b + 1 := fun j => by
    have h1 := (h.bd j).1
    have h2 := (h.bd (cKi κ t)).2.1
    rw [hk1]
    show (cRz _ _ _ _ _ _).1 8 j ≤ _
    unfold cRz cPu
    split
    · show (if 8 = 8 ∧ j = _ then κ.1 21 (cKi κ t) + 1 else κ.1 8 j) ≤ _
      split <;> omega
    · show κ.1 8 j ≤ _
      omega
  clear hk1 hr2
  obtain ⟨g, hg⟩ := h.gb
  have uniq : ∀ k, k < ρ.1 25 0 → ρ.2.2 26 k = nI (cKi κ t) → ρ.1 27 k = κ.1 44 t % 6 → k = k0 := fun k q1 q2 q3 => by
    have key : ∀ x y, x < y → y < ρ.1 25 0 → ρ.2.2 26 x = nI (cKi κ t) → ρ.1 27 x = κ.1 44 t % 6 → ρ.2.2 26 y = nI (cKi κ t) → ρ.1 27 y = κ.1 44 t % 6 → False := fun x y w1 w2 w3 w4 w5 w6 => by
      have := h.r3 x y (6 * cKi κ t + κ.1 44 t % 6) (6 * cKi κ t + κ.1 44 t % 6) w1 w2 (by rw [e0.1]; exact w3) (by rw [e0.2]; exact w4) (by rw [e0.1]; exact w5) (by rw [e0.2]; exact w6) (by omega) (by omega) rfl
      omega
    rcases Nat.lt_trichotomy k k0 with z | z | z
    · exact absurd (key k k0 z m4 q2 q3 m2 m3) id
    · exact z
    · exact absurd (key k0 k z q1 m2 m3 q2 q3) id
  refine ⟨iv_upd (t := t) h hkf hag hown n (fun k hk => bb k (by simp only [List.mem_cons, List.not_mem_nil, or_false, not_or] at hk; exact hk.2)) (fun e he => ?_) (fun j x _ _ => by rw [e9]) (fun j => Or.inl (by rw [e9])) (fun x _ => e12 x) x44 (fun x hx => by rw [e13, if_neg hx]) e8 (Nat.le_succ b) (by rw [e13, if_pos rfl]; omega) ?_ ?_ ?_ (fun k hk => ?_) (fun e he => ?_) (fun k k2 e e2 h1 h2 h3 h4 h5 h6 h7 h9 h10 => ?_) (fun e he => ?_) (fun _ _ z => absurd rfl z) (fun _ _ _ => trivial) (gb_same hg (by rw [f25]) e12 (fun x => by rw [e13]; split; rename_i z; rw [z]; omega; exact Nat.le_refl _)) ?_, fun _ => ?_⟩
  · rw [e41, if_neg]
    intro z
    rw [z] at he
    exact he e48.1
  · rw [n1 17 (by decide) (by decide) (by decide), n1 16 (by decide) (by decide) (by decide), n1 47 (by decide) (by decide) (by decide)]; exact h.pa
  · rw [n1 17 (by decide) (by decide) (by decide), n1 16 (by decide) (by decide) (by decide), n1 47 (by decide) (by decide) (by decide)]; exact h.pb
  · rw [n1 12 (by decide) (by decide) (by decide), n1 16 (by decide) (by decide) (by decide)]; exact h.pc
  · rw [f25] at hk
    rw [f26, f27]
    by_cases z : k = k0
    · exact Or.inl (if_pos z)
    · rw [if_neg z]
      rcases h.r1 k hk with q | ⟨e, q1, q2, q3, q4⟩
      · exact Or.inl q
      · refine Or.inr ⟨e, q1, ?_, q3, q4⟩
        rw [e41, if_neg]
        · exact q2
        · intro y
          rw [y] at q3 q4
          rw [e0.1] at q3
          rw [e0.2] at q4
          exact z (uniq k hk q3 q4)
  · rw [e41] at he
    by_cases z : e = 6 * cKi κ t + κ.1 44 t % 6
    · rw [if_pos z] at he; cases he
    · rw [if_neg z] at he
      obtain ⟨q1, k, q2, q3, q4⟩ := h.r2 e he
      refine ⟨q1, k, by rw [f25]; exact q2, ?_, by rw [f27]; exact q4⟩
      rw [f26, if_neg]
      · exact q3
      · intro y
        rw [y, m2] at q3
        rw [y, m3] at q4
        have := (nI_inj (by omega) (by omega)).mp q3
        omega
  · rw [f25] at h2
    rw [f26] at h3 h5
    rw [f27] at h4 h6
    have z1 : k ≠ k0 := fun z => by rw [if_pos z] at h3; exact absurd h3.symm (nI_ne9 (by omega))
    have z2 : k2 ≠ k0 := fun z => by rw [if_pos z] at h5; exact absurd h5.symm (nI_ne9 (by omega))
    rw [if_neg z1] at h3
    rw [if_neg z2] at h5
    exact h.r3 k k2 e e2 h1 h2 h3 h4 h5 h6 h7 h9 h10
  · rw [e41] at he
    by_cases z : e = 6 * cKi κ t + κ.1 44 t % 6
    · rw [if_pos z] at he; cases he
    · rw [if_neg z] at he
      obtain ⟨q1, q2, q3, q4, q5⟩ := h.r4 e he
      refine ⟨?_, by rw [bb 22 (by decide)]; exact q2, by rw [e12]; exact q3, by rw [e12]; exact q4, fun y => ?_⟩
      · unfold ik; rw [n 10 (by decide), n 14 (by decide)]; exact q1
      · rw [e12] at y
        have := q5 y
        by_cases w : e / 48 = t
        · rw [w, hp] at y; omega
        · rw [x44 _ w]; exact this
  · intro i _ hii hwr hc
    rw [e12, hp] at hc
    omega
  · refine ⟨by rw [e44, n 14 (by decide)]; exact s1, fun q => by rw [e12] at q; omega, fun _ i hi => ?_⟩
    rw [e44] at hi
    rw [np_5 (by rw [e12]; exact hp), n 18 (by decide), n 5 (by decide), e41]
    by_cases z : i = κ.1 44 t
    · rw [if_pos (by rw [z]; rfl), Bool.and_false]
    · have := s0.2.2 (by omega) i (by omega)
      rw [np_5 hp] at this
      split
      · exact Bool.and_false _
      · exact this
end PU7
