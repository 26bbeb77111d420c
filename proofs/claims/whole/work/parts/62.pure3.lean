section PU3
variable {κ κ2 ρ ρ2 : ax_R} {b : Nat} {E E2 : Nat → Prop} {t : Nat}
theorem bk_co (e5 : κ2.1 5 = κ.1 5) (e6 : κ2.1 6 = κ.1 6) (e1 : κ2.2.1 1 = κ.2.1 1) : bk κ2 = bk κ ∧ rM κ2 = rM κ ∧ cPr κ2 = cPr κ ∧ rO κ2 = rO κ := by
  have eO : rO κ2 = rO κ := by funext r i; unfold rO; rw [e6, e1]
  have eP : cPr κ2 = cPr κ := by funext r; unfold cPr; rw [e5, eO]
  refine ⟨by funext r k; unfold bk; rw [e5, eO, eP], by funext r; unfold rM; rw [e5, eO], eP, eO⟩
/-- one transaction comes to another phase, or its cursor moves -/
theorem iv_ph (h : Iv κ ρ b E) (hk : kf κ2) (ha : ag κ2 ρ2) (ho : own ρ2) (n : ∀ k, k ∉ [12, 16, 17, 44, 47] → κ2.1 k = κ.1 k) (e2 : κ2.2 = κ.2) (x12 : ∀ x, x ≠ t → κ2.1 12 x = κ.1 12 x) (x44 : ∀ x, x ≠ t → κ2.1 44 x = κ.1 44 x) (r25 : ρ2.1 25 = ρ.1 25) (r27 : ρ2.1 27 = ρ.1 27) (r26 : ρ2.2.2 26 = ρ.2.2 26) (x13 : ∀ x, x ≠ t → ρ2.1 13 x = ρ.1 13 x) (t13 : ρ2.1 13 t ≤ b)
    (pa : ∀ p, p < κ2.1 17 0 → κ2.1 16 (κ2.1 47 p) = p + 1) (pb : ∀ t, κ2.1 16 t ≠ 0 → κ2.1 16 t ≤ κ2.1 17 0 ∧ κ2.1 47 (κ2.1 16 t - 1) = t) (pc : ∀ t, κ2.1 12 t ≤ 1 → κ2.1 16 t = 0)
    (r4 : ∀ e, κ.2.1 41 e = true → e / 48 = t → 3 ≤ κ2.1 12 t ∧ κ2.1 12 t ≤ 5 ∧ (κ2.1 12 t = 3 → e % 48 < κ2.1 44 t))
    (st : t < κ.1 10 0 → rAc κ2 t = true → E2 t → st1 κ2 ρ2 t) (hE : ∀ x, x ≠ t → E2 x → E x)
    (g2 : κ2.1 12 t ≤ 2 → κ.1 12 t ≤ 2) (g3 : κ2.1 12 t = 3 → κ.1 12 t ≤ 2 ∨ (κ.1 12 t = 3 ∧ ρ.1 13 t ≤ ρ2.1 13 t))
    (hl : ∀ i, t < κ.1 10 0 → i < κ.1 14 t → κ.2.1 22 (8 * t + i) = true → ((κ2.1 12 t = 1 ∧ 6 * i < κ2.1 44 t) ∨ κ2.1 12 t = 2 ∨ κ2.1 12 t = 3 ∨ (κ2.1 12 t = 4 ∧ κ2.1 44 t ≤ 6 * i)) → κ.2.2 9 (8 * κ.1 18 (8 * t + i) + κ.1 19 (8 * t + i)) = nI t) : Iv κ2 ρ2 b E2 := by
  obtain ⟨cb, cm, -, -⟩ := bk_co (κ := κ) (κ2 := κ2) (n 5 (by decide)) (n 6 (by decide)) (by rw [e2])
  refine ⟨hk, ha, ho, ?_, ?_, ?_, ?_, ?_, pa, pb, pc, ?_, ?_, ?_, ?_, ?_, ?_, ?_⟩
  · intro j
    rw [n 8 (by decide), n 21 (by decide), n 3 (by decide)]
    refine ⟨(h.bd j).1, (h.bd j).2.1, (h.bd j).2.2.1, ?_⟩
    by_cases e : j = t
    · rw [e]; exact t13
    · rw [x13 j e]; exact (h.bd j).2.2.2
  · rw [e2]; exact h.um
  · rw [cm]; exact h.m3
  · rw [n 14 (by decide), n 18 (by decide), n 19 (by decide)]; exact h.it
  · rw [n 4 (by decide), n 10 (by decide), n 14 (by decide), n 18 (by decide), n 19 (by decide), e2]; exact h.lk
  · rw [r25, r26, r27, e2]; exact h.r1
  · rw [r25, r26, r27, e2]; exact h.r2
  · rw [r25, r26, r27]; exact h.r3
  · intro e he
    rw [e2] at he
    obtain ⟨q1, q2, q3, q4, q5⟩ := h.r4 e he
    refine ⟨?_, by rw [e2]; exact q2, ?_⟩
    · unfold ik; rw [n 10 (by decide), n 14 (by decide)]; exact q1
    · by_cases z : e / 48 = t
      · rw [z]; exact r4 e he z
      · rw [x12 _ z, x44 _ z]; exact ⟨q3, q4, q5⟩
  · intro x hx hac hEx
    rw [n 10 (by decide)] at hx
    by_cases z : x = t
    · rw [z] at hx hac hEx ⊢
      exact st hx hac hEx
    · have hac2 : rAc κ x = true := by unfold rAc at hac ⊢; rw [x12 x z] at hac; exact hac
      refine st_co (h.st x hx hac2 (hE x z hEx)) (x44 x z) (by rw [n 14 (by decide)]) (x12 x z) (x13 x z) (fun i s hi hs => cHa_co (x12 x z) (by rw [e2]) (by rw [n 18 (by decide)]) (by rw [n 19 (by decide)]) (fun _ => by rw [cb]) (fun _ => ⟨by rw [e2], by rw [n 5 (by decide)]⟩) (fun _ => by rw [e2]))
  · obtain ⟨g, a1, a2, a3, a4⟩ := h.gb
    refine ⟨g, by rw [r25]; exact a1, a2, fun x hx => ?_, fun x hx => ?_⟩
    · by_cases z : x = t
      · rw [z] at hx ⊢; exact a3 t (g2 hx)
      · rw [x12 x z] at hx; exact a3 x hx
    · by_cases z : x = t
      · rw [z] at hx ⊢
        rcases g3 hx with q | ⟨q1, q2⟩
        · rw [a3 t q]; exact Nat.zero_le _
        · exact Nat.le_trans (a4 t q1) q2
      · rw [x12 x z] at hx
        rw [x13 x z]
        exact a4 x hx
  · intro x i hx hi hwr hc
    rw [n 10 (by decide)] at hx
    rw [n 14 (by decide)] at hi
    rw [e2] at hwr
    rw [e2, n 18 (by decide), n 19 (by decide)]
    by_cases z : x = t
    · rw [z] at hx hi hwr hc ⊢
      exact hl i hx hi hwr hc
    · rw [x12 x z, x44 x z] at hc
      exact h.hl x i hx hi hwr hc
theorem own_nu (h : own ρ) {k j v : Nat} (hk : k ∉ [25, 27]) (hv : v < 1000000) : own (nu ρ k j v) := by
  obtain ⟨o1, o2, o3, o4, o5, o6, o7, o8, o9⟩ := h
  simp only [List.mem_cons, List.not_mem_nil, or_false, not_or] at hk
  refine ⟨fun x => ?_, fun x => ?_, fun x => ?_, fun x => ?_, fun x => ?_, fun x => ?_, fun x => ?_, ?_, o9⟩
  · show (if 13 = k ∧ x = j then v else ρ.1 13 x) < _; split; exact hv; exact o1 x
  · show (if 25 = k ∧ x = j then v else ρ.1 25 x) < _; split; exact hv; exact o2 x
  · show (if 28 = k ∧ x = j then v else ρ.1 28 x) < _; split; exact hv; exact o3 x
  · show (if 29 = k ∧ x = j then v else ρ.1 29 x) < _; split; exact hv; exact o4 x
  · show (if 44 = k ∧ x = j then v else ρ.1 44 x) < _; split; exact hv; exact o5 x
  · show (if 47 = k ∧ x = j then v else ρ.1 47 x) < _; split; exact hv; exact o6 x
  · show (if 27 = k ∧ x = j then v else ρ.1 27 x) < _; rw [if_neg (fun z => hk.2 z.1.symm)]; exact o7 x
  · show (if 25 = k ∧ 0 = j then v else ρ.1 25 0) ≤ _; rw [if_neg (fun z => hk.1 z.1.symm)]; exact o8
theorem rB_mem (hw : kf κ) {q : Nat × Nat} (h : q ∈ rB κ t) : 8 * t ≤ q.1 ∧ q.1 < 8 * t + κ.1 14 t ∧ q.2 < κ.1 5 (κ.1 18 q.1) := by
  unfold rB at h
  obtain ⟨i, hi, hq⟩ := List.mem_flatMap.mp h
  have hi := List.mem_range'_1.mp hi
  unfold rBk at hq
  split at hq
  · obtain ⟨k, hk, rfl⟩ := List.mem_map.mp hq
    have hk := List.mem_range'_1.mp (List.mem_filter.mp hk).1
    exact ⟨hi.1, hi.2, by show k < κ.1 5 (κ.1 18 i); omega⟩
  · cases hq
theorem ov_1 {k x : Nat} (h : k ≠ 28 ∧ k ≠ 29) : (rOvS ρ t).1 k x = ρ.1 k x := by
  unfold rOvS
  split
  · unfold rSk
    split
    · simp [nu, h.1, h.2]
    · rfl
  · rfl
theorem ov_2 : (rOvS ρ t).2 = ρ.2 := by
  unfold rOvS
  split
  · unfold rSk
    split <;> rfl
  · rfl
theorem ov_ag (ha : ag κ ρ) : ag κ (rOvS ρ t) := by
  refine ⟨fun k hk => ?_, by rw [ov_2]; exact ha.2.1, by rw [ov_2]; exact ha.2.2⟩
  funext x
  simp only [List.mem_cons, List.not_mem_nil, or_false, not_or] at hk
  rw [ov_1 ⟨hk.2.2.2.1, hk.2.2.2.2.1⟩, ha.n k (by simp [hk])]
theorem ov_own (hw : kf κ) (ha : ag κ ρ) (ht : t < 60) (h : own ρ) : own (rOvS ρ t) := by
  unfold rOvS
  split
  · cases hq : (rB ρ t)[ρ.1 13 t]? with
    | none => exact h
    | some q =>
      have hm := List.mem_of_getElem? hq
      rw [ag_rB ha] at hm
      obtain ⟨q1, q2, q3⟩ := rB_mem hw hm
      have := hw.i8 t
      have := hw.c6 (κ.1 18 q.1)
      exact own_nu (own_nu h (by decide) (by omega)) (by decide) (by omega)
  · exact h
theorem s2_n {k x : Nat} (h : k ∉ [16, 17, 44, 47]) : (cSt2 κ t).1 k x = κ.1 k x := by
  simp only [List.mem_cons, List.not_mem_nil, or_false, not_or] at h
  unfold cSt2
  split
  · simp [cTp, cPl, nu, h]
  · simp [nu, h]
theorem s2_2 : (cSt2 κ t).2 = κ.2 := by
  unfold cSt2
  split <;> rfl
theorem s2_W : rW (cSt2 κ t) t = rW κ t := by
  unfold rW rI
  rw [s2_n (by decide), s2_2]
theorem s1_n (k : Nat) (h : k ∉ [12, 16, 17, 44, 47]) : (cSt1 κ t).1 k = κ.1 k := by
  funext x
  simp only [List.mem_cons, List.not_mem_nil, or_false, not_or] at h
  unfold cSt1
  rw [show (nu (nu (cSt2 κ t) 12 t (rPh ((cSt2 κ t).1 12 t) (decide (rW (cSt2 κ t) t = 0)))) 44 t 0).1 k x = (cSt2 κ t).1 k x by simp [nu, h], s2_n (by simp [h])]
theorem s1_12 {x : Nat} : (cSt1 κ t).1 12 x = if x = t then rPh (κ.1 12 t) (decide (rW κ t = 0)) else κ.1 12 x := by
  unfold cSt1
  rw [s2_W, s2_n (by decide)]
  by_cases h : x = t
  · simp [nu, h]
  · simp only [nu, h, and_false, if_false]; exact s2_n (by decide)
theorem s1_44 {x : Nat} : (cSt1 κ t).1 44 x = if x = t then 0 else κ.1 44 x := by
  unfold cSt1 cSt2
  by_cases h : x = t
  · simp [nu, h]
  · by_cases h1 : κ.1 12 t = 1 <;> simp [nu, h, h1, cTp, cPl]
theorem s1_16 {x : Nat} : (cSt1 κ t).1 16 x = if κ.1 12 t = 1 ∧ x = t then κ.1 17 0 + 1 else κ.1 16 x := by
  unfold cSt1 cSt2
  by_cases h : x = t <;> by_cases h1 : κ.1 12 t = 1 <;> simp [nu, h, h1, cTp, cPl]
theorem s1_17 {x : Nat} : (cSt1 κ t).1 17 x = if κ.1 12 t = 1 ∧ x = 0 then κ.1 17 0 + 1 else κ.1 17 x := by
  unfold cSt1 cSt2
  by_cases h : x = 0 <;> by_cases h1 : κ.1 12 t = 1 <;> simp [nu, h, h1, cTp, cPl]
theorem s1_47 {x : Nat} : (cSt1 κ t).1 47 x = if κ.1 12 t = 1 ∧ x = κ.1 17 0 then t else κ.1 47 x := by
  unfold cSt1 cSt2
  by_cases h : x = κ.1 17 0 <;> by_cases h1 : κ.1 12 t = 1 <;> simp [nu, h, h1, cTp, cPl]
theorem s1_2 : (cSt1 κ t).2 = κ.2 := by
  unfold cSt1
  exact s2_2
theorem q1_1 {k x : Nat} : (rSt1 ρ t).1 k x = if k = 12 ∧ x = t then rPh (ρ.1 12 t) (decide (rW ρ t = 0)) else if k = 13 ∧ x = t then 0 else if ρ.1 12 t = 1 ∧ k = 16 ∧ x = t then ρ.1 17 0 + 1 else if ρ.1 12 t = 1 ∧ k = 17 ∧ x = 0 then ρ.1 17 0 + 1 else ρ.1 k x := by
  have eW : rW (rSt2 ρ t) t = rW ρ t := by
    unfold rW rI rSt2
    split <;> simp [nu]
  unfold rSt1
  rw [eW]
  unfold rSt2
  by_cases a : k = 12 ∧ x = t
  · simp [nu, a]
  · by_cases h1 : ρ.1 12 t = 1
    · rw [if_pos h1, if_neg a]
      simp only [nu, h1, true_and]
      rw [if_neg a]
      by_cases c : k = 13 ∧ x = t
      · simp [c]
      · rw [if_neg c]
        by_cases d : k = 16 ∧ x = t
        · simp [d]
        · rw [if_neg d, if_neg c]
    · rw [if_neg h1, if_neg a]
      simp only [nu, h1, false_and, if_false]
      rw [if_neg a]
theorem q1_2 : (rSt1 ρ t).2 = ρ.2 := by
  unfold rSt1 rSt2
  split <;> rfl
theorem own_st1 (ho : own ρ) (hP : ρ.1 17 0 + 1 < 1000000) (h12 : ρ.1 12 t ≤ 8) : own (rSt1 ρ t) := by
  have hp : ∀ p w, rPh p w ≤ p + 8 := fun p w => by unfold rPh; split; omega; split <;> omega
  have h2 : own (rSt2 ρ t) := by
    unfold rSt2
    split
    · exact own_nu (k := 16) (own_nu (k := 17) (own_nu (k := 13) ho (by decide) (by omega)) (by decide) hP) (by decide) hP
    · exact own_nu (k := 13) ho (by decide) (by omega)
  unfold rSt1
  refine own_nu (k := 12) h2 (by decide) ?_
  have := hp (ρ.1 12 t) (decide (rW (rSt2 ρ t) t = 0))
  omega
theorem kf_st1 (hw : kf κ) (ht : t < κ.1 10 0) (h16 : 1 ≤ κ.1 12 t ∧ κ.1 12 t ≤ 6) (hP : κ.1 12 t = 1 → κ.1 17 0 < 60) : kf (cSt1 κ t) := by
  have h8 := hw.i8 t
  have hwj := kf_cu (p := κ.1 14 t * 6) hw ht (by omega)
  have hw2 : kf (cSt2 κ t) := by
    unfold cSt2
    split
    · rename_i q; exact kf_tp hwj ht (hP q)
    · exact hwj
  have ht2 : t < (cSt2 κ t).1 10 0 := by rw [s2_n (by decide)]; exact ht
  unfold cSt1
  exact kf_cu (kf_ph hw2 ht2 (rPh_le (by rw [s2_n (by decide)]; exact h16)).2) ht2 (by omega)
/-- nothing is left to do in a phase: the next one -/
theorem iv_next (h : Iv κ ρ b (fun x => x ≠ t)) (ht : t < κ.1 10 0) (hac : rAc κ t = true) (h0 : st0 κ ρ t) (hn : cNx κ t = none) : Iv (cSt1 κ t) (rSt1 (rOvS ρ t) t) b (fun x => x ≠ t) ∧ st0 (cSt1 κ t) (rSt1 (rOvS ρ t) t) t := by
  have hw := h.kf
  have h16 := rAc_16 hac
  have h60 := hw.nT
  have ha := ov_ag (t := t) h.ag
  have hq := rPh_le (w := decide (rW κ t = 0)) h16
  have hp1 : κ.1 12 t = 1 → κ.1 17 0 < 60 := fun q => h.p60 ht (by omega)
  have no : ∀ j, κ.1 44 t ≤ j → j < κ.1 14 t * 6 → cNp κ t j = false := fun j h1 h2 => by
    have := (List.find?_range'_eq_none.mp hn) j h1 (by omega)
    simpa using this
  have e12 : (cSt1 κ t).1 12 t = rPh (κ.1 12 t) (decide (rW κ t = 0)) := by rw [s1_12, if_pos rfl]
  have e44 : (cSt1 κ t).1 44 t = 0 := by rw [s1_44, if_pos rfl]
  have f12 : (rOvS ρ t).1 12 t = κ.1 12 t := by rw [ov_1 (by decide), h.ag.n 12 (by decide)]
  have f17 : (rOvS ρ t).1 17 0 = κ.1 17 0 := by rw [ov_1 (by decide), h.ag.n 17 (by decide)]
  have fW : rW (rOvS ρ t) t = rW κ t := by rw [ag_rW ha]
  refine ⟨iv_ph h (κ2 := cSt1 κ t) (ρ2 := rSt1 (rOvS ρ t) t) (t := t) (kf_st1 hw ht h16 hp1) ?_ ?_ s1_n s1_2 (fun x hx => by rw [s1_12, if_neg hx]) (fun x hx => by rw [s1_44, if_neg hx]) ?_ ?_ ?_ ?_ ?_ ?_ ?_ ?_ ?_ ?_ (fun x hx _ => hx) ?_ ?_ ?_, ?_⟩
  · refine ⟨fun k hk => ?_, ?_, ?_⟩
    · funext x
      simp only [List.mem_cons, List.not_mem_nil, or_false, not_or] at hk
      rw [q1_1, f12, f17, fW]
      by_cases k12 : k = 12
      · subst k12
        rw [s1_12]
        by_cases hx : x = t
        · rw [if_pos hx, if_pos ⟨rfl, hx⟩]
        · rw [if_neg hx, if_neg (fun z => hx z.2), if_neg (by simp), if_neg (by simp), if_neg (by simp), ha.n 12 (by decide)]
      · rw [if_neg (fun z => k12 z.1), if_neg (fun z => hk.1 z.1)]
        by_cases k16 : k = 16
        · subst k16
          rw [s1_16]
          by_cases hx : κ.1 12 t = 1 ∧ x = t
          · rw [if_pos hx, if_pos ⟨hx.1, rfl, hx.2⟩]
          · rw [if_neg hx, if_neg (fun z => hx ⟨z.1, z.2.2⟩), if_neg (by simp), ha.n 16 (by decide)]
        · rw [if_neg (fun z => k16 z.2.1)]
          by_cases k17 : k = 17
          · subst k17
            rw [s1_17]
            by_cases hx : κ.1 12 t = 1 ∧ x = 0
            · rw [if_pos hx, if_pos ⟨hx.1, rfl, hx.2⟩]
            · rw [if_neg hx, if_neg (fun z => hx ⟨z.1, z.2.2⟩), ha.n 17 (by decide)]
          · rw [if_neg (fun z => k17 z.2.1), s1_n k (by simp [hk, k12, k16, k17]), ha.n k (by simp [hk])]
    · rw [s1_2, q1_2]; exact ha.2.1
    · rw [s1_2, q1_2]; exact ha.2.2
  · refine own_st1 (ov_own (t := t) hw h.ag (by omega) h.ow) ?_ (by omega)
    have := hw.nP
    omega
  · funext x; rw [q1_1]; simp; exact ov_1 (by decide)
  · funext x; rw [q1_1]; simp; exact ov_1 (by decide)
  · rw [q1_2, ov_2]
  · intro x hx; rw [q1_1]; simp [hx]; exact ov_1 (by decide)
  · rw [q1_1]; simp
  · intro p hp
    rw [s1_17] at hp
    rw [s1_47]
    by_cases q : κ.1 12 t = 1
    · rw [if_pos ⟨q, rfl⟩] at hp
      by_cases z : p = κ.1 17 0
      · rw [if_pos ⟨q, z⟩, s1_16, if_pos ⟨q, rfl⟩, z]
      · rw [if_neg (fun y => z y.2), s1_16]
        have := h.pa p (by omega)
        rw [if_neg, this]
        rintro ⟨-, y⟩
        rw [y, h.pc t (by omega)] at this
        omega
    · rw [if_neg (fun y => q y.1)] at hp
      rw [if_neg (fun y => q y.1), s1_16, if_neg (fun y => q y.1)]
      exact h.pa p hp
  · intro x hx
    rw [s1_16] at hx ⊢
    rw [s1_17]
    by_cases q : κ.1 12 t = 1
    · by_cases z : x = t
      · rw [if_pos ⟨q, z⟩, if_pos ⟨q, rfl⟩, s1_47, if_pos ⟨q, by omega⟩]
        exact ⟨Nat.le_refl _, z.symm⟩
      · rw [if_neg (fun y => z y.2)] at hx ⊢
        obtain ⟨c1, c2⟩ := h.pb x hx
        rw [if_pos ⟨q, rfl⟩, s1_47, if_neg (by omega)]
        exact ⟨by omega, c2⟩
    · rw [if_neg (fun y => q y.1)] at hx ⊢
      rw [if_neg (fun y => q y.1), s1_47, if_neg (fun y => q y.1)]
      exact h.pb x hx
  · intro x hx
    rw [s1_12] at hx
    rw [s1_16]
    by_cases z : x = t
    · rw [if_pos z] at hx; omega
    · rw [if_neg z] at hx
      rw [if_neg (fun y => z y.2)]
      exact h.pc x hx
  · intro e h41 he
    obtain ⟨q1, q2, q3, q4, q5⟩ := h.r4 e h41
    rw [he] at q3 q4
    rw [e12]
    by_cases z : κ.1 12 t = 5
    · obtain ⟨c1, c2⟩ := h.al5 z he h41
      by_cases y : κ.1 44 t ≤ e % 48
      · rw [no _ y c2] at c1; cases c1
      · rw [h0.2.2 (by omega) _ (by omega)] at c1; cases c1
    · have : rPh (κ.1 12 t) (decide (rW κ t = 0)) = κ.1 12 t + 1 := by
        unfold rPh
        rw [if_neg (by rintro (y | y) <;> omega), if_neg (by omega)]
      rw [this]
      exact ⟨by omega, by omega, fun y => by omega⟩
  · intro _ _ z; exact absurd rfl z
  · intro z
    rw [e12] at z
    apply Nat.le_of_not_lt
    intro y
    have : rPh (κ.1 12 t) (decide (rW κ t = 0)) ≥ 4 := by
      unfold rPh
      split
      · omega
      · split <;> omega
    omega
  · intro z
    rw [e12] at z
    left
    apply Nat.le_of_not_lt
    intro y
    have : rPh (κ.1 12 t) (decide (rW κ t = 0)) ≥ 4 := by
      unfold rPh
      split
      · omega
      · split <;> omega
    omega
  · intro i _ hi hwr hc
    rw [e12, e44] at hc
    refine h.hl t i ht hi hwr ?_
    have key : ∀ p w, rPh p w = 7 ∨ rPh p w = 8 ∨ rPh p w = p + 1 := fun p w => by
      unfold rPh
      split
      · exact Or.inl rfl
      · split
        · exact Or.inr (Or.inl rfl)
        · exact Or.inr (Or.inr rfl)
    rcases key (κ.1 12 t) (decide (rW κ t = 0)) with y | y | y
    · rw [y] at hc; omega
    · rw [y] at hc; omega
    · rw [y] at hc
      by_cases z : κ.1 12 t = 1
      · left
        refine ⟨z, ?_⟩
        apply Nat.lt_of_not_le
        intro w
        have := no (6 * i) w (by omega)
        rw [np_1 z, show 6 * i % 6 = 0 by omega, show 6 * i / 6 = i by omega, hwr] at this
        simp at this
      · right; omega
  · refine ⟨by rw [e44]; exact Nat.zero_le _, fun _ => ?_, fun _ j hj => by rw [e44] at hj; omega⟩
    rw [e44, q1_1]
    simp
end PU3
