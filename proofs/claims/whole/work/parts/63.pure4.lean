section PU4
variable {κ κ2 ρ ρ2 : ax_R} {b b2 : Nat} {E E2 : Nat → Prop} {t : Nat}
theorem iv_E (h : Iv κ ρ b E) (hE : ∀ x, rAc κ x = true → E2 x → E x) : Iv κ ρ b E2 :=
  ⟨h.kf, h.ag, h.ow, h.bd, h.um, h.m3, h.it, h.lk, h.pa, h.pb, h.pc, h.r1, h.r2, h.r3, h.r4, fun x h1 h2 h3 => h.st x h1 h2 (hE x h2 h3), h.gb, h.hl⟩
theorem st0_own {x : Nat} (h : st1 κ ρ x) (e13 : ρ2.1 13 x = ρ.1 13 x) : st1 κ ρ2 x := ⟨⟨h.1.1, fun q => by rw [e13]; exact h.1.2.1 q, h.1.2.2⟩, h.2⟩
theorem iv_own (h : Iv κ ρ b E) (ha : ag κ ρ2) (ho : own ρ2) (r13 : ρ2.1 13 = ρ.1 13) (r25 : ρ2.1 25 = ρ.1 25) (r27 : ρ2.1 27 = ρ.1 27) (r26 : ρ2.2.2 26 = ρ.2.2 26) : Iv κ ρ2 b E :=
  ⟨h.kf, ha, ho, by rw [r13]; exact h.bd, h.um, h.m3, h.it, h.lk, h.pa, h.pb, h.pc, by rw [r25, r26, r27]; exact h.r1, by rw [r25, r26, r27]; exact h.r2, by rw [r25, r26, r27]; exact h.r3, h.r4, fun x h1 h2 h3 => st0_own (h.st x h1 h2 h3) (by rw [r13]), by rw [r25, r13]; exact h.gb, h.hl⟩
/-- one transaction changes: its phase, its cursor, its locks, its records; values and what is done besides -/
theorem iv_upd (h : Iv κ ρ b E) (hk : kf κ2) (ha : ag κ2 ρ2) (ho : own ρ2) (n : ∀ k, k ∉ [8, 12, 16, 17, 24, 44, 47] → κ2.1 k = κ.1 k) (bb : ∀ k, k ∉ [15, 41] → κ2.2.1 k = κ.2.1 k) (b41 : ∀ e, e / 48 ≠ t → κ2.2.1 41 e = κ.2.1 41 e)
    (hx : ∀ j x, x ≠ t → x < κ.1 10 0 → (κ2.2.2 9 j = nI x ↔ κ.2.2 9 j = nI x)) (lv : ∀ j, κ2.2.2 9 j = κ.2.2 9 j ∨ κ2.2.2 9 j = -9 ∨ ∃ i, t < κ.1 10 0 ∧ i < κ.1 14 t ∧ κ2.2.2 9 j = nI t ∧ j = 8 * κ.1 18 (8 * t + i) + κ.1 19 (8 * t + i) ∧ κ.2.1 22 (8 * t + i) = true)
    (x12 : ∀ x, x ≠ t → κ2.1 12 x = κ.1 12 x) (x44 : ∀ x, x ≠ t → κ2.1 44 x = κ.1 44 x) (x13 : ∀ x, x ≠ t → ρ2.1 13 x = ρ.1 13 x) (bd : ∀ j, κ2.1 8 j ≤ b2) (hb : b ≤ b2) (t13 : ρ2.1 13 t ≤ b2)
    (pa : ∀ p, p < κ2.1 17 0 → κ2.1 16 (κ2.1 47 p) = p + 1) (pb : ∀ t, κ2.1 16 t ≠ 0 → κ2.1 16 t ≤ κ2.1 17 0 ∧ κ2.1 47 (κ2.1 16 t - 1) = t) (pc : ∀ t, κ2.1 12 t ≤ 1 → κ2.1 16 t = 0)
    (r1 : ∀ k, k < ρ2.1 25 0 → ρ2.2.2 26 k = -9 ∨ ∃ e, e < 2880 ∧ κ2.2.1 41 e = true ∧ ρ2.2.2 26 k = nI (e / 6) ∧ ρ2.1 27 k = e % 6) (r2 : ∀ e, κ2.2.1 41 e = true → e < 2880 ∧ ∃ k, k < ρ2.1 25 0 ∧ ρ2.2.2 26 k = nI (e / 6) ∧ ρ2.1 27 k = e % 6) (r3 : ∀ k k2 e e2, k < k2 → k2 < ρ2.1 25 0 → ρ2.2.2 26 k = nI (e / 6) → ρ2.1 27 k = e % 6 → ρ2.2.2 26 k2 = nI (e2 / 6) → ρ2.1 27 k2 = e2 % 6 → e < 2880 → e2 < 2880 → e / 48 = e2 / 48 → e < e2)
    (r4 : ∀ e, κ2.2.1 41 e = true → ik κ2 (e / 6) ∧ κ2.2.1 22 (e / 6) = true ∧ 3 ≤ κ2.1 12 (e / 48) ∧ κ2.1 12 (e / 48) ≤ 5 ∧ (κ2.1 12 (e / 48) = 3 → e % 48 < κ2.1 44 (e / 48)))
    (st : t < κ.1 10 0 → rAc κ2 t = true → E2 t → st1 κ2 ρ2 t) (hE : ∀ x, x ≠ t → E2 x → E x)
    (gb : ∃ g : Nat → Nat, ρ2.1 25 0 ≤ gSum g ∧ (∀ t, g t ≤ 24) ∧ (∀ t, κ2.1 12 t ≤ 2 → g t = 0) ∧ (∀ t, κ2.1 12 t = 3 → g t ≤ ρ2.1 13 t))
    (hl : ∀ i, t < κ.1 10 0 → i < κ.1 14 t → κ.2.1 22 (8 * t + i) = true → ((κ2.1 12 t = 1 ∧ 6 * i < κ2.1 44 t) ∨ κ2.1 12 t = 2 ∨ κ2.1 12 t = 3 ∨ (κ2.1 12 t = 4 ∧ κ2.1 44 t ≤ 6 * i)) → κ2.2.2 9 (8 * κ.1 18 (8 * t + i) + κ.1 19 (8 * t + i)) = nI t) : Iv κ2 ρ2 b2 E2 := by
  obtain ⟨cb, cm, -, -⟩ := bk_co (κ := κ) (κ2 := κ2) (n 5 (by decide)) (n 6 (by decide)) (bb 1 (by decide))
  refine ⟨hk, ha, ho, ?_, ?_, ?_, ?_, ?_, pa, pb, pc, r1, r2, r3, r4, ?_, gb, ?_⟩
  · intro j
    rw [n 21 (by decide), n 3 (by decide)]
    refine ⟨bd j, Nat.le_trans (h.bd j).2.1 hb, Nat.le_trans (h.bd j).2.2.1 hb, ?_⟩
    by_cases e : j = t
    · rw [e]; exact t13
    · rw [x13 j e]; exact Nat.le_trans (h.bd j).2.2.2 hb
  · rw [bb 0 (by decide), bb 1 (by decide)]; exact h.um
  · rw [cm]; exact h.m3
  · rw [n 14 (by decide), n 18 (by decide), n 19 (by decide)]; exact h.it
  · rw [n 4 (by decide), n 10 (by decide), n 14 (by decide), n 18 (by decide), n 19 (by decide), bb 22 (by decide)]
    intro r o hr ho
    rcases lv (8 * r + o) with q | q | ⟨i, q1, q2, q3, q4, q5⟩
    · rw [q]; exact h.lk r o hr ho
    · exact Or.inl q
    · have := h.kf.o8 (8 * t + i)
      exact Or.inr ⟨t, i, q1, q2, q3, by omega, by omega, q5⟩
  · intro x hxx hac hEx
    rw [n 10 (by decide)] at hxx
    by_cases z : x = t
    · rw [z] at hxx hac hEx ⊢
      exact st hxx hac hEx
    · have hac2 : rAc κ x = true := by unfold rAc at hac ⊢; rw [x12 x z] at hac; exact hac
      have h8 := h.kf.i8 x
      refine st_co (h.st x hxx hac2 (hE x z hEx)) (x44 x z) (by rw [n 14 (by decide)]) (x12 x z) (x13 x z) (fun i s hi hs => cHa_co (x12 x z) (by rw [bb 22 (by decide)]) (by rw [n 18 (by decide)]) (by rw [n 19 (by decide)]) (fun _ => by rw [cb]) (fun _ => ⟨b41 _ (by omega), by rw [n 5 (by decide)]⟩) (fun _ => hx _ x z hxx))
  · intro x i hxx hi hwr hc
    rw [n 10 (by decide)] at hxx
    rw [n 14 (by decide)] at hi
    rw [bb 22 (by decide)] at hwr
    rw [n 18 (by decide), n 19 (by decide)]
    by_cases z : x = t
    · rw [z] at hxx hi hwr hc ⊢
      exact hl i hxx hi hwr hc
    · rw [x12 x z, x44 x z] at hc
      exact (hx _ x z hxx).mpr (h.hl x i hxx hi hwr hc)
theorem cnt_ext {p : Nat → Bool} {c j : Nat} (h : c ≤ j) (no : ∀ i, c ≤ i → i < j → p i = false) : (List.range' 0 j).countP p = (List.range' 0 c).countP p := by
  rw [rg_split h, List.countP_append]
  have : (List.range' c (j - c)).countP p = 0 := List.countP_eq_zero.mpr fun i hi => by
    have := List.mem_range'_1.mp hi
    rw [no i this.1 (by omega)]
    simp
  omega
theorem cnt_succ {p : Nat → Bool} {j : Nat} (h : p j = true) : (List.range' 0 (j + 1)).countP p = (List.range' 0 j).countP p + 1 := by
  rw [rg_split (Nat.le_succ j), List.countP_append, show j + 1 - j = 1 by omega]
  simp [List.range'_succ, h]
/-- the next act of a phase is found -/
theorem iv_found (h : Iv κ ρ b (fun x => x ≠ t)) (ht : t < κ.1 10 0) (h0 : st0 κ ρ t) {j : Nat} (hj : cNx κ t = some j) : Iv (nu κ 44 t j) (rOvS ρ t) b (fun _ => True) := by
  have hw := h.kf
  have h60 := hw.nT
  have h8 := hw.i8 t
  obtain ⟨j1, j2, j3⟩ := cNx_lt hj
  have no : ∀ i, κ.1 44 t ≤ i → i < j → cNp κ t i = false := fun i h1 h2 => by
    have := (List.find?_range'_eq_some.mp hj).2.2 i h1 h2
    simpa using this
  have e44 : (nu κ 44 t j).1 44 t = j := by simp [nu]
  refine iv_ph (t := t) h (kf_cu hw ht (by omega)) (ov_ag (ag_nuc h.ag (by decide))) (ov_own hw h.ag (by omega) h.ow) (fun k hk => ?_) rfl (fun x _ => rfl) (fun x hx => by simp [nu, hx]) (funext fun x => ov_1 (by decide)) (funext fun x => ov_1 (by decide)) (by rw [ov_2]) (fun x _ => ov_1 (by decide)) (by rw [ov_1 (by decide)]; exact (h.bd t).2.2.2) h.pa h.pb h.pc ?_ ?_ (fun x hx _ => hx) (fun q => q) (fun q => Or.inr ⟨q, by rw [ov_1 (by decide)]; exact Nat.le_refl _⟩) ?_
  · funext x
    simp only [List.mem_cons, List.not_mem_nil, or_false, not_or] at hk
    simp [nu, hk]
  · intro e h41 he
    obtain ⟨q1, q2, q3, q4, q5⟩ := h.r4 e h41
    rw [he] at q3 q4 q5
    refine ⟨q3, q4, fun z => ?_⟩
    rw [e44]
    have := q5 z
    omega
  · intro _ _ _
    refine ⟨⟨?_, fun q => ?_, fun q i hi => ?_⟩, ?_, ?_⟩
    · rw [e44]; exact Nat.le_of_lt j2
    · rw [e44, ov_1 (by decide), h0.2.1 q]
      exact (cnt_ext j1 no).symm
    · rw [e44] at hi
      show cNp κ t i = false
      by_cases z : κ.1 44 t ≤ i
      · exact no i z hi
      · exact h0.2.2 q i (by omega)
    · rw [e44]; exact j2
    · rw [e44]; exact j3
  · intro i _ hi hwr hc
    refine h.hl t i ht hi hwr ?_
    rw [e44] at hc
    rcases hc with ⟨c1, c2⟩ | c | c | ⟨c1, c2⟩
    · left
      have c1 : κ.1 12 t = 1 := c1
      refine ⟨c1, ?_⟩
      apply Nat.lt_of_not_le
      intro w
      have := no (6 * i) w c2
      rw [np_1 c1, show 6 * i % 6 = 0 by omega, show 6 * i / 6 = i by omega, hwr] at this
      simp at this
    · exact Or.inr (Or.inl c)
    · exact Or.inr (Or.inr (Or.inl c))
    · exact Or.inr (Or.inr (Or.inr ⟨c1, by omega⟩))
theorem ov_no (ha : ag κ ρ) (hw : kf κ) (hac : rAc κ t = false) : rOv ρ t = false ∧ rOvS ρ t = ρ := by
  have h8 := hw.p8 t
  have hc : κ.1 12 t = 0 ∨ κ.1 12 t = 7 ∨ κ.1 12 t = 8 := by
    unfold rAc at hac
    simp only [Bool.and_eq_false_iff, decide_eq_false_iff_not] at hac
    omega
  unfold rOv rOvS
  rw [ha.n 12 (by decide)]
  rcases hc with q | q | q <;> rw [q] <;> exact ⟨rfl, if_neg (by decide)⟩
theorem iv_settle : ∀ (n : Nat) (κ ρ : ax_R), Iv κ ρ b (fun x => x ≠ t) → t < κ.1 10 0 → (rAc κ t = true → st0 κ ρ t ∧ 7 ≤ κ.1 12 t + n) → Iv (cPo n κ t) (rSt n ρ t) b (fun _ => True)
  | 0, κ, ρ, h, ht, h0 => by
    refine iv_E h fun x hx _ e => ?_
    have hx : rAc κ x = true := hx
    rw [e] at hx
    have := (h0 hx).2
    have := rAc_16 hx
    omega
  | n + 1, κ, ρ, h, ht, h0 => by
    unfold cPo rSt
    cases hac : rAc κ t with
    | false =>
      rw [if_pos rfl, (ov_no h.ag h.kf hac).1, if_neg (by simp), (ov_no h.ag h.kf hac).2]
      refine iv_E h fun x hx _ e => ?_
      rw [e, hac] at hx
      cases hx
    | true =>
      obtain ⟨s0, h7⟩ := h0 hac
      rw [if_neg (by simp), h.ov ht hac s0]
      cases hj : cNx κ t with
      | some j =>
        rw [if_neg (by simp)]
        exact iv_found h ht s0 hj
      | none =>
        rw [if_pos (show (none : Option Nat).isNone = true from rfl)]
        obtain ⟨h2, s2⟩ := iv_next h ht hac s0 hj
        refine iv_settle n _ _ h2 (by rw [s1_n 10 (by decide)]; exact ht) (fun hac2 => ⟨s2, ?_⟩)
        have h16 := rAc_16 hac
        have h26 := rAc_16 hac2
        rw [s1_12, if_pos rfl] at h26 ⊢
        have key : ∀ p w, rPh p w = 7 ∨ rPh p w = 8 ∨ rPh p w = p + 1 := fun p w => by
          unfold rPh
          split
          · exact Or.inl rfl
          · split
            · exact Or.inr (Or.inl rfl)
            · exact Or.inr (Or.inr rfl)
        rcases key (κ.1 12 t) (decide (rW κ t = 0)) with y | y | y
        · omega
        · omega
        · omega
end PU4
