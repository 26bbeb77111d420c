section PU14
variable {κ κ2 ρ ρ2 : ax_R} {b : Nat} {t r : Nat} {Q : Nat → Bool} {E E2 : Nat → Prop}
theorem rv_b {a : Nat} (q1 : a ≠ 15) (q2 : a ≠ 41) : (cRv κ t Q).2.1 a = κ.2.1 a := by
  unfold cRv
  rw [(lgs_r (t := t) (rI κ t) _).2.2.1 a q2]
  exact (rvA_f (κ := κ) (t := t)).2.2.2.1 a q1
theorem rv_12 {x : Nat} (hx : x ≠ t) : (cRv κ t Q).1 12 x = κ.1 12 x := by
  unfold cRv
  rw [lgs_1, (rvA_f (κ := κ) (t := t)).1 x, if_neg hx]
theorem tr_co {x : Nat} (e12 : κ2.1 12 x = κ.1 12 x) (n : ∀ k, k ∈ [5, 6, 11, 14, 18] → κ2.1 k = κ.1 k) (b1 : κ2.2.1 1 = κ.2.1 1) (b22 : κ2.2.1 22 = κ.2.1 22) : cTr κ2 x Q = cTr κ x Q := by
  unfold cTr rAc rI cHt
  rw [e12, n 11 (by decide), n 14 (by decide), n 18 (by decide), n 5 (by decide), n 6 (by decide), b1, b22]
theorem c2s : ∀ (l : List Nat) (ρ : ax_R), (l.foldl rC2 ρ).1 = ρ.1 ∧ (l.foldl rC2 ρ).2.1 = ρ.2.1 ∧ (∀ a, a ≠ 31 → (l.foldl rC2 ρ).2.2 a = ρ.2.2 a) ∧ (∀ r, r ∈ l → (l.foldl rC2 ρ).2.2 31 r = oI (rL ρ r)[0]?) ∧ (∀ r, r ∉ l → (l.foldl rC2 ρ).2.2 31 r = ρ.2.2 31 r)
  | [], _ => ⟨rfl, rfl, fun _ _ => rfl, fun _ h => (by cases h), fun _ _ => rfl⟩
  | x :: l, ρ => by
    rw [List.foldl_cons]
    obtain ⟨r1, r2, r3, r4, r5⟩ := c2s l (rC2 ρ x)
    refine ⟨r1, r2, fun a h => (r3 a h).trans (rk h), fun r hr => ?_, fun r hr => ?_⟩
    · by_cases z : r ∈ l
      · exact r4 r z
      · have : r = x := (List.mem_cons.mp hr).resolve_right z
        rw [r5 r z, this]
        simp [rC2, ru]
    · simp only [List.mem_cons, not_or] at hr
      rw [r5 r hr.2]
      simp [rC2, ru, hr.1]
theorem c3s : ∀ (l : List Nat) (ρ : ax_R), l.Nodup → (l.foldl rC3 ρ).1 = ρ.1 ∧ (l.foldl rC3 ρ).2.2 = ρ.2.2 ∧ (∀ a, a ≠ 1 → a ≠ 2 → (l.foldl rC3 ρ).2.1 a = ρ.2.1 a) ∧ (∀ m, (l.foldl rC3 ρ).2.1 1 m = if m ∈ l then ρ.2.1 0 m else ρ.2.1 1 m) ∧ (∀ m, (l.foldl rC3 ρ).2.1 2 m = if m ∈ l then ρ.2.1 1 m else ρ.2.1 2 m)
  | [], _, _ => ⟨rfl, rfl, fun _ _ _ => rfl, fun m => by simp, fun m => by simp⟩
  | x :: l, ρ, hn => by
    have hn := List.nodup_cons.mp hn
    rw [List.foldl_cons]
    obtain ⟨r1, r2, r3, r4, r5⟩ := c3s l (rC3 ρ x) hn.2
    refine ⟨r1, r2, fun a h1 h2 => ?_, fun m => ?_, fun m => ?_⟩
    · rw [r3 a h1 h2]
      unfold rC3
      rw [bkk h1, bkk h2]
    · rw [r4]
      by_cases z : m = x
      · subst z
        rw [if_neg hn.1, if_pos List.mem_cons_self]
        simp [rC3, bu]
      · simp only [List.mem_cons, z, false_or]
        split
        · simp [rC3, bu]
        · simp [rC3, bu, z]
    · rw [r5]
      by_cases z : m = x
      · subst z
        rw [if_neg hn.1, if_pos List.mem_cons_self]
        simp [rC3, bu]
      · simp only [List.mem_cons, z, false_or]
        split
        · simp [rC3, bu, z]
        · simp [rC3, bu, z]
/-- the new configuration, ahead of the recovery -/
theorem iv_c1 (h : Iv κ ρ b (fun _ => True)) (hb : b + 1 < 1000000) : Iv (cCf1 κ) (rCf1 ρ) (b + 1) (fun x => cTr (cCf1 κ) x (κ.2.1 1) = false) ∧ wasI (cCf1 κ) (rCf1 ρ) (κ.2.1 1) := by
  have hw := h.kf
  have ha := h.ag
  obtain ⟨a1, a2, a3, a4, -⟩ := c2s (List.range' 0 (ρ.1 4 0)) ρ
  obtain ⟨d1, d2, d3, d4, d5⟩ := c3s (List.range' 0 6) ((List.range' 0 (ρ.1 4 0)).foldl rC2 ρ) rg_nd
  have m6 : ∀ m, (m ∈ List.range' 0 6) = (m < 6) := fun m => by rw [List.mem_range'_1]; simp
  have p_n : ∀ a, a ≠ 3 → (rCf1 ρ).1 a = ρ.1 a := fun a q => by
    unfold rCf1 rCf0
    rw [nk q, d1, a1]
  have p_3 : ∀ x, (rCf1 ρ).1 3 x = if x = 0 then κ.1 3 0 + 1 else κ.1 3 x := fun x => by
    unfold rCf1 rCf0
    show (if 3 = 3 ∧ x = 0 then ρ.1 3 0 + 1 else ((List.range' 0 6).foldl rC3 ((List.range' 0 (ρ.1 4 0)).foldl rC2 ρ)).1 3 x) = _
    rw [d1, a1, ha.n 3 (by decide)]
    simp
  have p_r : ∀ a, a ≠ 31 → (rCf1 ρ).2.2 a = ρ.2.2 a := fun a q => by
    show ((List.range' 0 6).foldl rC3 ((List.range' 0 (ρ.1 4 0)).foldl rC2 ρ)).2.2 a = _
    rw [d2, a3 a q]
  have p_b : ∀ a, a ≠ 1 → a ≠ 2 → (rCf1 ρ).2.1 a = ρ.2.1 a := fun a q1 q2 => by
    show ((List.range' 0 6).foldl rC3 ((List.range' 0 (ρ.1 4 0)).foldl rC2 ρ)).2.1 a = _
    rw [d3 a q1 q2, a2]
  have p_1 : (rCf1 ρ).2.1 1 = κ.2.1 0 := by
    show ((List.range' 0 6).foldl rC3 ((List.range' 0 (ρ.1 4 0)).foldl rC2 ρ)).2.1 1 = _
    funext m
    rw [d4, a2, ha.b 0 (by decide), ha.b 1 (by decide)]
    simp only [m6]
    split
    · rfl
    · rw [(hw.b6 m (by omega)).1, (hw.b6 m (by omega)).2]
  have p_2 : ∀ m, m < 6 → (rCf1 ρ).2.1 2 m = κ.2.1 1 m := fun m hm => by
    show ((List.range' 0 6).foldl rC3 ((List.range' 0 (ρ.1 4 0)).foldl rC2 ρ)).2.1 2 m = _
    rw [d5, a2, ha.b 1 (by decide), if_pos (by rw [m6]; exact hm)]
  have k_n : ∀ a, a ≠ 3 → (cCf1 κ).1 a = κ.1 a := fun a q => nk q
  have k_b : ∀ a, a ≠ 1 → (cCf1 κ).2.1 a = κ.2.1 a := fun a q => by
    funext x
    show (if a = 1 then κ.2.1 0 x else κ.2.1 a x) = _
    rw [if_neg q]
  have k_1 : (cCf1 κ).2.1 1 = κ.2.1 0 := rfl
  have k_r : (cCf1 κ).2.2 = κ.2.2 := rfl
  have rO1 : ∀ r s, rO (cCf1 κ) r s = true → rO κ r s = true := fun r s q => by
    have q : κ.2.1 0 (κ.1 6 (6 * r + s)) = true := q
    exact h.um _ q
  have hag : ag (cCf1 κ) (rCf1 ρ) := by
    refine ⟨fun a hk => ?_, fun a hk => ?_, fun a hk => ?_⟩
    · by_cases q : a = 3
      · subst q
        funext x
        rw [p_3]
        show (if 3 = 3 ∧ x = 0 then κ.1 3 0 + 1 else κ.1 3 x) = _
        simp
      · rw [k_n a q, p_n a q, ha.n a hk]
    · simp only [List.mem_cons, List.not_mem_nil, or_false, not_or] at hk
      by_cases q : a = 1
      · subst q
        rw [k_1, p_1]
      · rw [k_b a q, p_b a q hk.1, ha.b a (by simp [hk])]
    · have hk2 := hk
      simp only [List.mem_cons, List.not_mem_nil, or_false, not_or] at hk2
      rw [k_r, p_r a hk2.2.2, ha.r a hk]
  refine ⟨⟨kf_cf (kf_me hw) (by have := (h.bd 0).2.2.1; omega), hag, own_co h.ow (fun k hk => p_n k (fun z => by subst z; revert hk; decide)) (fun k => Or.inl (by rw [p_r 26 (by decide)])), fun j => ?_, fun m hm => ?_, fun r => ?_, h.it, h.lk, h.pa, h.pb, h.pc, ?_, ?_, ?_, h.r4, fun x hx hac hE => ?_, ?_, h.hl⟩, fun m hm => p_2 m hm, fun r hr => ?_⟩
  · refine ⟨Nat.le_succ_of_le (h.bd j).1, Nat.le_succ_of_le (h.bd j).2.1, ?_, ?_⟩
    · show (if 3 = 3 ∧ j = 0 then κ.1 3 0 + 1 else κ.1 3 j) ≤ _
      have c1 := (h.bd 0).2.2.1
      have c2 := (h.bd j).2.2.1
      split <;> omega
    · rw [p_n 13 (by decide)]
      exact Nat.le_succ_of_le (h.bd j).2.2.2
  · rw [k_b 0 (by decide)] at hm
    exact hm
  · refine Nat.le_trans (List.countP_mono_left fun s _ q => rO1 r s q) (h.m3 r)
  · rw [p_n 25 (by decide), p_n 27 (by decide), p_r 26 (by decide)]; exact h.r1
  · rw [p_n 25 (by decide), p_n 27 (by decide), p_r 26 (by decide)]; exact h.r2
  · rw [p_n 25 (by decide), p_n 27 (by decide), p_r 26 (by decide)]; exact h.r3
  · have hac2 : rAc κ x = true := hac
    have h8 := hw.i8 x
    refine st_co (h.st x hx hac2 trivial) rfl rfl rfl (by rw [p_n 13 (by decide)]) (fun i s hi hs => ?_)
    refine cHa_co2 rfl (by rw [k_b 22 (by decide)]) rfl rfl (fun _ => ?_) (fun _ => by rw [k_b 41 (by decide)]; rfl) rfl
    cases q : κ.2.1 22 (8 * x + i) with
    | false => rfl
    | true =>
      have hhit : cHt κ (κ.1 18 (8 * x + i)) (fun m => κ.2.1 1 m && !κ.2.1 0 m) = false := by
        have hE : cTr (cCf1 κ) x (κ.2.1 1) = false := hE
        unfold cTr at hE
        rw [hac, Bool.true_and, Bool.or_eq_false_iff] at hE
        have := List.any_eq_false.mp hE.2 (8 * x + i) (List.mem_range'_1.mpr (by show 8 * x ≤ 8 * x + i ∧ 8 * x + i < 8 * x + κ.1 14 x; omega))
        rw [k_b 22 (by decide), q, Bool.true_and] at this
        have this : ¬ cHt κ (κ.1 18 (8 * x + i)) (fun m => κ.2.1 1 m && !κ.2.1 0 m) = true := this
        simpa using this
      have same : ∀ u, u < κ.1 5 (κ.1 18 (8 * x + i)) → κ.2.1 0 (κ.1 6 (6 * κ.1 18 (8 * x + i) + u)) = κ.2.1 1 (κ.1 6 (6 * κ.1 18 (8 * x + i) + u)) := fun u hu => by
        have := List.any_eq_false.mp hhit u (List.mem_range'_1.mpr (by omega))
        have this : ¬ (κ.2.1 1 (κ.1 6 (6 * κ.1 18 (8 * x + i) + u)) && !κ.2.1 0 (κ.1 6 (6 * κ.1 18 (8 * x + i) + u))) = true := this
        cases z0 : κ.2.1 0 (κ.1 6 (6 * κ.1 18 (8 * x + i) + u)) with
        | true => exact (h.um _ z0).symm
        | false =>
          rw [z0] at this
          cases z1 : κ.2.1 1 (κ.1 6 (6 * κ.1 18 (8 * x + i) + u)) with
          | true => rw [z1] at this; exact absurd rfl this
          | false => rfl
      have eP : cPr (cCf1 κ) (κ.1 18 (8 * x + i)) = cPr κ (κ.1 18 (8 * x + i)) := find_co fun u hu => by
        have hu := List.mem_range'_1.mp hu
        exact same u (by have : u < 0 + κ.1 5 (κ.1 18 (8 * x + i)) := hu.2; omega)
      rw [Bool.true_and, Bool.true_and]
      unfold bk
      rw [eP]
      show (decide (s < κ.1 5 (κ.1 18 (8 * x + i))) && (κ.2.1 0 (κ.1 6 (6 * κ.1 18 (8 * x + i) + s)) && _)) = (decide (s < κ.1 5 (κ.1 18 (8 * x + i))) && (κ.2.1 1 (κ.1 6 (6 * κ.1 18 (8 * x + i) + s)) && _))
      by_cases z : s < κ.1 5 (κ.1 18 (8 * x + i))
      · rw [same s z]
      · rw [decide_eq_false z, Bool.false_and, Bool.false_and]
  · rw [p_n 25 (by decide), p_n 13 (by decide)]; exact h.gb
  · have hr : r < κ.1 4 0 := hr
    show ((List.range' 0 6).foldl rC3 ((List.range' 0 (ρ.1 4 0)).foldl rC2 ρ)).2.2 31 r = _
    rw [d2, a4 r (by rw [ha.n 4 (by decide)]; exact List.mem_range'_1.mpr (by omega)), ag_rL ha, cPr_eq]
    rfl
theorem ac_lt (hw : kf κ) {x : Nat} (h : rAc κ x = true) : x < κ.1 10 0 := by
  apply Nat.lt_of_not_le
  intro z
  have := rAc_16 h
  rw [(hw.t0 x z).1] at this
  omega
theorem iv_c4 : ∀ (n t : Nat) (κ ρ : ax_R) (c : Nat), Iv κ ρ b (fun x => x < t ∨ cTr κ x Q = false) → wasI κ ρ Q → (∀ j, κ.1 21 j + 1 ≤ b) → b < 1000000 → t + n = κ.1 10 0 → ((List.range' t n).foldl (cC4 Q) (c, κ)).1 = ((List.range' t n).foldl rC4 (c, ρ)).1 ∧ Iv ((List.range' t n).foldl (cC4 Q) (c, κ)).2 ((List.range' t n).foldl rC4 (c, ρ)).2 b (fun _ => True)
  | 0, t, κ, ρ, c, h, _, _, _, hT => by
    refine ⟨rfl, iv_E h fun x hx _ => Or.inl ?_⟩
    have := ac_lt h.kf hx
    omega
  | n + 1, t, κ, ρ, c, h, hq, h21, hB, hT => by
    have ha := h.ag
    have hw := h.kf
    have ht : t < κ.1 10 0 := by omega
    rw [List.range'_succ, List.foldl_cons, List.foldl_cons]
    have e1 : rC4 (c, ρ) t = if κ.1 12 t = 0 ∧ κ.2.1 1 (κ.1 11 t) = false then (c, nu ρ 12 t 8) else if cTr κ t Q = true then (c + 1, rRv ρ t) else (c, ρ) := by
      have e0 := tr_eq (t := t) h hq
      unfold rC4
      dsimp only
      rw [ha.n 12 (by decide), ha.b 1 (by decide), ha.n 11 (by decide), ← e0]
      split
      · rfl
      · simp only [Bool.and_eq_true]
    have e2 : cC4 Q (c, κ) t = if κ.1 12 t = 0 ∧ κ.2.1 1 (κ.1 11 t) = false then (c, nu (nu κ 12 t 8) 44 t 0) else if cTr κ t Q = true then (c + 1, cRv κ t Q) else (c, κ) := rfl
    rw [e1, e2]
    by_cases z1 : κ.1 12 t = 0 ∧ κ.2.1 1 (κ.1 11 t) = false
    · rw [if_pos z1, if_pos z1]
      have h2 := iv_abort h ht z1.1
      refine iv_c4 n (t + 1) _ _ c (iv_E h2 fun x hx hE => ?_) hq h21 hB (by show t + 1 + n = κ.1 10 0; omega)
      by_cases z : x = t
      · rw [z] at hx
        have := rAc_16 hx
        have e : (nu (nu κ 12 t 8) 44 t 0).1 12 t = 8 := by simp [nu]
        omega
      · rcases hE with y | y
        · left; omega
        · right
          rw [← y]
          refine (tr_co (κ := κ) (κ2 := nu (nu κ 12 t 8) 44 t 0) (by simp [nu, z]) (fun k hk => ?_) rfl rfl).symm
          have h12 : k ≠ 12 := fun e => by subst e; revert hk; decide
          have h44 : k ≠ 44 := fun e => by subst e; revert hk; decide
          rw [nk h44, nk h12]
    · rw [if_neg z1, if_neg z1]
      by_cases z2 : cTr κ t Q = true
      · rw [if_pos z2, if_pos z2]
        obtain ⟨h2, hq2⟩ := iv_recover (E2 := fun x => x < t + 1 ∨ cTr (cRv κ t Q) x Q = false) h hq ht h21 hB (fun x hx hE => by
          rcases hE with y | y
          · left; omega
          · right
            rw [← y]
            exact (tr_co (rv_12 hx) (fun k hk => funext fun j => rv_1 ⟨fun e => by subst e; revert hk; decide, fun e => by subst e; revert hk; decide, fun e => by subst e; revert hk; decide⟩) (rv_b (by decide) (by decide)) (rv_b (by decide) (by decide))).symm)
        exact iv_c4 n (t + 1) _ _ (c + 1) h2 hq2 (fun j => by rw [rv_1 (by decide)]; exact h21 j) hB (by rw [rv_1 (by decide)]; omega)
      · rw [if_neg z2, if_neg z2]
        refine iv_c4 n (t + 1) _ _ c (iv_E h fun x hx hE => ?_) hq h21 hB (by omega)
        rcases hE with y | y
        · by_cases z : x = t
          · rw [z]; right; simpa using z2
          · left; omega
        · exact Or.inr y
theorem iv_conf (h : Iv κ ρ b (fun _ => True)) (hb : b + 1 < 1000000) : (cCf κ).1 = (rCf ρ).1 ∧ Iv (cCf κ).2 (rCf ρ).2 (b + 1) (fun _ => True) := by
  have ha := h.ag
  have hw := h.kf
  have eS : (rCfS ρ = true ∨ rUp ρ = 0) ↔ ((∀ m, m < 6 → κ.2.1 1 m = κ.2.1 0 m) ∨ (List.range' 0 6).any (κ.2.1 0) = false) := by
    unfold rCfS rUp
    rw [ha.b 0 (by decide), ha.b 1 (by decide), List.all_eq_true, List.countP_eq_zero, List.any_eq_false]
    refine or_congr ⟨fun q m hm => ?_, fun q m hm => ?_⟩ Iff.rfl
    · have := q m (List.mem_range'_1.mpr (by omega))
      cases z0 : κ.2.1 0 m with
      | true => exact h.um m z0
      | false =>
        rw [z0] at this
        simpa using this
    · have hm := List.mem_range'_1.mp hm
      rw [q m (by omega)]
      cases κ.2.1 0 m <;> rfl
  have e1 : rCf ρ = if rCfS ρ = true ∨ rUp ρ = 0 then (-3, ρ) else (nI ((List.range' 0 (κ.1 10 0)).foldl rC4 (0, rCf1 ρ)).1, ((List.range' 0 (κ.1 10 0)).foldl rC4 (0, rCf1 ρ)).2) := by
    unfold rCf
    rw [ha.n 10 (by decide)]
  rw [e1]
  unfold cCf
  by_cases z : (∀ m, m < 6 → κ.2.1 1 m = κ.2.1 0 m) ∨ (List.range' 0 6).any (κ.2.1 0) = false
  · rw [if_pos z, if_pos (eS.mpr z)]
    exact ⟨rfl, iv_mono h (Nat.le_succ b)⟩
  · rw [if_neg z, if_neg (fun y => z (eS.mp y))]
    obtain ⟨i1, i2⟩ := iv_c1 h hb
    obtain ⟨j1, j2⟩ := iv_c4 (κ.1 10 0) 0 (cCf1 κ) (rCf1 ρ) 0 (iv_E i1 fun x _ q => q.resolve_left (by omega)) i2 (fun j => by have := (h.bd j).2.1; show κ.1 21 j + 1 ≤ b + 1; omega) hb (Nat.zero_add _)
    exact ⟨by rw [j1], j2⟩
end PU14
