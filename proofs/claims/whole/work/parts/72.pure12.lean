/-! Recovery: the votes, what is spread, what is let go. -/
section PU12
variable {κ κ2 ρ ρ2 : ax_R} {b : Nat} {t r : Nat} {Q : Nat → Bool} {E : Nat → Prop}
theorem any_co {p q : Nat → Bool} : ∀ {l : List Nat}, (∀ x ∈ l, p x = q x) → l.any p = l.any q
  | [], _ => rfl
  | x :: l, h => by rw [List.any_cons, List.any_cons, h x List.mem_cons_self, any_co fun y hy => h y (List.mem_cons_of_mem _ hy)]
/-- what the reference keeps through a configuration -/
def wasI (κ ρ : ax_R) (Q : Nat → Bool) : Prop := (∀ m, m < 6 → ρ.2.1 2 m = Q m) ∧ (∀ r, r < κ.1 4 0 → ρ.2.2 31 r = oI ((List.range' 0 (κ.1 5 r)).find? (fun s => Q (κ.1 6 (6 * r + s)))))
theorem tr_eq (h : Iv κ ρ b E) (hq : wasI κ ρ Q) : (rAc ρ t && rRc ρ t) = cTr κ t Q := by
  have ha := h.ag
  unfold cTr rRc
  rw [ag_rAc ha, ha.b 1 (by decide), ha.n 11 (by decide), ag_rI ha, ha.b 22 (by decide), ha.n 18 (by decide)]
  congr 2
  refine any_co fun i _ => ?_
  congr 1
  unfold rHt cHt
  rw [ha.n 5 (by decide), ha.n 6 (by decide), ha.b 1 (by decide)]
  exact any_co fun s _ => by rw [hq.1 _ (h.kf.m6 _)]
theorem v1_eq (ha : ag κ ρ) {i : Nat} (hi : κ.1 18 i = r) : rV1 ρ i r = cDk κ i := by
  unfold rV1 cDk dn
  rw [ha.n 5 (by decide), ha.n 24 (by decide), ag_rO ha, hi]
  exact any_co fun s _ => by unfold rO; rw [Bool.and_comm]
theorem v2_eq (h : Iv κ ρ b E) {i : Nat} (hik : ik κ i) (hi : κ.1 18 i = r) : rV2 ρ i r = cRc κ i := by
  have ha := h.ag
  have h60 := h.kf.nT
  have hi480 : i < 480 := by have := hik.1; omega
  unfold rV2 cRc
  rw [ag_rO ha, Bool.eq_iff_iff, List.any_eq_true, List.any_eq_true]
  constructor
  · rintro ⟨k, hk, q⟩
    have hk := List.mem_range'_1.mp hk
    rw [Bool.and_eq_true, decide_eq_true_eq] at q
    rcases h.r1 k (by omega) with y | ⟨e, y1, y2, y3, y4⟩
    · rw [y] at q; exact absurd q.1.symm (nI_ne9 (by omega))
    · rw [q.1] at y3
      have y3 := (nI_inj (by omega) (by omega)).mp y3
      have hs := h.rs y2
      refine ⟨e % 6, List.mem_range'_1.mpr (by rw [y3]; omega), ?_⟩
      rw [y3, show 6 * (e / 6) + e % 6 = e by omega, y2, Bool.true_and, ← y3, hi]
      have := q.2
      rw [y4] at this
      exact this
  · rintro ⟨s, hs, q⟩
    have hs := List.mem_range'_1.mp hs
    have h5 := h.kf.c6 (κ.1 18 i)
    rw [Bool.and_eq_true] at q
    obtain ⟨y1, k, y2, y3, y4⟩ := h.r2 _ q.1
    refine ⟨k, List.mem_range'_1.mpr (by omega), ?_⟩
    rw [y3, y4, show (6 * i + s) / 6 = i by omega, show (6 * i + s) % 6 = s by omega, decide_eq_true rfl, Bool.true_and]
    have := q.2
    rw [hi] at this
    exact this
theorem vn_if {i n : Nat} : rVn ρ i r n = if rV1 ρ i r = true then 3 else if n < 3 ∧ rV2 ρ i r = true then 2 else n := by
  unfold rVn
  cases rV1 ρ i r with
  | true => simp
  | false => simp
theorem vs_eq (h : Iv κ ρ b E) : ∀ (l : List Nat) (a : Bool), (∀ i ∈ l, ik κ i) → (∀ n, n = 0 ∨ n = 2 → rVf (l.foldl (rVs ρ t r) (a, n)) = cVs κ t r l (decide (n = 2)) a) ∧ rVf (l.foldl (rVs ρ t r) (a, 3)) = 3
  | [], a, _ => by
    refine ⟨fun n hn => ?_, rfl⟩
    rcases hn with rfl | rfl
    · cases a <;> rfl
    · cases a <;> rfl
  | i :: l, a, hl => by
    have ha := h.ag
    have hik := hl i List.mem_cons_self
    have hl2 : ∀ i ∈ l, ik κ i := fun j hj => hl j (List.mem_cons_of_mem _ hj)
    have e : ∀ n, rVs ρ t r (a, n) i = if κ.1 18 i = r ∧ κ.2.1 22 i = true then (a && decide (κ.2.2 9 (8 * r + κ.1 19 i) = nI t), rVn ρ i r n) else (a, n) := fun n => by
      unfold rVs
      rw [ha.n 18 (by decide), ha.b 22 (by decide), ha.r 9 (by decide), ha.n 19 (by decide)]
    rw [List.foldl_cons]
    by_cases z : κ.1 18 i = r ∧ κ.2.1 22 i = true
    · have e1 := v1_eq (ρ := ρ) ha z.1
      have e2 := v2_eq h hik z.1
      refine ⟨fun n hn => ?_, ?_⟩
      · rw [List.foldl_cons, e, if_pos z, cVs, if_pos z]
        rw [vn_if, e1, e2]
        have hn3 : n < 3 := by omega
        cases hd : cDk κ i with
        | true =>
          rw [if_pos rfl, if_pos rfl]
          exact (vs_eq h l _ hl2).2
        | false =>
          rw [if_neg (show ¬ false = true by simp), if_neg (show ¬ false = true by simp), z.1]
          cases hr : cRc κ i with
          | true =>
            rw [if_pos (show n < 3 ∧ true = true from ⟨hn3, rfl⟩), (vs_eq h l _ hl2).1 2 (Or.inr rfl), Bool.or_true]
            rfl
          | false =>
            rw [if_neg (show ¬ (n < 3 ∧ false = true) by simp), (vs_eq h l _ hl2).1 n hn, Bool.or_false]
      · rw [e, if_pos z]
        have : rVn ρ i r 3 = 3 := by
          rw [vn_if]
          split
          · rfl
          · rw [if_neg (by omega)]
        rw [this]
        exact (vs_eq h l _ hl2).2
    · refine ⟨fun n hn => ?_, ?_⟩
      · rw [List.foldl_cons, e, if_neg z, cVs, if_neg z]
        exact (vs_eq h l a hl2).1 n hn
      · rw [e, if_neg z]
        exact (vs_eq h l a hl2).2
theorem oM_inj (hw : kf κ) {x y : Option Nat} (hx : ∀ s, x = some s → s < κ.1 5 r) (hy : ∀ s, y = some s → s < κ.1 5 r) : (oM κ r x = oM κ r y ↔ x = y) ∧ (oI x = oI y ↔ x = y) := by
  have h5 := hw.c6 r
  cases x with
  | none =>
    cases y with
    | none => exact ⟨⟨fun _ => rfl, fun _ => rfl⟩, ⟨fun _ => rfl, fun _ => rfl⟩⟩
    | some s =>
      have := hw.m6 (6 * r + s)
      have := hy s rfl
      exact ⟨⟨fun z => absurd z.symm (nI_ne9 (by omega)), fun z => by cases z⟩, ⟨fun z => absurd z.symm (nI_ne9 (by omega)), fun z => by cases z⟩⟩
  | some s =>
    have m1 := hw.m6 (6 * r + s)
    have s1 := hx s rfl
    cases y with
    | none => exact ⟨⟨fun z => absurd z (nI_ne9 (by omega)), fun z => by cases z⟩, ⟨fun z => absurd z (nI_ne9 (by omega)), fun z => by cases z⟩⟩
    | some u =>
      have m2 := hw.m6 (6 * r + u)
      have s2 := hy u rfl
      constructor
      · show nI _ = nI _ ↔ _
        rw [nI_inj (by omega) (by omega)]
        exact ⟨fun z => by rw [hw.ds r s u s1 s2 z], fun z => by cases z; rfl⟩
      · show nI _ = nI _ ↔ _
        rw [nI_inj (by omega) (by omega)]
        exact ⟨fun z => by rw [z], fun z => by cases z; rfl⟩
theorem vo_eq (h : Iv κ ρ b E) (hq : wasI κ ρ Q) (ht : t < κ.1 10 0) (hr : r < κ.1 4 0) : rVo ρ t r = cVo κ t r Q := by
  have ha := h.ag
  have hw := h.kf
  unfold rVo cVo
  rw [ag_rL ha, ag_rI ha, hq.2 r hr, cPr_eq]
  have hf : ∀ s, (List.range' 0 (κ.1 5 r)).find? (fun s => Q (κ.1 6 (6 * r + s))) = some s → s < κ.1 5 r := fun s z => by
    have := List.mem_range'_1.mp (List.mem_of_find?_eq_some z)
    omega
  obtain ⟨i1, i2⟩ := oM_inj (r := r) hw hf (fun s z => (cPr_lt z).1)
  have e : decide (oI (cPr κ r) = oI ((List.range' 0 (κ.1 5 r)).find? (fun s => Q (κ.1 6 (6 * r + s))))) = cV0 κ r Q := by
    unfold cV0
    have : (oI (cPr κ r) = oI ((List.range' 0 (κ.1 5 r)).find? (fun s => Q (κ.1 6 (6 * r + s))))) ↔ (oM κ r ((List.range' 0 (κ.1 5 r)).find? (fun s => Q (κ.1 6 (6 * r + s)))) = oM κ r (cPr κ r)) := by
      rw [i1, eq_comm, i2]
    simp only [this]
  rw [e]
  exact (vs_eq h (rI κ t) _ (fun i hi => by
    have hi := List.mem_range'_1.mp hi
    have := ik.of (i := i - 8 * t) hw ht (by omega)
    rwa [show 8 * t + (i - 8 * t) = i by omega] at this)).1 0 (Or.inl rfl)
/-- the two ways of counting votes -/
def vR (s : Nat × Nat) (u : Bool × Bool × Bool) : Prop := s.1 ≤ 3 ∧ s.2 ≤ 3 ∧ u.1 = decide (s.1 = 3) ∧ (s.1 < 3 → u.2.1 = decide (s.1 = 2)) ∧ u.2.2 = decide (s.2 = 0)
theorem vR_fold (h : Iv κ ρ b E) (hq : wasI κ ρ Q) (ht : t < κ.1 10 0) : ∀ (l : List Nat) (s : Nat × Nat) (u : Bool × Bool × Bool), (∀ r ∈ l, r < κ.1 4 0) → vR s u → vR (l.foldl (cIv κ t Q) s) (l.foldl (rRs ρ t) u)
  | [], _, _, _, hv => hv
  | r :: l, s, u, hl, hv => by
    rw [List.foldl_cons, List.foldl_cons]
    refine vR_fold h hq ht l _ _ (fun x hx => hl x (List.mem_cons_of_mem _ hx)) ?_
    have ha := h.ag
    have hr := hl r List.mem_cons_self
    unfold cIv rRs
    rw [ag_rWr ha, ag_rM ha, vo_eq h hq ht hr]
    have h3 : cVo κ t r Q ≤ 3 := vs_le _ _ _
    generalize cVo κ t r Q = v at h3
    obtain ⟨v1, v2, v3, v4, v5⟩ := hv
    by_cases z : rM κ r = 0 ∨ rWr κ t r = false
    · rw [if_pos z, if_neg (by rintro ⟨y1, y2⟩; rcases z with z | z; exact y2 z; rw [z] at y1; cases y1)]
      exact ⟨v1, v2, v3, v4, v5⟩
    · rw [if_neg z, if_pos ⟨by cases y : rWr κ t r with | true => rfl | false => exact absurd (Or.inr y) z, fun y => z (Or.inl y)⟩]
      refine ⟨by show max s.1 v ≤ 3; omega, by show min s.2 v ≤ 3; omega, ?_, fun y => ?_, ?_⟩
      · show (u.1 || decide (v = 3)) = decide (max s.1 v = 3)
        rw [v3, Bool.eq_iff_iff]
        simp only [Bool.or_eq_true, decide_eq_true_eq]
        omega
      · have y : max s.1 v < 3 := y
        show (u.2.1 || decide (v = 2)) = decide (max s.1 v = 2)
        rw [v4 (by omega), Bool.eq_iff_iff]
        simp only [Bool.or_eq_true, decide_eq_true_eq]
        omega
      · show (u.2.2 || decide (v = 0)) = decide (min s.2 v = 0)
        rw [v5, Bool.eq_iff_iff]
        simp only [Bool.or_eq_true, decide_eq_true_eq]
        omega
theorem cmt_eq (h : Iv κ ρ b E) (hq : wasI κ ρ Q) (ht : t < κ.1 10 0) : rCo (rCt ρ t) = cIf κ t Q := by
  have hv := vR_fold h hq ht (List.range' 0 (κ.1 4 0)) (0, 3) (false, false, false) (fun r hr => by have := List.mem_range'_1.mp hr; omega) ⟨by decide, by decide, rfl, fun _ => rfl, rfl⟩
  unfold rCt cIf
  rw [h.ag.n 4 (by decide)]
  generalize (List.range' 0 (κ.1 4 0)).foldl (cIv κ t Q) (0, 3) = s at hv ⊢
  generalize (List.range' 0 (κ.1 4 0)).foldl (rRs ρ t) (false, false, false) = u at hv ⊢
  obtain ⟨v1, v2, v3, v4, v5⟩ := hv
  unfold rCo cIw
  rw [v3, v5]
  by_cases z : s.1 = 3
  · simp [z]
  · rw [v4 (by omega)]
-- what is spread, and what is let go
def spr (cm : Bool) (κ : ax_R) (i : Nat) : ax_R := if cm = true then cSk κ i else κ
def ulk (κ : ax_R) (t : Nat) (f : Nat → Int32) (i : Nat) : Nat → Int32 := if f (8 * κ.1 18 i + κ.1 19 i) = nI t then upd f (8 * κ.1 18 i + κ.1 19 i) (-9) else f
theorem gk_sj {i : Nat} {κ : ax_R} {k : Nat} : rGk i (κ.1 18 i) κ k = cSj i κ k := by
  unfold rGk cSj rO rG cRz cPu
  by_cases z : κ.2.1 1 (κ.1 6 (6 * κ.1 18 i + k)) = true
  · rw [if_pos z, if_pos z]
    by_cases y : κ.1 8 (8 * (6 * κ.1 18 i + k) + κ.1 19 i) ≤ κ.1 21 i
    · rw [if_pos (Or.inr y), if_pos (by omega)]
    · rw [if_neg (by simp; omega), if_neg (by omega)]
  · rw [if_neg z, if_neg z]
theorem gk_sjs {i r : Nat} : ∀ (l : List Nat) (κ : ax_R), κ.1 18 i = r → l.foldl (rGk i r) κ = l.foldl (cSj i) κ
  | [], _, _ => rfl
  | k :: l, κ, hr => by
    rw [List.foldl_cons, List.foldl_cons, ← hr, gk_sj, gk_sjs (r := κ.1 18 i) l _ (by rw [sj_1 (by decide)])]
theorem rr2 {cm : Bool} {i : Nat} {κ : ax_R} : rR2 t cm κ i = if κ.2.2 9 (8 * κ.1 18 i + κ.1 19 i) = nI t then ru (spr cm κ i) 9 (8 * κ.1 18 i + κ.1 19 i) (-9) else spr cm κ i := by
  have e : (if cm = true ∧ κ.2.1 22 i = true then (List.range' 0 (κ.1 5 (κ.1 18 i))).foldl (rGk i (κ.1 18 i)) κ else κ) = spr cm κ i := by
    unfold spr cSk
    cases cm with
    | true =>
      rw [if_pos rfl]
      by_cases z : κ.2.1 22 i = true
      · rw [if_pos ⟨rfl, z⟩, if_pos z, gk_sjs _ _ rfl]
      · rw [if_neg (fun y => z y.2), if_neg z]
    | false => rw [if_neg (by simp), if_neg (by simp)]
  unfold rR2
  simp only [e]
theorem sj_r {k s a j : Nat} {κ : ax_R} (h : a ≠ 7) : (cSj k κ s).2.2 a j = κ.2.2 a j := by
  unfold cSj cRz cPu
  repeat' split
  all_goals simp [nu, ru, h]
theorem sjs_r {k a j : Nat} (h : a ≠ 7) : ∀ (l : List Nat) (κ : ax_R), (l.foldl (cSj k) κ).2.2 a j = κ.2.2 a j
  | [], _ => rfl
  | s :: l, κ => by rw [List.foldl_cons]; exact (sjs_r h l _).trans (sj_r h)
theorem sk_r {k a j : Nat} {κ : ax_R} (h : a ≠ 7) : (cSk κ k).2.2 a j = κ.2.2 a j := by
  unfold cSk
  split
  · exact sjs_r h _ _
  · rfl
theorem spr_1 {cm : Bool} {i a j : Nat} {κ : ax_R} (h : a ≠ 8) : (spr cm κ i).1 a j = κ.1 a j := by
  unfold spr
  split
  · exact sk_1 h
  · rfl
theorem spr_b {cm : Bool} {i : Nat} {κ : ax_R} : (spr cm κ i).2.1 = κ.2.1 := by
  unfold spr
  split
  · exact sk_b
  · rfl
theorem spr_r {cm : Bool} {i a j : Nat} {κ : ax_R} (h : a ≠ 7) : (spr cm κ i).2.2 a j = κ.2.2 a j := by
  unfold spr
  split
  · exact sk_r h
  · rfl
/-- two states that differ in the locks alone -/
def dl (κ κ2 : ax_R) : Prop := κ2.1 = κ.1 ∧ κ2.2.1 = κ.2.1 ∧ ∀ k, k ≠ 9 → κ2.2.2 k = κ.2.2 k
theorem dl_sj {k s : Nat} (h : dl κ κ2) : dl (cSj k κ s) (cSj k κ2 s) := by
  obtain ⟨h1, h2, h3⟩ := h
  unfold cSj cRz cPu
  rw [h1, h2, h3 23 (by decide)]
  split
  · split
    · refine ⟨by funext a j; simp only [nu, ru, h1], h2, fun a ha => ?_⟩
      funext j
      simp only [nu, ru, h3 a ha]
    · exact ⟨h1, h2, h3⟩
  · exact ⟨h1, h2, h3⟩
theorem dl_sjs {k : Nat} : ∀ (l : List Nat) (κ κ2 : ax_R), dl κ κ2 → dl (l.foldl (cSj k) κ) (l.foldl (cSj k) κ2)
  | [], _, _, h => h
  | s :: l, κ, κ2, h => by rw [List.foldl_cons, List.foldl_cons]; exact dl_sjs l _ _ (dl_sj h)
theorem dl_spr {cm : Bool} {i : Nat} (h : dl κ κ2) : dl (spr cm κ i) (spr cm κ2 i) := by
  unfold spr cSk
  rw [h.1, h.2.1]
  split
  · split
    · exact dl_sjs _ _ _ h
    · exact h
  · exact h
theorem dl_ru {l : Nat} {v : Int32} (h : dl κ κ2) : dl κ (ru κ2 9 l v) := ⟨h.1, h.2.1, fun k hk => by rw [rk hk]; exact h.2.2 k hk⟩
theorem ulk_co {f : Nat → Int32} {i : Nat} (h : ∀ j, κ2.1 18 j = κ.1 18 j) (h2 : ∀ j, κ2.1 19 j = κ.1 19 j) : ulk κ2 t f i = ulk κ t f i := by unfold ulk; rw [h, h2]
theorem ulks_co (h : ∀ j, κ2.1 18 j = κ.1 18 j) (h2 : ∀ j, κ2.1 19 j = κ.1 19 j) : ∀ (l : List Nat) (f : Nat → Int32), l.foldl (ulk κ2 t) f = l.foldl (ulk κ t) f
  | [], _ => rfl
  | i :: l, f => by rw [List.foldl_cons, List.foldl_cons, ulk_co h h2, ulks_co h h2 l]
/-- the reference's one loop is the class's two -/
theorem rr2s {cm : Bool} : ∀ (l : List Nat) (κ κ2 : ax_R), dl κ κ2 → dl (l.foldl (spr cm) κ) (l.foldl (rR2 t cm) κ2) ∧ (l.foldl (rR2 t cm) κ2).2.2 9 = l.foldl (ulk κ t) (κ2.2.2 9)
  | [], _, _, h => ⟨h, rfl⟩
  | i :: l, κ, κ2, h => by
    rw [List.foldl_cons, List.foldl_cons, List.foldl_cons]
    have e9 : (rR2 t cm κ2 i).2.2 9 = ulk κ t (κ2.2.2 9) i := by
      rw [rr2]
      unfold ulk
      rw [h.1]
      split
      · funext j
        show (if 9 = 9 ∧ j = _ then (-9 : Int32) else (spr cm κ2 i).2.2 9 j) = _
        rw [spr_r (by decide)]
        simp [upd]
      · funext j
        exact spr_r (by decide)
    have hd : dl (spr cm κ i) (rR2 t cm κ2 i) := by
      rw [rr2]
      split
      · exact dl_ru (dl_spr h)
      · exact dl_spr h
    obtain ⟨r1, r2⟩ := rr2s l _ _ hd
    refine ⟨r1, ?_⟩
    rw [r2, e9]
    exact ulks_co (fun j => spr_1 (by decide)) (fun j => spr_1 (by decide)) l _
theorem ulks_or : ∀ (l : List Nat) (f : Nat → Int32) (j : Nat), l.foldl (ulk κ t) f j = f j ∨ (l.foldl (ulk κ t) f j = -9 ∧ f j = nI t)
  | [], _, _ => Or.inl rfl
  | i :: l, f, j => by
    rw [List.foldl_cons]
    have h1 : ulk κ t f i j = f j ∨ (ulk κ t f i j = -9 ∧ f j = nI t) := by
      unfold ulk
      split
      · rename_i z
        unfold upd
        split
        · rename_i y; exact Or.inr ⟨rfl, by rw [y]; exact z⟩
        · exact Or.inl rfl
      · exact Or.inl rfl
    rcases ulks_or l (ulk κ t f i) j with y | ⟨y1, y2⟩
    · rw [y]; exact h1
    · rcases h1 with z | ⟨z1, z2⟩
      · exact Or.inr ⟨y1, by rw [← z]; exact y2⟩
      · exact Or.inr ⟨y1, z2⟩
theorem lgs_r : ∀ (l : List Nat) (κ : ax_R), (l.foldl (cLg t) κ).2.2 9 = l.foldl (ulk κ t) (κ.2.2 9) ∧ (∀ k, k ≠ 9 → (l.foldl (cLg t) κ).2.2 k = κ.2.2 k) ∧ (∀ k, k ≠ 41 → (l.foldl (cLg t) κ).2.1 k = κ.2.1 k) ∧ (∀ e, (l.foldl (cLg t) κ).2.1 41 e = if e / 6 ∈ l then false else κ.2.1 41 e)
  | [], κ => ⟨rfl, fun _ _ => rfl, fun _ _ => rfl, fun e => by simp⟩
  | i :: l, κ => by
    rw [List.foldl_cons, List.foldl_cons]
    obtain ⟨r1, r2, r3, r4⟩ := lgs_r l (cLg t κ i)
    have c9 : (cLg t κ i).2.2 9 = ulk κ t (κ.2.2 9) i := by
      unfold cLg ulk
      split
      · funext j; simp [ru, upd, bc]
      · rfl
    refine ⟨?_, fun k hk => ?_, fun k hk => ?_, fun e => ?_⟩
    · rw [r1, c9]
      exact ulks_co (fun j => lg_1) (fun j => lg_1) l _
    · rw [r2 k hk]
      unfold cLg
      split
      · exact rk hk
      · rfl
    · rw [r3 k hk]
      unfold cLg
      split <;> (funext j; simp [ru, bc, hk])
    · rw [r4]
      have : (cLg t κ i).2.1 41 e = if e / 6 = i then false else κ.2.1 41 e := by
        unfold cLg
        split <;> simp [ru, bc]
      rw [this]
      by_cases z : e / 6 = i
      · simp [z]
      · simp [z]
end PU12
