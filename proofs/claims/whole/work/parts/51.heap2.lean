/-! what making objects does to the class's heap -/
def ups (h : ax_H) : List (ax_N × ax_C) → ax_H
  | [] => h
  | (w, C) :: l => ups (ax_up h w C) l
section H2
variable {κ κ2 ρ : ax_R}
theorem ups_eq : ∀ (l : List (ax_N × ax_C)) (h : ax_H), (∀ p ∈ l, fh (ch κ2) ρ p.1 = some p.2) → (∀ u, (∀ p ∈ l, u ≠ p.1) → h u = fh (ch κ2) ρ u) → ups h l = fh (ch κ2) ρ
  | [], h, _, h2 => funext fun u => h2 u (fun p hp => by cases hp)
  | (w, C) :: l, h, h1, h2 => by
    refine ups_eq l (ax_up h w C) (fun p hp => h1 p (List.mem_cons_of_mem _ hp)) (fun u hu => ?_)
    by_cases e : u = w
    · subst e
      rw [ax_up_s]
      exact (h1 _ List.mem_cons_self).symm
    · rw [ax_up_n e]
      refine h2 u (fun p hp => ?_)
      rcases List.mem_cons.mp hp with q | q
      · rw [q]; exact e
      · exact hu p q
theorem fh_eq {u : ax_N} (h : ch κ2 u = ch κ u) : fh (ch κ) ρ u = fh (ch κ2) ρ u := by
  unfold fh
  split
  · rfl
  · rfl
  · exact h.symm
theorem find_co {p q : Nat → Bool} : ∀ {l : List Nat}, (∀ x ∈ l, p x = q x) → l.find? p = l.find? q
  | [], _ => rfl
  | x :: l, h => by
    rw [List.find?_cons, List.find?_cons, h x List.mem_cons_self, find_co fun y hy => h y (List.mem_cons_of_mem _ hy)]
/-- one copy more -/
def cAd (κ : ax_R) (r m : Nat) : ax_R := nu (nu κ 5 r (κ.1 5 r + 1)) 6 (6 * r + κ.1 5 r) m
theorem ad_5 {r m x : Nat} : (cAd κ r m).1 5 x = if x = r then κ.1 5 r + 1 else κ.1 5 x := by
  by_cases e : x = r <;> simp [cAd, nu, e]
theorem ad_6 {r m x : Nat} : (cAd κ r m).1 6 x = if x = 6 * r + κ.1 5 r then m else κ.1 6 x := by
  by_cases e : x = 6 * r + κ.1 5 r <;> simp [cAd, nu, e]
theorem ad_n {r m k x : Nat} (h5 : k ≠ 5) (h6 : k ≠ 6) : (cAd κ r m).1 k x = κ.1 k x := by
  simp [cAd, nu, h5, h6]
theorem ad_pm (hw : kf κ) {r m x : Nat} {P : Nat → Bool} (hc : κ.1 5 r < 6) : pm (cAd κ r m) r P x = (pm κ r P x || (decide (x = m) && P (κ.1 5 r))) := by
  unfold pm
  rw [ad_5, if_pos rfl, List.range'_concat, List.any_append]
  simp only [List.any_cons, List.any_nil, Bool.or_false, Nat.zero_add, Nat.one_mul]
  rw [ad_6, if_pos rfl]
  congr 1
  · rw [Bool.eq_iff_iff, List.any_eq_true, List.any_eq_true]
    constructor
    · rintro ⟨s, hs, q⟩
      have h1 := List.mem_range'_1.mp hs
      rw [ad_6, if_neg (by omega)] at q
      exact ⟨s, hs, q⟩
    · rintro ⟨s, hs, q⟩
      have h1 := List.mem_range'_1.mp hs
      refine ⟨s, hs, ?_⟩
      rw [ad_6, if_neg (by omega)]
      exact q
  · congr 1
    by_cases e : m = x
    · subst e; simp
    · have : ¬ x = m := fun z => e z.symm
      simp [e, this]
theorem ad_pm2 (hw : kf κ) {r m y : Nat} {P : Nat → Bool} (hy : y ≠ r) (hc : κ.1 5 r < 6) : pm (cAd κ r m) y P = pm κ y P := by
  have h6 := hw.c6 y
  funext x
  unfold pm
  rw [ad_5, if_neg hy, Bool.eq_iff_iff, List.any_eq_true, List.any_eq_true]
  constructor
  · rintro ⟨s, hs, q⟩
    have h1 := List.mem_range'_1.mp hs
    rw [ad_6, if_neg (by omega)] at q
    exact ⟨s, hs, q⟩
  · rintro ⟨s, hs, q⟩
    have h1 := List.mem_range'_1.mp hs
    refine ⟨s, hs, ?_⟩
    rw [ad_6, if_neg (by omega)]
    exact q
theorem ad_od {r m : Nat} (hc : κ.1 5 r < 6) : od (cAd κ r m) r = upd (od κ r) (κ.1 5 r) (nI m) := by
  funext s
  unfold od upd
  rw [ad_6]
  by_cases e : s = κ.1 5 r
  · subst e; simp [hc]
  · have : ¬ 6 * r + s = 6 * r + κ.1 5 r := by omega
    simp [e, this]
theorem ad_od2 {r m y : Nat} (hy : y ≠ r) (hc : κ.1 5 r < 6) : od (cAd κ r m) y = od κ y := by
  funext s
  unfold od
  rw [ad_6]
  split
  · rw [if_neg (by omega)]
  · rfl
theorem pl_ad (hw : kf κ) {r m x : Nat} (hc : κ.1 5 r < 6) (hm : ∀ s, s < κ.1 5 r → κ.1 6 (6 * r + s) ≠ m) : pl (cAd κ r m) r x = if x = m then some (κ.1 5 r) else pl κ r x := by
  unfold pl
  rw [ad_5, if_pos rfl, List.range'_concat, List.find?_append]
  have e1 : (List.range' 0 (κ.1 5 r)).find? (fun s => decide ((cAd κ r m).1 6 (6 * r + s) = x)) = (List.range' 0 (κ.1 5 r)).find? (fun s => decide (κ.1 6 (6 * r + s) = x)) := by
    refine find_co fun s hs => ?_
    have h1 := List.mem_range'_1.mp hs
    show decide ((cAd κ r m).1 6 (6 * r + s) = x) = _
    rw [ad_6, if_neg (by omega)]
  rw [e1]
  simp only [Nat.zero_add, Nat.one_mul]
  by_cases e : x = m
  · subst e
    have : (List.range' 0 (κ.1 5 r)).find? (fun s => decide (κ.1 6 (6 * r + s) = x)) = none := by
      refine List.find?_eq_none.mpr fun s hs => ?_
      have h1 := List.mem_range'_1.mp hs
      simp [hm s (by omega)]
    rw [this, if_pos rfl]
    have e2 : (cAd κ r x).1 6 (6 * r + κ.1 5 r) = x := by rw [ad_6, if_pos rfl]
    simp [List.find?_cons, e2]
  · rw [if_neg e]
    have e2 : (cAd κ r m).1 6 (6 * r + κ.1 5 r) = m := by rw [ad_6, if_pos rfl]
    have e3 : ¬ m = x := fun z => e z.symm
    cases (List.range' 0 (κ.1 5 r)).find? (fun s => decide (κ.1 6 (6 * r + s) = x)) with
    | none => simp [List.find?_cons, e2, e3]
    | some a => rfl
theorem pl_ad2 (hw : kf κ) {r m y x : Nat} (hy : y ≠ r) (hc : κ.1 5 r < 6) : pl (cAd κ r m) y x = pl κ y x := by
  have h6 := hw.c6 y
  unfold pl
  rw [ad_5, if_neg hy]
  refine find_co fun s hs => ?_
  have h1 := List.mem_range'_1.mp hs
  rw [ad_6, if_neg (by omega)]
theorem vv_ad (hw : kf κ) {r m y : Nat} (hc : κ.1 5 r < 6) (hm : ∀ s, s < κ.1 5 r → κ.1 6 (6 * r + s) ≠ m) : vv (cAd κ r m) y = vv κ y ∧ vn (cAd κ r m) y = vn κ y := by
  by_cases e : y = r
  · subst e
    constructor
    · funext j
      unfold vv
      rw [pl_ad hw hc hm]
      by_cases q : j / 8 = m
      · rw [if_pos q]
        have : pl κ y (j / 8) = none := List.find?_eq_none.mpr fun s hs => by
          have h1 := List.mem_range'_1.mp hs
          rw [q]
          simp [hm s (by omega)]
        rw [this]
        exact (hw.vf y _ (j % 8) (Nat.le_refl _) hc (Nat.mod_lt _ (by decide))).1
      · rw [if_neg q]; rfl
    · funext j
      unfold vn
      rw [pl_ad hw hc hm]
      by_cases q : j / 8 = m
      · rw [if_pos q]
        have : pl κ y (j / 8) = none := List.find?_eq_none.mpr fun s hs => by
          have h1 := List.mem_range'_1.mp hs
          rw [q]
          simp [hm s (by omega)]
        rw [this]
        show nI ((cAd κ y m).1 8 _) = 0
        rw [ad_n (by decide) (by decide), (hw.vf y _ (j % 8) (Nat.le_refl _) hc (Nat.mod_lt _ (by decide))).2]
        rfl
      · rw [if_neg q]
        cases pl κ y (j / 8) with
        | none => rfl
        | some s => show nI ((cAd κ y m).1 8 _) = _; rw [ad_n (by decide) (by decide)]
  · constructor
    · funext j
      unfold vv
      rw [pl_ad2 hw e hc]
      rfl
    · funext j
      unfold vn
      rw [pl_ad2 hw e hc]
      cases pl κ y (j / 8) with
      | none => rfl
      | some s => show nI ((cAd κ r m).1 8 _) = _; rw [ad_n (by decide) (by decide)]
theorem fI_ad (hw : kf κ) {r m k : Nat} (hc : κ.1 5 r < 6) : fI (cAd κ r m) k = fI κ k := by
  have e18 : (cAd κ r m).1 18 k = κ.1 18 k := ad_n (by decide) (by decide)
  have e24 : dn (cAd κ r m) k = dn κ k := by funext s; unfold dn; rw [ad_n (by decide) (by decide)]
  have ep : ∀ P : Nat → Bool, (κ.1 18 k = r → P (κ.1 5 r) = false) → pm (cAd κ r m) ((cAd κ r m).1 18 k) P = pm κ (κ.1 18 k) P := by
    intro P hP
    rw [e18]
    by_cases e : κ.1 18 k = r
    · rw [e]
      funext x
      rw [ad_pm hw hc, hP e]
      simp
    · exact ad_pm2 hw e hc
  refine fI_mk (by rw [e18]) (by rw [ad_n (by decide) (by decide)]) rfl (by rw [ad_n (by decide) (by decide)]) rfl rfl (congrArg (fun f => ax_i (nI (mk f))) (ep _ (fun e => ?_))) (congrArg (fun f => ax_i (nI (mk f))) ((congrArg _ e24).trans (ep _ (fun e => ?_))))
  · exact (hw.rd k _ (by rw [e]; exact Nat.le_refl _) hc).1
  · exact (hw.rd k _ (by rw [e]; exact Nat.le_refl _) hc).2
theorem ch_ad (hw : kf κ) {r m : Nat} (hc : κ.1 5 r < 6) (hm : ∀ s, s < κ.1 5 r → κ.1 6 (6 * r + s) ≠ m) (u : ax_N) (h3 : u ≠ (3, r)) (h4 : u ≠ (4, r)) : ch (cAd κ r m) u = ch κ u := by
  obtain ⟨a, x⟩ := u
  unfold ch
  dsimp only
  split <;> try simp only [ad_n (κ := κ) (r := r) (m := m) (show 4 ≠ 5 by decide) (show 4 ≠ 6 by decide), ad_n (κ := κ) (r := r) (m := m) (show 10 ≠ 5 by decide) (show 10 ≠ 6 by decide), ad_n (κ := κ) (r := r) (m := m) (show 14 ≠ 5 by decide) (show 14 ≠ 6 by decide), ad_n (κ := κ) (r := r) (m := m) (show 17 ≠ 5 by decide) (show 17 ≠ 6 by decide), ad_n (κ := κ) (r := r) (m := m) (show 47 ≠ 5 by decide) (show 47 ≠ 6 by decide), (vv_ad hw hc hm).1, (vv_ad hw hc hm).2, fI_ad hw hc]
  · rfl
  · rfl
  · have hx : x ≠ r := fun e => h3 (by rw [e])
    unfold fR
    rw [ad_pm2 hw hx hc, ad_5, if_neg hx]
  · have hx : x ≠ r := fun e => h4 (by rw [e])
    rw [ad_od2 hx hc]
  · rfl
  · simp only [fT, ad_n (κ := κ) (r := r) (m := m) (show 11 ≠ 5 by decide) (show 11 ≠ 6 by decide), ad_n (κ := κ) (r := r) (m := m) (show 12 ≠ 5 by decide) (show 12 ≠ 6 by decide), ad_n (κ := κ) (r := r) (m := m) (show 44 ≠ 5 by decide) (show 44 ≠ 6 by decide), ad_n (κ := κ) (r := r) (m := m) (show 16 ≠ 5 by decide) (show 16 ≠ 6 by decide)]
    rfl
end H2
