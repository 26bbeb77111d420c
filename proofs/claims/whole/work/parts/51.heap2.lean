/-! what making objects does to the class's heap -/
def ups (h : ax_H) : List (ax_N × ax_C) → ax_H
  | [] => h
  | (w, C) :: l => ups (ax_up h w C) l
section H2
variable {κ κ2 ρ : ax_R}
theorem ups_eq : ∀ (l : List (ax_N × ax_C)) (h : ax_H), (∀ p ∈ l, fh (ch κ2) ρ p.1 = some p.2) → (∀ u, (∀ p ∈ l, u ≠ p.1) → h u = fh (ch κ2) ρ u) → ups h l = fh (ch κ2) ρ
  | [], h, _, h2 => funext fun u => h2 u (fun p hp => by cases hp)
  | (w, C) :: l, h, h1, h2 => by
    refine ups_eq l (ax_up h w C) (fun p hp => h1 p (List.mem_cons_of_mem _ hp)) (fun u hu => ?_)
    by_cases e : u = w
    · subst e
      rw [ax_up_s]
      exact (h1 _ List.mem_cons_self).symm
    · rw [ax_up_n e]
      refine h2 u (fun p hp => ?_)
      rcases List.mem_cons.mp hp with q | q
      · rw [q]; exact e
      · exact hu p q
theorem fh_eq {u : ax_N} (h : ch κ2 u = ch κ u) : fh (ch κ) ρ u = fh (ch κ2) ρ u := by
  unfold fh
  split
  · rfl
  · rfl
  · exact h.symm
theorem find_co {p q : Nat → Bool} : ∀ {l : List Nat}, (∀ x ∈ l, p x = q x) → l.find? p = l.find? q
  | [], _ => rfl
  | x :: l, h => by
    rw [List.find?_cons, List.find?_cons, h x List.mem_cons_self, find_co fun y hy => h y (List.mem_cons_of_mem _ hy)]
/-- one copy more -/
def cAd (κ : ax_R) (r m : Nat) : ax_R := nu (nu κ 5 r (κ.1 5 r + 1)) 6 (6 * r + κ.1 5 r) m
theorem ad_5 {r m x : Nat} : (cAd κ r m).1 5 x = if x = r then κ.1 5 r + 1 else κ.1 5 x := by
  by_cases e : x = r <;> simp [cAd, nu, e]
theorem ad_6 {r m x : Nat} : (cAd κ r m).1 6 x = if x = 6 * r + κ.1 5 r then m else κ.1 6 x := by
  by_cases e : x = 6 * r + κ.1 5 r <;> simp [cAd, nu, e]
theorem ad_n {r m k x : Nat} (h5 : k ≠ 5) (h6 : k ≠ 6) : (cAd κ r m).1 k x = κ.1 k x := by
  simp [cAd, nu, h5, h6]
theorem ad_pm (hw : kf κ) {r m x : Nat} {P : Nat → Bool} (hc : κ.1 5 r < 6) : pm (cAd κ r m) r P x = (pm κ r P x || (decide (x = m) && P (κ.1 5 r))) := by
  unfold pm
  rw [ad_5, if_pos rfl, List.range'_concat, List.any_append]
  simp only [List.any_cons, List.any_nil, Bool.or_false, Nat.zero_add, Nat.one_mul]
  rw [ad_6, if_pos rfl]
  congr 1
  · rw [Bool.eq_iff_iff, List.any_eq_true, List.any_eq_true]
    constructor
    · rintro ⟨s, hs, q⟩
      have h1 := List.mem_range'_1.mp hs
      rw [ad_6, if_neg (by omega)] at q
      exact ⟨s, hs, q⟩
    · rintro ⟨s, hs, q⟩
      have h1 := List.mem_range'_1.mp hs
      refine ⟨s, hs, ?_⟩
      rw [ad_6, if_neg (by omega)]
      exact q
  · congr 1
    by_cases e : m = x
    · subst e; simp
    · have : ¬ x = m := fun z => e z.symm
      simp [e, this]
theorem ad_pm2 (hw : kf κ) {r m y : Nat} {P : Nat → Bool} (hy : y ≠ r) (hc : κ.1 5 r < 6) : pm (cAd κ r m) y P = pm κ y P := by
  have h6 := hw.c6 y
  funext x
  unfold pm
  rw [ad_5, if_neg hy, Bool.eq_iff_iff, List.any_eq_true, List.any_eq_true]
  constructor
  · rintro ⟨s, hs, q⟩
    have h1 := List.mem_range'_1.mp hs
    rw [ad_6, if_neg (by omega)] at q
    exact ⟨s, hs, q⟩
  · rintro ⟨s, hs, q⟩
    have h1 := List.mem_range'_1.mp hs
    refine ⟨s, hs, ?_⟩
    rw [ad_6, if_neg (by omega)]
    exact q
theorem ad_od {r m : Nat} (hc : κ.1 5 r < 6) : od (cAd κ r m) r = upd (od κ r) (κ.1 5 r) (nI m) := by
  funext s
  unfold od upd
  rw [ad_6]
  by_cases e : s = κ.1 5 r
  · subst e; simp [hc]
  · have : ¬ 6 * r + s = 6 * r + κ.1 5 r := by omega
    simp [e, this]
theorem ad_od2 {r m y : Nat} (hy : y ≠ r) (hc : κ.1 5 r < 6) : od (cAd κ r m) y = od κ y := by
  funext s
  unfold od
  rw [ad_6]
  split
  · rw [if_neg (by omega)]
  · rfl
theorem pl_ad (hw : kf κ) {r m x : Nat} (hc : κ.1 5 r < 6) (hm : ∀ s, s < κ.1 5 r → κ.1 6 (6 * r + s) ≠ m) : pl (cAd κ r m) r x = if x = m then some (κ.1 5 r) else pl κ r x := by
  unfold pl
  rw [ad_5, if_pos rfl, List.range'_concat, List.find?_append]
  have e1 : (List.range' 0 (κ.1 5 r)).find? (fun s => decide ((cAd κ r m).1 6 (6 * r + s) = x)) = (List.range' 0 (κ.1 5 r)).find? (fun s => decide (κ.1 6 (6 * r + s) = x)) := by
    refine find_co fun s hs => ?_
    have h1 := List.mem_range'_1.mp hs
    show decide ((cAd κ r m).1 6 (6 * r + s) = x) = _
    rw [ad_6, if_neg (by omega)]
  rw [e1]
  simp only [Nat.zero_add, Nat.one_mul]
  by_cases e : x = m
  · subst e
    have : (List.range' 0 (κ.1 5 r)).find? (fun s => decide (κ.1 6 (6 * r + s) = x)) = none := by
      refine List.find?_eq_none.mpr fun s hs => ?_
      have h1 := List.mem_range'_1.mp hs
      simp [hm s (by omega)]
    rw [this, if_pos rfl]
    have e2 : (cAd κ r x).1 6 (6 * r + κ.1 5 r) = x := by rw [ad_6, if_pos rfl]
    simp [List.find?_cons, e2]
  · rw [if_neg e]
    have e2 : (cAd κ r m).1 6 (6 * r + κ.1 5 r) = m := by rw [ad_6, if_pos rfl]
    have e3 : ¬ m = x := fun z => e z.symm
    cases (List.range' 0 (κ.1 5 r)).find? (fun s => decide (κ.1 6 (6 * r + s) = x)) with
    | none => simp [List.find?_cons, e2, e3]
    | some a => rfl
theorem pl_ad2 (hw : kf κ) {r m y x : Nat} (hy : y ≠ r) (hc : κ.1 5 r < 6) : pl (cAd κ r m) y x = pl κ y x := by
  have h6 := hw.c6 y
  unfold pl
  rw [ad_5, if_neg hy]
  refine find_co fun s hs => ?_
  have h1 := List.mem_range'_1.mp hs
  rw [ad_6, if_neg (by omega)]
theorem vv_ad (hw : kf κ) {r m y : Nat} (hc : κ.1 5 r < 6) (hm : ∀ s, s < κ.1 5 r → κ.1 6 (6 * r + s) ≠ m) : vv (cAd κ r m) y = vv κ y ∧ vn (cAd κ r m) y = vn κ y := by
  by_cases e : y = r
  · subst e
    constructor
    · funext j
      unfold vv
      rw [pl_ad hw hc hm]
      by_cases q : j / 8 = m
      · rw [if_pos q]
        have : pl κ y (j / 8) = none := List.find?_eq_none.mpr fun s hs => by
          have h1 := List.mem_range'_1.mp hs
          rw [q]
          simp [hm s (by omega)]
        rw [this]
        exact (hw.vf y _ (j % 8) (Nat.le_refl _) hc (Nat.mod_lt _ (by decide))).1
      · rw [if_neg q]; rfl
    · funext j
      unfold vn
      rw [pl_ad hw hc hm]
      by_cases q : j / 8 = m
      · rw [if_pos q]
        have : pl κ y (j / 8) = none := List.find?_eq_none.mpr fun s hs => by
          have h1 := List.mem_range'_1.mp hs
          rw [q]
          simp [hm s (by omega)]
        rw [this]
        show nI ((cAd κ y m).1 8 _) = 0
        rw [ad_n (by decide) (by decide), (hw.vf y _ (j % 8) (Nat.le_refl _) hc (Nat.mod_lt _ (by decide))).2]
        rfl
      · rw [if_neg q]
        cases pl κ y (j / 8) with
        | none => rfl
        | some s => show nI ((cAd κ y m).1 8 _) = _; rw [ad_n (by decide) (by decide)]
  · constructor
    · funext j
      unfold vv
      rw [pl_ad2 hw e hc]
      rfl
    · funext j
      unfold vn
      rw [pl_ad2 hw e hc]
      cases pl κ y (j / 8) with
      | none => rfl
      | some s => show nI ((cAd κ r m).1 8 _) = _; rw [ad_n (by decide) (by decide)]
theorem fI_ad (hw : kf κ) {r m k : Nat} (hc : κ.1 5 r < 6) : fI (cAd κ r m) k = fI κ k := by
  have e18 : (cAd κ r m).1 18 k = κ.1 18 k := ad_n (by decide) (by decide)
  have e24 : dn (cAd κ r m) k = dn κ k := by funext s; unfold dn; rw [ad_n (by decide) (by decide)]
  have ep : ∀ P : Nat → Bool, (κ.1 18 k = r → P (κ.1 5 r) = false) → pm (cAd κ r m) ((cAd κ r m).1 18 k) P = pm κ (κ.1 18 k) P := by
    intro P hP
    rw [e18]
    by_cases e : κ.1 18 k = r
    · rw [e]
      funext x
      rw [ad_pm hw hc, hP e]
      simp
    · exact ad_pm2 hw e hc
  refine fI_mk (by rw [e18]) (by rw [ad_n (by decide) (by decide)]) rfl (by rw [ad_n (by decide) (by decide)]) rfl rfl (congrArg (fun f => ax_i (nI (mk f))) (ep _ (fun e => ?_))) (congrArg (fun f => ax_i (nI (mk f))) ((congrArg _ e24).trans (ep _ (fun e => ?_))))
  · exact (hw.rd k _ (by rw [e]; exact Nat.le_refl _) hc).1
  · exact (hw.rd k _ (by rw [e]; exact Nat.le_refl _) hc).2
theorem ch_ad (hw : kf κ) {r m : Nat} (hc : κ.1 5 r < 6) (hm : ∀ s, s < κ.1 5 r → κ.1 6 (6 * r + s) ≠ m) (u : ax_N) (h3 : u ≠ (3, r)) (h4 : u ≠ (4, r)) : ch (cAd κ r m) u = ch κ u := by
  obtain ⟨a, x⟩ := u
  unfold ch
  dsimp only
  split <;> try simp only [ad_n (κ := κ) (r := r) (m := m) (show 4 ≠ 5 by decide) (show 4 ≠ 6 by decide), ad_n (κ := κ) (r := r) (m := m) (show 10 ≠ 5 by decide) (show 10 ≠ 6 by decide), ad_n (κ := κ) (r := r) (m := m) (show 14 ≠ 5 by decide) (show 14 ≠ 6 by decide), ad_n (κ := κ) (r := r) (m := m) (show 17 ≠ 5 by decide) (show 17 ≠ 6 by decide), ad_n (κ := κ) (r := r) (m := m) (show 47 ≠ 5 by decide) (show 47 ≠ 6 by decide), (vv_ad hw hc hm).1, (vv_ad hw hc hm).2, fI_ad hw hc]
  · rfl
  · rfl
  · have hx : x ≠ r := fun e => h3 (by rw [e])
    unfold fR
    rw [ad_pm2 hw hx hc, ad_5, if_neg hx]
  · have hx : x ≠ r := fun e => h4 (by rw [e])
    rw [ad_od2 hx hc]
  · rfl
  · simp only [fT, ad_n (κ := κ) (r := r) (m := m) (show 11 ≠ 5 by decide) (show 11 ≠ 6 by decide), ad_n (κ := κ) (r := r) (m := m) (show 12 ≠ 5 by decide) (show 12 ≠ 6 by decide), ad_n (κ := κ) (r := r) (m := m) (show 44 ≠ 5 by decide) (show 44 ≠ 6 by decide), ad_n (κ := κ) (r := r) (m := m) (show 16 ≠ 5 by decide) (show 16 ≠ 6 by decide)]
    rfl
def eqx (h h2 : ax_H) (X : List ax_N) : Prop := ∀ u, u ∉ X → h u = h2 u
theorem eqx_s {h h2 : ax_H} {w : ax_N} {C : ax_C} {X : List ax_N} (e : h2 w = some C) (k : eqx h h2 (w :: X)) : eqx (ax_up h w C) h2 X := fun u hu => by
  by_cases q : u = w
  · rw [q, ax_up_s, e]
  · rw [ax_up_n q]; exact k u (by simp [q, hu])
theorem eqx_d {h h2 : ax_H} {w : ax_N} {C : ax_C} {X : List ax_N} (e : w ∈ X) (k : eqx h h2 X) : eqx (ax_up h w C) h2 X := fun u hu => by
  rw [ax_up_n (fun q : u = w => hu (by rw [q]; exact e))]; exact k u hu
theorem eqx_e {h h2 : ax_H} (k : eqx h h2 []) : h = h2 := funext fun u => k u (by simp)
theorem cu_ad (hw : kf κ) {r m : Nat} (hr : r < κ.1 4 0) (hc : κ.1 5 r < 6) (hm : ∀ s, s < κ.1 5 r → κ.1 6 (6 * r + s) ≠ m) : ax_up (ax_up (fh (ch κ) ρ) (4, r) (ax_ai 6 (upd (od κ r) (κ.1 5 r) (nI m)))) (3, r) (ax_o 2 [ax_i (nI r), ax_r (4, r), ax_i (nI (κ.1 5 r + 1)), ax_i (nI (mk (fun x => pm κ r (fun _ => true) x || decide (x = m)))), ax_r (5, r), ax_r (6, r), ax_r (7, r)]) = fh (ch (cAd κ r m)) ρ := by
  have h4 : (cAd κ r m).1 4 0 = κ.1 4 0 := ad_n (by decide) (by decide)
  refine eqx_e (eqx_s ?_ (eqx_s ?_ (fun u hu => fh_eq (ch_ad hw hc hm u (fun e => hu (by simp [e])) (fun e => hu (by simp [e]))))))
  · rw [ch_R (by rw [h4]; exact hr)]
    unfold fR
    rw [ad_5, if_pos rfl]
    rw [mk_co (P := pm (cAd κ r m) r fun _ => true) (Q := fun x => pm κ r (fun _ => true) x || decide (x = m)) (fun x _ => by rw [ad_pm hw hc]; simp)]
  · rw [ch_o (by rw [h4]; exact hr), ad_od hc]
theorem kf_ad (hw : kf κ) {r m : Nat} (hr : r < κ.1 4 0) (hm6 : m < 6) (hc : κ.1 5 r < 6) (hm : ∀ s, s < κ.1 5 r → κ.1 6 (6 * r + s) ≠ m) : kf (cAd κ r m) := by
  have nd : ∀ k s, dn (cAd κ r m) k s = dn κ k s := fun k s => by unfold dn; rw [ad_n (by decide) (by decide)]
  refine ⟨?_, ?_, ?_, ?_, ?_, ?_, ?_, ?_, ?_, ?_, ?_, ?_, ?_, ?_, ?_, ?_, ?_, ?_, ?_, ?_, ?_, ?_⟩
  · intro k j
    by_cases e5 : k = 5
    · subst e5
      rw [ad_5]
      split
      · omega
      · exact hw.lt _ _
    · by_cases e6 : k = 6
      · subst e6
        rw [ad_6]
        split
        · omega
        · exact hw.lt _ _
      · rw [ad_n e5 e6]; exact hw.lt _ _
  · intro x
    rw [ad_5]
    split
    · omega
    · exact hw.c6 x
  · intro x
    rw [ad_6]
    split
    · exact hm6
    · exact hw.m6 x
  · intro x; rw [ad_n (by decide) (by decide)]; exact hw.co6 x
  · intro x; rw [ad_n (by decide) (by decide)]; exact hw.i8 x
  · intro x; rw [ad_n (by decide) (by decide)]; exact hw.r6 x
  · intro x; rw [ad_n (by decide) (by decide)]; exact hw.o8 x
  · rw [ad_n (by decide) (by decide)]; exact hw.nR
  · rw [ad_n (by decide) (by decide)]; exact hw.nT
  · rw [ad_n (by decide) (by decide)]; exact hw.nP
  · intro t i; simp only [ad_n (κ := κ) (r := r) (m := m) (show 10 ≠ 5 by decide) (show 10 ≠ 6 by decide), ad_n (κ := κ) (r := r) (m := m) (show 14 ≠ 5 by decide) (show 14 ≠ 6 by decide), ad_n (κ := κ) (r := r) (m := m) (show 18 ≠ 5 by decide) (show 18 ≠ 6 by decide), ad_n (κ := κ) (r := r) (m := m) (show 4 ≠ 5 by decide) (show 4 ≠ 6 by decide)]; exact hw.ir t i
  · intro t; simp only [ad_n (κ := κ) (r := r) (m := m) (show 10 ≠ 5 by decide) (show 10 ≠ 6 by decide), ad_n (κ := κ) (r := r) (m := m) (show 17 ≠ 5 by decide) (show 17 ≠ 6 by decide), ad_n (κ := κ) (r := r) (m := m) (show 47 ≠ 5 by decide) (show 47 ≠ 6 by decide)]; exact hw.bp t
  · intro x a b ha hb he
    rw [ad_5] at ha hb
    rw [ad_6, ad_6] at he
    have hx6 := hw.c6 x
    by_cases e : x = r
    · subst e
      rw [if_pos rfl] at ha hb
      by_cases e1 : a = κ.1 5 x
      · by_cases e2 : b = κ.1 5 x
        · omega
        · rw [if_pos (by omega), if_neg (by omega)] at he
          exact absurd he.symm (hm b (by omega))
      · by_cases e2 : b = κ.1 5 x
        · rw [if_neg (by omega), if_pos (by omega)] at he
          exact absurd he (hm a (by omega))
        · rw [if_neg (by omega), if_neg (by omega)] at he
          exact hw.ds x a b (by omega) (by omega) he
    · rw [if_neg e] at ha hb
      rw [if_neg (by omega), if_neg (by omega)] at he
      exact hw.ds x a b ha hb he
  · intro x; rw [ad_n (by decide) (by decide)]; exact hw.d6 x
  · intro x s q h1 h2 h3
    rw [ad_5] at h1
    rw [ad_n (by decide) (by decide)]
    refine hw.vf x s q ?_ h2 h3
    split at h1
    · rename_i e; subst e; omega
    · exact h1
  · intro k s h1 h2
    rw [nd]
    refine hw.rd k s ?_ h2
    rw [ad_n (k := 18) (by decide) (by decide), ad_5] at h1
    split at h1
    · rename_i e; rw [e]; omega
    · exact h1
  · exact hw.b6
  · intro x hx
    rw [ad_n (by decide) (by decide)] at hx
    rw [ad_5, if_neg (by omega)]
    exact hw.c0 x hx
  · intro t ht
    rw [ad_n (by decide) (by decide)] at ht
    simp only [ad_n (κ := κ) (r := r) (m := m) (show 12 ≠ 5 by decide) (show 12 ≠ 6 by decide), ad_n (κ := κ) (r := r) (m := m) (show 14 ≠ 5 by decide) (show 14 ≠ 6 by decide), ad_n (κ := κ) (r := r) (m := m) (show 44 ≠ 5 by decide) (show 44 ≠ 6 by decide), ad_n (κ := κ) (r := r) (m := m) (show 16 ≠ 5 by decide) (show 16 ≠ 6 by decide)]
    exact hw.t0 t ht
  · intro t i h1 h2
    rw [ad_n (by decide) (by decide)] at h1
    rw [ad_n (by decide) (by decide)]
    exact hw.w0 t i h1 h2
  · intro x; rw [ad_n (by decide) (by decide)]; exact hw.p8 x
  · intro x s h1 h2
    rw [ad_5] at h1
    have hx6 := hw.c6 x
    rw [ad_6]
    split at h1
    · rename_i e
      subst e
      rw [if_neg (by omega)]
      exact hw.m0 x s (by omega) h2
    · rename_i e
      rw [if_neg (by omega)]
      exact hw.m0 x s h1 h2
/-- κ2 is κ with one region more -/
def nrg (κ κ2 : ax_R) : Prop := κ2.1 4 0 = κ.1 4 0 + 1 ∧ (∀ k j, k ≠ 4 → k ≠ 5 → k ≠ 6 → κ2.1 k j = κ.1 k j) ∧ (∀ x, x ≠ κ.1 4 0 → κ2.1 5 x = κ.1 5 x) ∧ (∀ x s, x ≠ κ.1 4 0 → s < 6 → κ2.1 6 (6 * x + s) = κ.1 6 (6 * x + s)) ∧ κ2.2 = κ.2
theorem nr_pm (hw : kf κ) (hn : nrg κ κ2) {x : Nat} (hx : x ≠ κ.1 4 0) {P : Nat → Bool} : pm κ2 x P = pm κ x P := by
  obtain ⟨h4, hk, h5, h6, h2⟩ := hn
  have := hw.c6 x
  funext m
  unfold pm
  rw [h5 x hx, Bool.eq_iff_iff, List.any_eq_true, List.any_eq_true]
  constructor
  · rintro ⟨s, hs, q⟩
    have h1 := List.mem_range'_1.mp hs
    rw [h6 x s hx (by omega)] at q
    exact ⟨s, hs, q⟩
  · rintro ⟨s, hs, q⟩
    have h1 := List.mem_range'_1.mp hs
    exact ⟨s, hs, by rw [h6 x s hx (by omega)]; exact q⟩
theorem nr_pl (hw : kf κ) (hn : nrg κ κ2) {x y : Nat} (hx : x ≠ κ.1 4 0) : pl κ2 x y = pl κ x y := by
  obtain ⟨h4, hk, h5, h6, h2⟩ := hn
  have := hw.c6 x
  unfold pl
  rw [h5 x hx]
  refine find_co fun s hs => ?_
  have h1 := List.mem_range'_1.mp hs
  rw [h6 x s hx (by omega)]
theorem nr_vv (hw : kf κ) (hn : nrg κ κ2) {x : Nat} (hx : x ≠ κ.1 4 0) : vv κ2 x = vv κ x ∧ vn κ2 x = vn κ x := by
  have hk := hn.2.1
  have h2 := hn.2.2.2.2
  constructor
  · funext j
    unfold vv
    rw [nr_pl hw hn hx, h2]
  · funext j
    unfold vn
    rw [nr_pl hw hn hx]
    cases pl κ x (j / 8) with
    | none => rfl
    | some s => show nI (κ2.1 8 _) = nI (κ.1 8 _); rw [hk 8 _ (by decide) (by decide) (by decide)]
theorem nr_fI (hw : kf κ) (hn : nrg κ κ2) {k : Nat} (hx : κ.1 18 k ≠ κ.1 4 0) : fI κ2 k = fI κ k := by
  have hk := hn.2.1
  have h2 := hn.2.2.2.2
  have e18 : κ2.1 18 k = κ.1 18 k := hk 18 _ (by decide) (by decide) (by decide)
  have e24 : dn κ2 k = dn κ k := by funext s; unfold dn; rw [hk 24 _ (by decide) (by decide) (by decide)]
  unfold fI
  rw [e24, e18, nr_pm hw hn hx, nr_pm hw hn hx, hk 19 _ (by decide) (by decide) (by decide), hk 21 _ (by decide) (by decide) (by decide), h2]
theorem ch_nr (hw : kf κ) (hn : nrg κ κ2) (u : ax_N) (hu : u ∉ [(3, κ.1 4 0), (4, κ.1 4 0), (5, κ.1 4 0), (6, κ.1 4 0), (7, κ.1 4 0), (10, 0), (14, 0)]) : ch κ2 u = ch κ u := by
  have h4 := hn.1
  have hk := hn.2.1
  have h5 := hn.2.2.1
  have h6 := hn.2.2.2.1
  have h2 := hn.2.2.2.2
  have e10 : κ2.1 10 0 = κ.1 10 0 := hk 10 _ (by decide) (by decide) (by decide)
  have e17 : κ2.1 17 0 = κ.1 17 0 := hk 17 _ (by decide) (by decide) (by decide)
  have e14 : ∀ x, κ2.1 14 x = κ.1 14 x := fun x => hk 14 _ (by decide) (by decide) (by decide)
  have e47 : ∀ x, κ2.1 47 x = κ.1 47 x := fun x => hk 47 _ (by decide) (by decide) (by decide)
  have lt : ∀ x, x ≠ κ.1 4 0 → ((x < κ2.1 4 0) = (x < κ.1 4 0)) := fun x hx => propext (by omega)
  simp only [List.mem_cons, List.not_mem_nil, or_false, not_or] at hu
  obtain ⟨u3, u4, u5, u6, u7, u10, u14⟩ := hu
  obtain ⟨a, x⟩ := u
  unfold ch
  dsimp only
  split
  · unfold fO; rw [hk 3 _ (by decide) (by decide) (by decide), h2]
  · rw [h2]
  · have hx : x ≠ κ.1 4 0 := fun e => u3 (by rw [e])
    simp only [lt x hx]
    unfold fR
    rw [nr_pm hw hn hx, h5 x hx]
  · have hx : x ≠ κ.1 4 0 := fun e => u4 (by rw [e])
    simp only [lt x hx]
    refine cif (congrArg (fun f => some (ax_ai 6 f)) ?_)
    funext s
    unfold od
    split
    · rw [h6 x s hx (by omega)]
    · rfl
  · have hx : x ≠ κ.1 4 0 := fun e => u5 (by rw [e])
    simp only [lt x hx, (nr_vv hw hn hx).1]
  · have hx : x ≠ κ.1 4 0 := fun e => u6 (by rw [e])
    simp only [lt x hx, (nr_vv hw hn hx).2]
  · have hx : x ≠ κ.1 4 0 := fun e => u7 (by rw [e])
    simp only [lt x hx]
    refine cif (congrArg (fun f => some (ax_ai 8 f)) ?_)
    funext s
    unfold lk
    rw [h2]
  · unfold fT; rw [e10, hk 11 _ (by decide) (by decide) (by decide), hk 12 _ (by decide) (by decide) (by decide), hk 44 _ (by decide) (by decide) (by decide), hk 16 _ (by decide) (by decide) (by decide), h2]
  · rw [e10, e14]
    by_cases q : x / 8 < κ.1 10 0 ∧ x % 8 < κ.1 14 (x / 8)
    · rw [if_pos q, if_pos q, nr_fI hw hn]
      have := ik.r hw q
      omega
    · rw [if_neg q, if_neg q]
  · have hx : x ≠ 0 := fun e => u10 (by rw [e])
    rw [if_neg hx, if_neg hx]
  · rw [e10]
  · rw [e17]
  · rw [e10, e14]
  · have hx : x ≠ 0 := fun e => u14 (by rw [e])
    rw [if_neg (fun z => hx z.1), if_neg (fun z => hx z.1)]
  · rw [e10, e14]
  · rw [e10]
  · rw [e17]; simp only [e47]
  · rfl
theorem nr_new (hw : kf κ) (hn : nrg κ κ2) (hR : κ.1 4 0 < 6) (nrc : ∀ s, s < κ2.1 5 (κ.1 4 0) → s < 6) : fh (ch κ2) ρ (3, κ.1 4 0) = some (ax_o 2 (fR κ2 (κ.1 4 0))) ∧ fh (ch κ2) ρ (4, κ.1 4 0) = some (ax_ai 6 (od κ2 (κ.1 4 0))) ∧ fh (ch κ2) ρ (5, κ.1 4 0) = some (ax_ai 48 (fun _ => 0)) ∧ fh (ch κ2) ρ (6, κ.1 4 0) = some (ax_ai 48 (fun _ => 0)) ∧ fh (ch κ2) ρ (7, κ.1 4 0) = some (ax_ai 8 (lk9 8)) ∧ fh (ch κ2) ρ (10, 0) = some (ax_o 0 [ax_i (nI (κ.1 4 0 + 1)), ax_r (14, 0), ax_i (nI (κ.1 4 0 + 1))]) ∧ fh (ch κ2) ρ (14, 0) = some (ax_aq 10 (fun j => if j < κ.1 4 0 + 1 ∧ j < 10 then some (if j = κ.1 4 0 then (3, κ.1 4 0) else (3, j)) else none)) := by
  have h4 := hn.1
  have hk := hn.2.1
  have h2 := hn.2.2.2.2
  have hl : κ.1 4 0 < κ2.1 4 0 := by omega
  have c0 := hw.c0 (κ.1 4 0) (Nat.le_refl _)
  have z7 : ∀ s o, s < 6 → o < 8 → κ.2.2 7 (8 * (6 * κ.1 4 0 + s) + o) = 0 ∧ κ.1 8 (8 * (6 * κ.1 4 0 + s) + o) = 0 := fun s o hs ho => hw.vf _ s o (by rw [c0.1]; exact Nat.zero_le _) hs ho
  have hpl : ∀ y s, pl κ2 (κ.1 4 0) y = some s → s < κ2.1 5 (κ.1 4 0) := fun y s q => by
    have h1 := List.mem_range'_1.mp (List.mem_of_find?_eq_some q)
    omega
  refine ⟨ch_R hl, ch_o hl, ?_, ?_, ?_, ?_, ?_⟩
  · rw [ch_v hl]
    refine congrArg (fun f => some (ax_ai 48 f)) ?_
    funext j
    unfold vv
    split
    · rename_i s q
      by_cases hs : s < 6
      · rw [h2]; exact (z7 s _ hs (Nat.mod_lt _ (by decide))).1
      · have h9 := hpl _ _ q
        exact absurd (nrc s h9) hs
    · rfl
  · rw [ch_n hl]
    refine congrArg (fun f => some (ax_ai 48 f)) ?_
    funext j
    unfold vn
    split
    · rename_i s q
      by_cases hs : s < 6
      · rw [hk 8 _ (by decide) (by decide) (by decide), (z7 s _ hs (Nat.mod_lt _ (by decide))).2]; rfl
      · have h9 := hpl _ _ q
        exact absurd (nrc s h9) hs
    · rfl
  · rw [ch_l hl]
    refine congrArg (fun f => some (ax_ai 8 f)) ?_
    funext j
    unfold lk lk9
    rw [h2]
    split
    · exact c0.2 hR j (by assumption)
    · rfl
  · rw [ch_lR, h4, if_neg (by omega)]
  · rw [ch_eR (by omega), h4]
    refine congrArg (fun f => some (ax_aq 10 f)) ?_
    funext j
    split
    · by_cases q : j = κ.1 4 0
      · rw [if_pos q, q]
      · rw [if_neg q]
    · rfl
theorem kf_nr (hw : kf κ) (hn : nrg κ κ2) (hR : κ.1 4 0 < 6) (n3 : κ2.1 5 (κ.1 4 0) ≤ 3) (nm : ∀ j, κ2.1 6 j < 6) (nx : ∀ j, κ2.1 5 j < 1000000) (nd : ∀ a b, a < κ2.1 5 (κ.1 4 0) → b < κ2.1 5 (κ.1 4 0) → κ2.1 6 (6 * κ.1 4 0 + a) = κ2.1 6 (6 * κ.1 4 0 + b) → a = b) (nz : ∀ s, κ2.1 5 (κ.1 4 0) ≤ s → s < 6 → κ2.1 6 (6 * κ.1 4 0 + s) = 0) (n4 : ∀ j, κ2.1 4 j < 1000000) : kf κ2 := by
  have h4 := hn.1
  have hk := hn.2.1
  have h5 := hn.2.2.1
  have h6 := hn.2.2.2.1
  have h2 := hn.2.2.2.2
  have c0 := hw.c0 (κ.1 4 0) (Nat.le_refl _)
  have e24 : ∀ k s, dn κ2 k s = dn κ k s := fun k s => by unfold dn; rw [hk 24 _ (by decide) (by decide) (by decide)]
  have E : ∀ k j, k ≠ 4 ∧ k ≠ 5 ∧ k ≠ 6 → κ2.1 k j = κ.1 k j := fun k j q => hk k j q.1 q.2.1 q.2.2
  refine ⟨?_, ?_, nm, ?_, ?_, ?_, ?_, ?_, ?_, ?_, ?_, ?_, ?_, ?_, ?_, ?_, ?_, ?_, ?_, ?_, ?_, ?_⟩
  · intro k j
    by_cases e4 : k = 4
    · subst e4; exact n4 j
    · by_cases e5 : k = 5
      · subst e5; exact nx j
      · by_cases e6 : k = 6
        · subst e6; have := nm j; omega
        · rw [hk k j e4 e5 e6]; exact hw.lt k j
  · intro x
    by_cases e : x = κ.1 4 0
    · subst e; omega
    · rw [h5 x e]; exact hw.c6 x
  · intro x; rw [E 11 _ (by decide)]; exact hw.co6 x
  · intro x; rw [E 14 _ (by decide)]; exact hw.i8 x
  · intro x; rw [E 18 _ (by decide)]; exact hw.r6 x
  · intro x; rw [E 19 _ (by decide)]; exact hw.o8 x
  · omega
  · rw [E 10 _ (by decide)]; exact hw.nT
  · rw [E 17 _ (by decide)]; exact hw.nP
  · intro t i; rw [E 10 _ (by decide), E 14 _ (by decide), E 18 _ (by decide), h4]; intro q1 q2; have := hw.ir t i q1 q2; omega
  · intro p; rw [E 10 _ (by decide), E 17 _ (by decide), E 47 _ (by decide)]; exact hw.bp p
  · intro x a b ha hb he
    by_cases e : x = κ.1 4 0
    · subst e; exact nd a b ha hb he
    · have := hw.c6 x
      rw [h5 x e] at ha hb
      rw [h6 x a e (by omega), h6 x b e (by omega)] at he
      exact hw.ds x a b ha hb he
  · intro x; rw [E 24 _ (by decide)]; exact hw.d6 x
  · intro x s q h1 h7 h3
    rw [h2, E 8 _ (by decide)]
    by_cases e : x = κ.1 4 0
    · subst e; exact hw.vf _ s q (by rw [c0.1]; exact Nat.zero_le _) h7 h3
    · rw [h5 x e] at h1
      exact hw.vf x s q h1 h7 h3
  · intro k s h1 h7
    rw [e24, h2]
    rw [E 18 _ (by decide)] at h1
    by_cases e : κ.1 18 k = κ.1 4 0
    · exact hw.rd k s (by rw [e, c0.1]; exact Nat.zero_le _) h7
    · rw [h5 _ e] at h1
      exact hw.rd k s h1 h7
  · rw [h2]; exact hw.b6
  · intro x hx
    rw [h2, h5 x (by omega)]
    exact hw.c0 x (by omega)
  · intro t ht
    rw [E 10 _ (by decide)] at ht
    rw [E 12 _ (by decide), E 44 _ (by decide), E 16 _ (by decide), E 14 _ (by decide), h2]
    exact hw.t0 t ht
  · intro t i h1 h7
    rw [E 14 _ (by decide)] at h1
    rw [E 24 _ (by decide), h2]
    exact hw.w0 t i h1 h7
  · intro x; rw [E 12 _ (by decide)]; exact hw.p8 x
  · intro x s h1 h7
    by_cases e : x = κ.1 4 0
    · subst e; exact nz s h1 h7
    · rw [h5 x e] at h1
      rw [h6 x s e h7]
      exact hw.m0 x s h1 h7
def cNt (κ : ax_R) (m : Nat) : ax_R := nu (nu κ 11 (κ.1 10 0) m) 10 0 (κ.1 10 0 + 1)
theorem nt_10 {m : Nat} : (cNt κ m).1 10 0 = κ.1 10 0 + 1 := by simp [cNt, nu]
theorem nt_11 {m x : Nat} (h : x ≠ κ.1 10 0) : (cNt κ m).1 11 x = κ.1 11 x := by simp [cNt, nu, h]
theorem nt_11s {m : Nat} : (cNt κ m).1 11 (κ.1 10 0) = m := by simp [cNt, nu]
theorem nt_n {m k x : Nat} (h : k ≠ 10 ∧ k ≠ 11) : (cNt κ m).1 k x = κ.1 k x := by simp [cNt, nu, h.1, h.2]
theorem nt_old : ∀ T, T < 60 → ∀ v, v < 6 → v ≠ lvl (T + 1) → (lov v < T + 1 ↔ lov v < T) ∧ (lov v < T → cpv v ≤ T) := by decide +kernel
theorem el_old {T v : Nat} {f : Nat → ax_N} (h : lov v < T → cpv v ≤ T) (hl : lov v < T) : elC (T + 1) (cpv v) f = elC T (cpv v) f := by
  refine congrArg (fun f => some (ax_aq (cpv v) f)) ?_
  funext j
  have := h hl
  have : (j < T + 1 ∧ j < cpv v) = (j < T ∧ j < cpv v) := propext (by omega)
  simp only [this]
theorem nt_pm {m r : Nat} : pm (cNt κ m) r = pm κ r := by funext P x; simp only [pm, nt_n (κ := κ) (m := m) (k := 5) (by decide), nt_n (κ := κ) (m := m) (k := 6) (by decide)]
theorem nt_fI {m k : Nat} : fI (cNt κ m) k = fI κ k := by
  have : dn (cNt κ m) k = dn κ k := by funext s; unfold dn; rw [nt_n (by decide)]
  unfold fI
  rw [nt_pm, this, nt_n (k := 18) (by decide), nt_n (k := 19) (by decide), nt_n (k := 21) (by decide)]
  rfl
theorem nt_pl {m r : Nat} : pl (cNt κ m) r = pl κ r := by funext x; simp only [pl, nt_n (κ := κ) (m := m) (k := 5) (by decide), nt_n (κ := κ) (m := m) (k := 6) (by decide)]
theorem ch_nt (hw : kf κ) {m : Nat} (hT : κ.1 10 0 < 60) (u : ax_N) (hu : u ∉ [(8, κ.1 10 0), (13, κ.1 10 0), (11, 0), (16, lvl (κ.1 10 0 + 1))]) : ch (cNt κ m) u = ch κ u := by
  have t0 := hw.t0 (κ.1 10 0) (Nat.le_refl _)
  have e4 : (cNt κ m).1 4 0 = κ.1 4 0 := nt_n (by decide)
  have e17 : (cNt κ m).1 17 0 = κ.1 17 0 := nt_n (by decide)
  have e14 : ∀ x, (cNt κ m).1 14 x = κ.1 14 x := fun x => nt_n (by decide)
  have e47 : ∀ x, (cNt κ m).1 47 x = κ.1 47 x := fun x => nt_n (by decide)
  have lt : ∀ x, x ≠ κ.1 10 0 → ((x < κ.1 10 0 + 1) = (x < κ.1 10 0)) := fun x hx => propext (by omega)
  simp only [List.mem_cons, List.not_mem_nil, or_false, not_or] at hu
  obtain ⟨u8, u13, u11, u16⟩ := hu
  obtain ⟨a, x⟩ := u
  unfold ch
  dsimp only
  split
  · unfold fO; rw [nt_n (k := 3) (by decide)]; rfl
  · rfl
  · unfold fR; rw [e4, nt_pm, nt_n (k := 5) (by decide)]
  · rw [e4]
    refine cif (congrArg (fun f => some (ax_ai 6 f)) ?_)
    funext s
    unfold od
    rw [nt_n (by decide)]
  · rw [e4]
    refine cif (congrArg (fun f => some (ax_ai 48 f)) ?_)
    funext s
    unfold vv
    rw [nt_pl]
    rfl
  · rw [e4]
    refine cif (congrArg (fun f => some (ax_ai 48 f)) ?_)
    funext s
    unfold vn
    rw [nt_pl]
    cases pl κ x (s / 8) with
    | none => rfl
    | some s => show nI ((cNt κ m).1 8 _) = nI (κ.1 8 _); rw [nt_n (by decide)]
  · rw [e4]; rfl
  · have hx : x ≠ κ.1 10 0 := fun e => u8 (by rw [e])
    rw [nt_10]
    simp only [lt x hx]
    unfold fT
    rw [nt_11 hx, nt_n (k := 12) (by decide), nt_n (k := 44) (by decide), nt_n (k := 16) (by decide)]
    rfl
  · rw [nt_10, e14, nt_fI]
    have : (x / 8 < κ.1 10 0 + 1 ∧ x % 8 < κ.1 14 (x / 8)) = (x / 8 < κ.1 10 0 ∧ x % 8 < κ.1 14 (x / 8)) := propext (by
      constructor
      · rintro ⟨q1, q2⟩
        refine ⟨?_, q2⟩
        by_cases e : x / 8 = κ.1 10 0
        · rw [e, t0.2.2.2.2] at q2; omega
        · omega
      · rintro ⟨q1, q2⟩
        exact ⟨by omega, q2⟩)
    simp only [this]
  · rw [e4]
  · have hx : x ≠ 0 := fun e => u11 (by rw [e])
    rw [if_neg hx, if_neg hx]
  · rw [e17]
  · have hx : x ≠ κ.1 10 0 := fun e => u13 (by rw [e])
    rw [nt_10, e14]
    simp only [lt x hx]
  · rw [e4]
  · rw [nt_10, e14]
    have : (x < κ.1 10 0 + 1 ∧ 0 < κ.1 14 x) = (x < κ.1 10 0 ∧ 0 < κ.1 14 x) := propext (by
      constructor
      · rintro ⟨q1, q2⟩
        refine ⟨?_, q2⟩
        by_cases e : x = κ.1 10 0
        · rw [e, t0.2.2.2.2] at q2; omega
        · omega
      · rintro ⟨q1, q2⟩
        exact ⟨by omega, q2⟩)
    simp only [this]
  · have hx : x ≠ lvl (κ.1 10 0 + 1) := fun e => u16 (by rw [e])
    rw [nt_10]
    by_cases q : x < 6
    · obtain ⟨o1, o2⟩ := nt_old _ hT x q hx
      by_cases q2 : lov x < κ.1 10 0
      · rw [if_pos ⟨q, o1.mpr q2⟩, if_pos ⟨q, q2⟩, el_old o2 q2]
      · rw [if_neg (fun z => q2 (o1.mp z.2)), if_neg (fun z => q2 z.2)]
    · rw [if_neg (fun z => q z.1), if_neg (fun z => q z.1)]
  · rw [e17]; simp only [e47]
  · rfl
theorem kf_nt (hw : kf κ) {m : Nat} (hm : m < 6) (hT : κ.1 10 0 < 60) : kf (cNt κ m) := by
  have e24 : ∀ k s, dn (cNt κ m) k s = dn κ k s := fun k s => by unfold dn; rw [nt_n (by decide)]
  have e11 : ∀ x, (cNt κ m).1 11 x < 6 := fun x => by
    by_cases e : x = κ.1 10 0
    · rw [e, nt_11s]; exact hm
    · rw [nt_11 e]; exact hw.co6 x
  refine ⟨?_, ?_, ?_, e11, ?_, ?_, ?_, ?_, ?_, ?_, ?_, ?_, ?_, ?_, ?_, ?_, hw.b6, ?_, ?_, ?_, ?_, ?_⟩
  · intro k j
    by_cases e10 : k = 10
    · subst e10
      by_cases e : j = 0
      · subst e; rw [nt_10]; omega
      · have : (cNt κ m).1 10 j = κ.1 10 j := by simp [cNt, nu, e]
        rw [this]; exact hw.lt _ _
    · by_cases e11' : k = 11
      · subst e11'; have := e11 j; omega
      · rw [nt_n ⟨e10, e11'⟩]; exact hw.lt _ _
  · intro x; rw [nt_n (by decide)]; exact hw.c6 x
  · intro x; rw [nt_n (by decide)]; exact hw.m6 x
  · intro x; rw [nt_n (by decide)]; exact hw.i8 x
  · intro x; rw [nt_n (by decide)]; exact hw.r6 x
  · intro x; rw [nt_n (by decide)]; exact hw.o8 x
  · rw [nt_n (by decide)]; exact hw.nR
  · rw [nt_10]; omega
  · rw [nt_n (by decide)]; exact hw.nP
  · intro t i
    rw [nt_10, nt_n (k := 14) (by decide), nt_n (k := 18) (by decide), nt_n (k := 4) (by decide)]
    intro q1 q2
    by_cases e : t = κ.1 10 0
    · rw [e, (hw.t0 _ (Nat.le_refl _)).2.2.2.2] at q2; omega
    · exact hw.ir t i (by omega) q2
  · intro p
    rw [nt_10, nt_n (k := 17) (by decide), nt_n (k := 47) (by decide)]
    intro q
    have := hw.bp p q
    omega
  · intro x a b
    simp only [nt_n (κ := κ) (m := m) (k := 5) (by decide), nt_n (κ := κ) (m := m) (k := 6) (by decide)]
    exact hw.ds x a b
  · intro x; rw [nt_n (by decide)]; exact hw.d6 x
  · intro x s q
    rw [nt_n (k := 5) (by decide), nt_n (k := 8) (by decide)]
    exact hw.vf x s q
  · intro k s
    rw [nt_n (k := 5) (by decide), nt_n (k := 18) (by decide), e24]
    exact hw.rd k s
  · intro r
    rw [nt_n (k := 4) (by decide), nt_n (k := 5) (by decide)]
    exact hw.c0 r
  · intro t
    rw [nt_10, nt_n (k := 12) (by decide), nt_n (k := 44) (by decide), nt_n (k := 16) (by decide), nt_n (k := 14) (by decide)]
    intro ht
    exact hw.t0 t (by omega)
  · intro t i
    rw [nt_n (k := 14) (by decide), nt_n (k := 24) (by decide)]
    exact hw.w0 t i
  · intro x; rw [nt_n (by decide)]; exact hw.p8 x
  · intro x s
    rw [nt_n (k := 5) (by decide), nt_n (k := 6) (by decide)]
    exact hw.m0 x s
section NI
variable {t r q p : Nat}
theorem ni_14 {x : Nat} : (rN κ t r q p).1 14 x = if x = t then κ.1 14 t + 1 else κ.1 14 x := by
  by_cases e : x = t <;> simp [rN, nu, ru, e]
theorem ni_18 {x : Nat} : (rN κ t r q p).1 18 x = if x = 8 * t + κ.1 14 t then r else κ.1 18 x := by
  by_cases e : x = 8 * t + κ.1 14 t <;> simp [rN, nu, ru, e]
theorem ni_19 {x : Nat} : (rN κ t r q p).1 19 x = if x = 8 * t + κ.1 14 t then q else κ.1 19 x := by
  by_cases e : x = 8 * t + κ.1 14 t <;> simp [rN, nu, ru, e]
theorem ni_21 {x : Nat} : (rN κ t r q p).1 21 x = if x = 8 * t + κ.1 14 t then κ.1 8 (8 * (6 * r + p) + q) else κ.1 21 x := by
  by_cases e : x = 8 * t + κ.1 14 t <;> simp [rN, nu, ru, e]
theorem ni_20 {x : Nat} : (rN κ t r q p).2.2 20 x = if x = 8 * t + κ.1 14 t then κ.2.2 7 (8 * (6 * r + p) + q) else κ.2.2 20 x := by
  by_cases e : x = 8 * t + κ.1 14 t <;> simp [rN, nu, ru, e]
theorem ni_n {k x : Nat} (h : k ≠ 14 ∧ k ≠ 18 ∧ k ≠ 19 ∧ k ≠ 21) : (rN κ t r q p).1 k x = κ.1 k x := by simp [rN, nu, ru, h.1, h.2.1, h.2.2.1, h.2.2.2]
theorem ni_r {k x : Nat} (h : k ≠ 20) : (rN κ t r q p).2.2 k x = κ.2.2 k x := by simp [rN, nu, ru, h]
theorem ni_pm {x : Nat} : pm (rN κ t r q p) x = pm κ x := by funext P y; simp only [pm, ni_n (κ := κ) (t := t) (r := r) (q := q) (p := p) (k := 5) (by decide), ni_n (κ := κ) (t := t) (r := r) (q := q) (p := p) (k := 6) (by decide)]
theorem ni_pl {x : Nat} : pl (rN κ t r q p) x = pl κ x := by funext y; simp only [pl, ni_n (κ := κ) (t := t) (r := r) (q := q) (p := p) (k := 5) (by decide), ni_n (κ := κ) (t := t) (r := r) (q := q) (p := p) (k := 6) (by decide)]
theorem ni_dn {k s : Nat} : dn (rN κ t r q p) k s = dn κ k s := by unfold dn; rw [ni_n (by decide)]
theorem ni_fI {k : Nat} (h : k ≠ 8 * t + κ.1 14 t) : fI (rN κ t r q p) k = fI κ k := by
  have : dn (rN κ t r q p) k = dn κ k := funext fun s => ni_dn
  unfold fI
  rw [ni_pm, this, ni_18, ni_19, ni_21, ni_20, if_neg h, if_neg h, if_neg h, if_neg h]
  rfl
theorem ni_fIs (hw : kf κ) (h8 : κ.1 14 t < 8) : fI (rN κ t r q p) (8 * t + κ.1 14 t) = [ax_r (3, r), ax_i (nI q), ax_i (κ.2.2 7 (8 * (6 * r + p) + q)), ax_i (nI (κ.1 8 (8 * (6 * r + p) + q))), ax_i (ax_b false), ax_i (-9), ax_i (nI 0), ax_i (nI 0)] := by
  have w0 := hw.w0 t (κ.1 14 t) (Nat.le_refl _) h8
  have hb : (rN κ t r q p).2.1 22 (8 * t + κ.1 14 t) = false := w0.1
  refine fI_mk (by rw [ni_18, if_pos rfl]) (by rw [ni_19, if_pos rfl]) (by rw [ni_20, if_pos rfl]) (by rw [ni_21, if_pos rfl]) (by rw [hb]) (by rw [hb]; rfl) ?_ ?_
  · refine congrArg (fun x => ax_i (nI x)) (mk_pmf fun s hs => ?_)
    rw [ni_n (by decide)] at hs
    exact w0.2.2 s (by have := hw.c6 ((rN κ t r q p).1 18 (8 * t + κ.1 14 t)); omega)
  · refine congrArg (fun x => ax_i (nI x)) (mk_pmf fun s hs => ?_)
    rw [ni_dn]
    unfold dn
    rw [w0.2.1]
    simp
theorem ch_ni (hw : kf κ) (h8 : κ.1 14 t < 8) (u : ax_N) (hu : u ∉ [(9, 8 * t + κ.1 14 t), (13, t), (15, t)]) : ch (rN κ t r q p) u = ch κ u := by
  have e4 : (rN κ t r q p).1 4 0 = κ.1 4 0 := ni_n (by decide)
  have e10 : (rN κ t r q p).1 10 0 = κ.1 10 0 := ni_n (by decide)
  have e17 : (rN κ t r q p).1 17 0 = κ.1 17 0 := ni_n (by decide)
  have e47 : ∀ x, (rN κ t r q p).1 47 x = κ.1 47 x := fun x => ni_n (by decide)
  simp only [List.mem_cons, List.not_mem_nil, or_false, not_or] at hu
  obtain ⟨u9, u13, u15⟩ := hu
  obtain ⟨a, x⟩ := u
  unfold ch
  dsimp only
  split
  · unfold fO; rw [ni_n (k := 3) (by decide)]; rfl
  · refine cif (congrArg (fun f => some (ax_ai 48 f)) ?_)
    funext s
    exact ni_r (by decide)
  · unfold fR; rw [e4, ni_pm, ni_n (k := 5) (by decide)]
  · rw [e4]
    refine cif (congrArg (fun f => some (ax_ai 6 f)) ?_)
    funext s
    unfold od
    rw [ni_n (by decide)]
  · rw [e4]
    refine cif (congrArg (fun f => some (ax_ai 48 f)) ?_)
    funext s
    unfold vv
    rw [ni_pl]
    cases pl κ x (s / 8) with
    | none => rfl
    | some s => exact ni_r (by decide)
  · rw [e4]
    refine cif (congrArg (fun f => some (ax_ai 48 f)) ?_)
    funext s
    unfold vn
    rw [ni_pl]
    cases pl κ x (s / 8) with
    | none => rfl
    | some s => show nI ((rN κ t r q p).1 8 _) = nI (κ.1 8 _); rw [ni_n (by decide)]
  · rw [e4]
    refine cif (congrArg (fun f => some (ax_ai 8 f)) ?_)
    funext s
    unfold lk
    rw [ni_r (by decide)]
  · rw [e10]
    unfold fT
    rw [ni_n (k := 11) (by decide), ni_n (k := 12) (by decide), ni_n (k := 44) (by decide), ni_n (k := 16) (by decide)]
    rfl
  · have hx : x ≠ 8 * t + κ.1 14 t := fun e => u9 (by rw [e])
    rw [e10, ni_fI hx, ni_14]
    have : (x / 8 < κ.1 10 0 ∧ x % 8 < (if x / 8 = t then κ.1 14 t + 1 else κ.1 14 (x / 8))) = (x / 8 < κ.1 10 0 ∧ x % 8 < κ.1 14 (x / 8)) := propext (by
      by_cases e : x / 8 = t
      · rw [if_pos e, e]
        have : x % 8 ≠ κ.1 14 t := by omega
        omega
      · rw [if_neg e])
    simp only [this]
  · rw [e4]
  · rw [e10]
  · rw [e17]
  · have hx : x ≠ t := fun e => u13 (by rw [e])
    rw [e10, ni_14, if_neg hx]
  · rw [e4]
  · have hx : x ≠ t := fun e => u15 (by rw [e])
    rw [e10, ni_14, if_neg hx]
  · rw [e10]
  · rw [e17]; simp only [e47]
  · rfl
theorem kf_ni (hw : kf κ) (ht : t < κ.1 10 0) (h8 : κ.1 14 t < 8) (hr : r < κ.1 4 0) (hq : q < 8) : kf (rN κ t r q p) := by
  have w0 := hw.w0 t (κ.1 14 t) (Nat.le_refl _) h8
  refine ⟨?_, ?_, ?_, ?_, ?_, ?_, ?_, ?_, ?_, ?_, ?_, ?_, ?_, ?_, ?_, ?_, hw.b6, ?_, ?_, ?_, ?_, ?_⟩
  · intro k j
    by_cases e14 : k = 14
    · subst e14
      rw [ni_14]
      split
      · omega
      · exact hw.lt _ _
    · by_cases e18 : k = 18
      · subst e18
        rw [ni_18]
        split
        · have := hw.nR; omega
        · exact hw.lt _ _
      · by_cases e19 : k = 19
        · subst e19
          rw [ni_19]
          split
          · omega
          · exact hw.lt _ _
        · by_cases e21 : k = 21
          · subst e21
            rw [ni_21]
            split <;> exact hw.lt _ _
          · rw [ni_n ⟨e14, e18, e19, e21⟩]; exact hw.lt _ _
  · intro x; rw [ni_n (by decide)]; exact hw.c6 x
  · intro x; rw [ni_n (by decide)]; exact hw.m6 x
  · intro x; rw [ni_n (by decide)]; exact hw.co6 x
  · intro x
    rw [ni_14]
    split
    · omega
    · exact hw.i8 x
  · intro x
    rw [ni_18]
    split
    · have := hw.nR; omega
    · exact hw.r6 x
  · intro x
    rw [ni_19]
    split
    · exact hq
    · exact hw.o8 x
  · rw [ni_n (by decide)]; exact hw.nR
  · rw [ni_n (by decide)]; exact hw.nT
  · rw [ni_n (by decide)]; exact hw.nP
  · intro y i
    rw [ni_n (k := 10) (by decide), ni_n (k := 4) (by decide), ni_14, ni_18]
    intro h1 h2
    have := hw.i8 y
    split
    · exact hr
    · split at h2
      · rename_i e1 e2
        subst e2
        exact hw.ir _ _ h1 (by omega)
      · exact hw.ir _ _ h1 h2
  · intro y
    rw [ni_n (k := 10) (by decide), ni_n (k := 17) (by decide), ni_n (k := 47) (by decide)]
    exact hw.bp y
  · intro x a b
    simp only [ni_n (κ := κ) (t := t) (r := r) (q := q) (p := p) (k := 5) (by decide), ni_n (κ := κ) (t := t) (r := r) (q := q) (p := p) (k := 6) (by decide)]
    exact hw.ds x a b
  · intro x; rw [ni_n (by decide)]; exact hw.d6 x
  · intro x s y
    rw [ni_n (k := 5) (by decide), ni_n (k := 8) (by decide), ni_r (by decide)]
    exact hw.vf x s y
  · intro k s
    rw [ni_n (k := 5) (by decide), ni_18, ni_dn]
    split
    · rename_i e
      subst e
      intro h1 h2
      refine ⟨w0.2.2 s h2, ?_⟩
      unfold dn
      rw [w0.2.1]
      simp
    · exact hw.rd k s
  · intro x
    rw [ni_n (k := 4) (by decide), ni_n (k := 5) (by decide)]
    simp only [ni_r (κ := κ) (t := t) (r := r) (q := q) (p := p) (k := 9) (by decide)]
    exact hw.c0 x
  · intro y
    rw [ni_n (k := 10) (by decide), ni_n (k := 12) (by decide), ni_n (k := 44) (by decide), ni_n (k := 16) (by decide), ni_14]
    intro hy
    rw [if_neg (by omega)]
    exact hw.t0 y hy
  · intro y i
    rw [ni_14, ni_n (k := 24) (by decide)]
    intro h1 h2
    refine hw.w0 y i ?_ h2
    split at h1
    · rename_i e; subst e; omega
    · exact h1
  · intro x; rw [ni_n (by decide)]; exact hw.p8 x
  · intro x s
    rw [ni_n (k := 5) (by decide), ni_n (k := 6) (by decide)]
    exact hw.m0 x s
end NI
/-- a place is told -/
def cPl (κ : ax_R) (t : Nat) : ax_R := nu (nu κ 47 (κ.1 17 0) t) 17 0 (κ.1 17 0 + 1)
section PL
variable {t : Nat}
theorem pl_17 : (cPl κ t).1 17 0 = κ.1 17 0 + 1 := by simp [cPl, nu]
theorem pl_47 {x : Nat} : (cPl κ t).1 47 x = if x = κ.1 17 0 then t else κ.1 47 x := by by_cases e : x = κ.1 17 0 <;> simp [cPl, nu, e]
theorem pl_n {k x : Nat} (h : k ≠ 17 ∧ k ≠ 47) : (cPl κ t).1 k x = κ.1 k x := by simp [cPl, nu, h.1, h.2]
theorem ch_pl (hP : κ.1 17 0 < 60) (u : ax_N) (hu : u ∉ [(12, 0), (17, lvl (κ.1 17 0 + 1))]) : ch (cPl κ t) u = ch κ u := by
  have ed : ∀ k, dn (cPl κ t) k = dn κ k := fun k => by funext s; unfold dn; rw [pl_n (by decide)]
  have ep : ∀ x, pm (cPl κ t) x = pm κ x := fun x => by funext P y; simp only [pm, pl_n (κ := κ) (t := t) (k := 5) (by decide), pl_n (κ := κ) (t := t) (k := 6) (by decide)]
  have el : ∀ x, pl (cPl κ t) x = pl κ x := fun x => by funext y; simp only [pl, pl_n (κ := κ) (t := t) (k := 5) (by decide), pl_n (κ := κ) (t := t) (k := 6) (by decide)]
  have e4 : (cPl κ t).1 4 0 = κ.1 4 0 := pl_n (by decide)
  have e10 : (cPl κ t).1 10 0 = κ.1 10 0 := pl_n (by decide)
  have e14 : ∀ x, (cPl κ t).1 14 x = κ.1 14 x := fun x => pl_n (by decide)
  simp only [List.mem_cons, List.not_mem_nil, or_false, not_or] at hu
  obtain ⟨u12, u17⟩ := hu
  obtain ⟨a, x⟩ := u
  unfold ch
  dsimp only
  split
  · unfold fO; rw [pl_n (k := 3) (by decide)]; rfl
  · rfl
  · unfold fR; rw [e4, ep, pl_n (k := 5) (by decide)]
  · rw [e4]
    refine cif (congrArg (fun f => some (ax_ai 6 f)) ?_)
    funext s
    unfold od
    rw [pl_n (by decide)]
  · rw [e4]
    refine cif (congrArg (fun f => some (ax_ai 48 f)) ?_)
    funext s
    unfold vv
    rw [el]
    rfl
  · rw [e4]
    refine cif (congrArg (fun f => some (ax_ai 48 f)) ?_)
    funext s
    unfold vn
    rw [el]
    cases pl κ x (s / 8) with
    | none => rfl
    | some s => show nI ((cPl κ t).1 8 _) = nI (κ.1 8 _); rw [pl_n (by decide)]
  · rw [e4]; rfl
  · rw [e10]
    unfold fT
    rw [pl_n (k := 11) (by decide), pl_n (k := 12) (by decide), pl_n (k := 44) (by decide), pl_n (k := 16) (by decide)]
    rfl
  · rw [e10, e14]
    unfold fI
    rw [ep, ed, pl_n (k := 18) (by decide), pl_n (k := 19) (by decide), pl_n (k := 21) (by decide)]
    rfl
  · rw [e4]
  · rw [e10]
  · have hx : x ≠ 0 := fun e => u12 (by rw [e])
    rw [if_neg hx, if_neg hx]
  · rw [e10, e14]
  · rw [e4]
  · rw [e10, e14]
  · rw [e10]
  · have hx : x ≠ lvl (κ.1 17 0 + 1) := fun e => u17 (by rw [e])
    rw [pl_17]
    by_cases q : x < 6
    · obtain ⟨o1, o2⟩ := nt_old _ hP x q hx
      by_cases q2 : lov x < κ.1 17 0
      · rw [if_pos ⟨q, o1.mpr q2⟩, if_pos ⟨q, q2⟩, el_old o2 q2]
        refine congrArg (fun f => some (ax_aq (cpv x) f)) ?_
        funext j
        split
        · rename_i q3
          show some (8, (cPl κ t).1 47 j) = some (8, κ.1 47 j)
          rw [pl_47, if_neg (by omega)]
        · rfl
      · rw [if_neg (fun z => q2 (o1.mp z.2)), if_neg (fun z => q2 z.2)]
    · rw [if_neg (fun z => q z.1), if_neg (fun z => q z.1)]
  · rfl
theorem kf_pla (hw : kf κ) (ht : t < κ.1 10 0) (hP : κ.1 17 0 < 60) : kf (cPl κ t) := by
  have ed : ∀ k s, dn (cPl κ t) k s = dn κ k s := fun k s => by unfold dn; rw [pl_n (by decide)]
  refine ⟨?_, ?_, ?_, ?_, ?_, ?_, ?_, ?_, ?_, ?_, ?_, ?_, ?_, ?_, ?_, ?_, hw.b6, ?_, ?_, ?_, ?_, ?_⟩
  · intro k j
    by_cases e17 : k = 17
    · subst e17
      by_cases e : j = 0
      · subst e; rw [pl_17]; omega
      · have : (cPl κ t).1 17 j = κ.1 17 j := by simp [cPl, nu, e]
        rw [this]; exact hw.lt _ _
    · by_cases e47 : k = 47
      · subst e47
        rw [pl_47]
        split
        · have := hw.nT; omega
        · exact hw.lt _ _
      · rw [pl_n ⟨e17, e47⟩]; exact hw.lt _ _
  · intro x; rw [pl_n (by decide)]; exact hw.c6 x
  · intro x; rw [pl_n (by decide)]; exact hw.m6 x
  · intro x; rw [pl_n (by decide)]; exact hw.co6 x
  · intro x; rw [pl_n (by decide)]; exact hw.i8 x
  · intro x; rw [pl_n (by decide)]; exact hw.r6 x
  · intro x; rw [pl_n (by decide)]; exact hw.o8 x
  · rw [pl_n (by decide)]; exact hw.nR
  · rw [pl_n (by decide)]; exact hw.nT
  · rw [pl_17]; omega
  · intro y i
    rw [pl_n (k := 10) (by decide), pl_n (k := 4) (by decide), pl_n (k := 14) (by decide), pl_n (k := 18) (by decide)]
    exact hw.ir y i
  · intro y
    rw [pl_n (k := 10) (by decide), pl_17, pl_47]
    intro hy
    split
    · exact ht
    · exact hw.bp y (by omega)
  · intro x a b
    simp only [pl_n (κ := κ) (t := t) (k := 5) (by decide), pl_n (κ := κ) (t := t) (k := 6) (by decide)]
    exact hw.ds x a b
  · intro x; rw [pl_n (by decide)]; exact hw.d6 x
  · intro x s y
    rw [pl_n (k := 5) (by decide), pl_n (k := 8) (by decide)]
    exact hw.vf x s y
  · intro k s
    rw [pl_n (k := 5) (by decide), pl_n (k := 18) (by decide), ed]
    exact hw.rd k s
  · intro x
    rw [pl_n (k := 4) (by decide), pl_n (k := 5) (by decide)]
    exact hw.c0 x
  · intro y
    rw [pl_n (k := 10) (by decide), pl_n (k := 12) (by decide), pl_n (k := 44) (by decide), pl_n (k := 16) (by decide), pl_n (k := 14) (by decide)]
    exact hw.t0 y
  · intro y i
    rw [pl_n (k := 14) (by decide), pl_n (k := 24) (by decide)]
    exact hw.w0 y i
  · intro x; rw [pl_n (by decide)]; exact hw.p8 x
  · intro x s
    rw [pl_n (k := 5) (by decide), pl_n (k := 6) (by decide)]
    exact hw.m0 x s
end PL
end H2
