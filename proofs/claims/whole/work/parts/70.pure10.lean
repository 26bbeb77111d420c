section PU10
variable {κ κ2 ρ ρ2 : ax_R} {b : Nat} {t : Nat}
theorem bk_at {r : Nat} (e5 : κ2.1 5 r = κ.1 5 r) (e6 : ∀ s, s < κ.1 5 r → κ2.1 6 (6 * r + s) = κ.1 6 (6 * r + s)) (e1 : κ2.2.1 1 = κ.2.1 1) : cPr κ2 r = cPr κ r ∧ rM κ2 r = rM κ r ∧ ∀ s, bk κ2 r s = bk κ r s := by
  have eO : ∀ s, s < κ.1 5 r → rO κ2 r s = rO κ r s := fun s hs => by unfold rO; rw [e6 s hs, e1]
  have eP : cPr κ2 r = cPr κ r := by
    unfold cPr
    rw [e5]
    exact find_co fun s hs => by have := List.mem_range'_1.mp hs; exact eO s (by omega)
  refine ⟨eP, ?_, fun s => ?_⟩
  · unfold rM
    rw [e5]
    exact cP_co fun s hs => by have := List.mem_range'_1.mp hs; exact eO s (by omega)
  · unfold bk
    rw [e5, eP]
    by_cases hs : s < κ.1 5 r
    · rw [eO s hs]
    · simp [hs]
theorem cHa_co2 {t k s : Nat} (e12 : κ2.1 12 t = κ.1 12 t) (e22 : κ2.2.1 22 k = κ.2.1 22 k) (e18 : κ2.1 18 k = κ.1 18 k) (e19 : κ2.1 19 k = κ.1 19 k) (e3 : κ.1 12 t = 3 → (κ.2.1 22 k && bk κ2 (κ.1 18 k) s) = (κ.2.1 22 k && bk κ (κ.1 18 k) s)) (e5 : κ.1 12 t = 5 → (decide (s < κ2.1 5 (κ.1 18 k)) && κ2.2.1 41 (6 * k + s)) = (decide (s < κ.1 5 (κ.1 18 k)) && κ.2.1 41 (6 * k + s))) (e6 : κ2.2.2 9 = κ.2.2 9) : cHa κ2 t k s = cHa κ t k s := by
  unfold cHa
  rw [e12, e18, e19, e22, e6]
  split
  · rfl
  · rfl
  · exact e3 (by assumption)
  · rfl
  · exact e5 (by assumption)
  · rfl
  · rfl
/-- a new region -/
theorem iv_reg (h : Iv κ ρ b (fun _ => True)) (hn : nrg κ κ2) (hk : kf κ2) (ha : ag κ2 ρ2) (ho : own ρ2) (hR : κ.1 4 0 < 6) (n3 : κ2.1 5 (κ.1 4 0) ≤ 3) (r13 : ρ2.1 13 = ρ.1 13) (r25 : ρ2.1 25 = ρ.1 25) (r27 : ρ2.1 27 = ρ.1 27) (r26 : ρ2.2.2 26 = ρ.2.2 26) : Iv κ2 ρ2 b (fun _ => True) := by
  have hw := h.kf
  obtain ⟨h4, hn, h5, h6, h2⟩ := hn
  have E : ∀ k, k ≠ 4 ∧ k ≠ 5 ∧ k ≠ 6 → κ2.1 k = κ.1 k := fun k q => funext fun j => hn k j q.1 q.2.1 q.2.2
  have at_ : ∀ r, r ≠ κ.1 4 0 → cPr κ2 r = cPr κ r ∧ rM κ2 r = rM κ r ∧ ∀ s, bk κ2 r s = bk κ r s := fun r hr => bk_at (h5 r hr) (fun s hs => h6 r s hr (by have := hw.c6 r; omega)) (by rw [h2])
  refine ⟨hk, ha, ho, ?_, by rw [h2]; exact h.um, fun r => ?_, ?_, fun r q hr hq => ?_, ?_, ?_, ?_, ?_, ?_, ?_, fun e he => ?_, fun x hx hac _ => ?_, ?_, ?_⟩
  · rw [E 8 (by decide), E 21 (by decide), E 3 (by decide), r13]; exact h.bd
  · by_cases z : r = κ.1 4 0
    · rw [z]
      unfold rM
      refine Nat.le_trans List.countP_le_length ?_
      rw [List.length_range']
      exact n3
    · rw [(at_ r z).2.1]; exact h.m3 r
  · rw [E 14 (by decide), E 18 (by decide), E 19 (by decide)]; exact h.it
  · rw [h2, E 10 (by decide), E 14 (by decide), E 18 (by decide), E 19 (by decide)]
    rw [h4] at hr
    by_cases z : r = κ.1 4 0
    · rw [z]; exact Or.inl ((hw.c0 _ (Nat.le_refl _)).2 hR q hq)
    · exact h.lk r q (by omega) hq
  · rw [E 17 (by decide), E 16 (by decide), E 47 (by decide)]; exact h.pa
  · rw [E 17 (by decide), E 16 (by decide), E 47 (by decide)]; exact h.pb
  · rw [E 12 (by decide), E 16 (by decide)]; exact h.pc
  · rw [r25, r26, r27, h2]; exact h.r1
  · rw [r25, r26, r27, h2]; exact h.r2
  · rw [r25, r26, r27]; exact h.r3
  · rw [h2] at he
    unfold ik
    rw [E 10 (by decide), E 14 (by decide), E 12 (by decide), E 44 (by decide), h2]
    exact h.r4 e he
  · rw [E 10 (by decide)] at hx
    have hac2 : rAc κ x = true := by unfold rAc at hac ⊢; rw [E 12 (by decide)] at hac; exact hac
    refine st_co (h.st x hx hac2 trivial) (by rw [E 44 (by decide)]) (by rw [E 14 (by decide)]) (by rw [E 12 (by decide)]) (by rw [r13]) (fun i s hi hs => ?_)
    have hr : κ.1 18 (8 * x + i) ≠ κ.1 4 0 := by have := hw.ir x i hx hi; omega
    exact cHa_co (by rw [E 12 (by decide)]) (by rw [h2]) (by rw [E 18 (by decide)]) (by rw [E 19 (by decide)]) (fun _ => (at_ _ hr).2.2 s) (fun _ => ⟨by rw [h2], h5 _ hr⟩) (fun _ => by rw [h2])
  · rw [r25, r13, E 12 (by decide)]; exact h.gb
  · rw [E 10 (by decide), E 14 (by decide), E 12 (by decide), E 44 (by decide), E 18 (by decide), E 19 (by decide), h2]; exact h.hl
theorem iv_reg1 (h : Iv κ ρ b (fun _ => True)) {a : Nat} (ha : a < 6) : (rRg κ a).1 = (rRg ρ a).1 ∧ Iv (rRg κ a).2 (rRg ρ a).2 b (fun _ => True) := by
  have hag := h.ag
  unfold rRg
  rw [hag.b 1 (by decide), hag.n 4 (by decide)]
  by_cases z : κ.2.1 1 a = false
  · rw [if_pos z, if_pos z]; exact ⟨rfl, h⟩
  · rw [if_neg z, if_neg z]
    by_cases z2 : κ.1 4 0 = 6
    · rw [if_pos z2, if_pos z2]; exact ⟨rfl, h⟩
    · rw [if_neg z2, if_neg z2]
      have hR : κ.1 4 0 < 6 := by have := h.kf.nR; omega
      refine ⟨rfl, iv_reg (κ2 := cNr1 κ a) h nr1_g (nr1_kf h.kf ha hR) (ag_nu (ag_nu (ag_nu hag))) (own_nu (own_nu (own_nu h.ow (by decide) (by omega)) (by decide) (by omega)) (by decide) (by omega)) hR (by rw [nr1_5]; omega) ?_ ?_ ?_ rfl⟩ <;> (funext x; simp [nu])
theorem iv_reg2 (h : Iv κ ρ b (fun _ => True)) {a c : Nat} (ha : a < 6) (hc : c < 6) : (rRg2 κ a c).1 = (rRg2 ρ a c).1 ∧ Iv (rRg2 κ a c).2 (rRg2 ρ a c).2 b (fun _ => True) := by
  have hag := h.ag
  unfold rRg2
  rw [hag.b 1 (by decide), hag.n 4 (by decide)]
  by_cases z : a = c ∨ κ.2.1 1 a = false ∨ κ.2.1 1 c = false
  · rw [if_pos z, if_pos z]; exact ⟨rfl, h⟩
  · rw [if_neg z, if_neg z]
    by_cases z2 : κ.1 4 0 = 6
    · rw [if_pos z2, if_pos z2]; exact ⟨rfl, h⟩
    · rw [if_neg z2, if_neg z2]
      have hR : κ.1 4 0 < 6 := by have := h.kf.nR; omega
      refine ⟨rfl, iv_reg (κ2 := cNr2 κ a c) h nr2_g (nr2_kf h.kf ha hc (fun q => z (Or.inl q)) hR) (ag_nu (ag_nu (ag_nu (ag_nu (ag_nu hag))))) (own_nu (own_nu (own_nu (own_nu (own_nu h.ow (by decide) (by omega)) (by decide) (by omega)) (by decide) (by omega)) (by decide) (by omega)) (by decide) (by omega)) hR (by rw [nr2_5]; omega) ?_ ?_ ?_ rfl⟩ <;> (funext x; simp [nu])
theorem iv_reg3 (h : Iv κ ρ b (fun _ => True)) {a c d : Nat} (ha : a < 6) (hc : c < 6) (hd : d < 6) : (rRg3 κ a c d).1 = (rRg3 ρ a c d).1 ∧ Iv (rRg3 κ a c d).2 (rRg3 ρ a c d).2 b (fun _ => True) := by
  have hag := h.ag
  unfold rRg3
  rw [hag.b 1 (by decide), hag.n 4 (by decide)]
  by_cases z : a = c ∨ a = d ∨ c = d ∨ κ.2.1 1 a = false ∨ κ.2.1 1 c = false ∨ κ.2.1 1 d = false
  · rw [if_pos z, if_pos z]; exact ⟨rfl, h⟩
  · rw [if_neg z, if_neg z]
    by_cases z2 : κ.1 4 0 = 6
    · rw [if_pos z2, if_pos z2]; exact ⟨rfl, h⟩
    · rw [if_neg z2, if_neg z2]
      have hR : κ.1 4 0 < 6 := by have := h.kf.nR; omega
      refine ⟨rfl, iv_reg (κ2 := cNr3 κ a c d) h nr3_g (nr3_kf h.kf ha hc hd (fun q => z (Or.inl q)) (fun q => z (Or.inr (Or.inl q))) (fun q => z (Or.inr (Or.inr (Or.inl q)))) hR) (ag_nu (ag_nu (ag_nu (ag_nu (ag_nu (ag_nu (ag_nu hag))))))) (own_nu (own_nu (own_nu (own_nu (own_nu (own_nu (own_nu h.ow (by decide) (by omega)) (by decide) (by omega)) (by decide) (by omega)) (by decide) (by omega)) (by decide) (by omega)) (by decide) (by omega)) (by decide) (by omega)) hR (by rw [nr3_5]; omega) ?_ ?_ ?_ rfl⟩ <;> (funext x; simp [nu])
-- one copy more
theorem cs_1 {r i p k j x : Nat} (h : k ≠ 8) : (rCs r i p κ x).1 k j = κ.1 k j := by simp [rCs, nu, ru, h]
theorem css_1 {r i p k j : Nat} (h : k ≠ 8) : ∀ (l : List Nat) (κ : ax_R), (l.foldl (rCs r i p) κ).1 k j = κ.1 k j
  | [], _ => rfl
  | x :: l, κ => by rw [List.foldl_cons]; exact (css_1 h l _).trans (cs_1 h)
theorem css_b {r i p : Nat} : ∀ (l : List Nat) (κ : ax_R), (l.foldl (rCs r i p) κ).2.1 = κ.2.1
  | [], _ => rfl
  | x :: l, κ => by rw [List.foldl_cons]; exact css_b l _
theorem css_r {r i p k j : Nat} (h : k ≠ 7) : ∀ (l : List Nat) (κ : ax_R), (l.foldl (rCs r i p) κ).2.2 k j = κ.2.2 k j
  | [], _ => rfl
  | x :: l, κ => by
    rw [List.foldl_cons, css_r h l]
    simp [rCs, nu, ru, h]
theorem css_8 {r i p c : Nat} : ∀ (l : List Nat) (κ : ax_R), (∀ j, κ.1 8 j ≤ c) → ∀ j, (l.foldl (rCs r i p) κ).1 8 j ≤ c
  | [], _, h, j => h j
  | x :: l, κ, h, j => by
    rw [List.foldl_cons]
    refine css_8 l _ (fun y => ?_) j
    show (if 8 = 8 ∧ y = _ then κ.1 8 _ else κ.1 8 y) ≤ c
    split <;> exact h _
theorem css_ag {r i p : Nat} : ∀ (l : List Nat) (κ ρ : ax_R), ag κ ρ → ag (l.foldl (rCs r i p) κ) (l.foldl (rCs r i p) ρ)
  | [], _, _, h => h
  | x :: l, κ, ρ, h => by
    rw [List.foldl_cons, List.foldl_cons]
    refine css_ag l _ _ ?_
    unfold rCs
    rw [h.n 8 (by decide), h.r 7 (by decide)]
    exact ag_nu (ag_ru h)
theorem css_own {r i p : Nat} : ∀ (l : List Nat) (ρ : ax_R), own ρ → (∀ j, ρ.1 8 j < 1000000) → own (l.foldl (rCs r i p) ρ)
  | [], _, h, _ => h
  | x :: l, ρ, h, h8 => by
    rw [List.foldl_cons]
    refine css_own l _ ?_ (fun y => ?_)
    · exact own_nu (k := 8) (ρ := ru ρ 7 _ _) h (by decide) (h8 _)
    · show (if 8 = 8 ∧ y = _ then ρ.1 8 _ else ρ.1 8 y) < _
      split <;> exact h8 _
theorem css_kf {r i p : Nat} : ∀ (n x : Nat) (κ : ax_R), kf κ → i < κ.1 5 r → x + n ≤ 8 → kf ((List.range' x n).foldl (rCs r i p) κ)
  | 0, _, _, h, _, _ => h
  | n + 1, x, κ, h, hi, hx => by
    rw [List.range'_succ, List.foldl_cons]
    exact css_kf n (x + 1) _ (kf_pu (v := κ.2.2 7 (8 * (6 * r + p) + x)) h hi (by omega) (h.lt 8 _)) (by rw [cs_1 (by decide)]; exact hi) (by omega)
theorem iv_copy (h : Iv κ ρ b (fun _ => True)) {r m : Nat} (hr : r < κ.1 4 0) (hm : m < 6) (hb : b < 1000000) : (rCp κ r m).1 = (rCp ρ r m).1 ∧ Iv (rCp κ r m).2 (rCp ρ r m).2 b (fun _ => True) ∧ (rCb ρ r m = false → ρ.1 5 r < 6) := by
  have hag := h.ag
  have hw := h.kf
  have ecb : rCb ρ r m = rCb κ r m := by
    unfold rCb
    rw [hag.b 1 (by decide), hag.b 0 (by decide), ag_rU hag, ag_rL hag, ag_rM hag, hag.n 5 (by decide), hag.n 6 (by decide), hag.n 10 (by decide), ag_rAc hag, ag_rWr hag]
  have ecp : rCp ρ r m = if rM κ r = 0 then (-5, ρ) else if rCb κ r m = true then (-3, ρ) else (nI (rM (rCq ρ r m) r), rCq ρ r m) := by
    unfold rCp
    rw [ag_rM hag, ecb]
  have hroom : rCb κ r m = false → κ.1 5 r < 6 ∧ (∀ s, s < κ.1 5 r → κ.1 6 (6 * r + s) ≠ m) ∧ ¬ rM κ r = 3 ∧ ∀ t, t < κ.1 10 0 → rAc κ t = true → rWr κ t r = false := fun q => by
    unfold rCb at q
    simp only [Bool.or_eq_false_iff] at q
    obtain ⟨⟨q1, q2⟩, q3, q4⟩ := q
    have hno : ∀ s, s < κ.1 5 r → κ.1 6 (6 * r + s) ≠ m := pm_false (by rw [pm_eq]; exact q3)
    refine ⟨c_room hw hm hno, hno, of_decide_eq_false q2, fun t ht hac => ?_⟩
    have := List.any_eq_false.mp q4 t (List.mem_range'_1.mpr (by omega))
    rw [hac, Bool.true_and] at this
    simpa using this
  refine ⟨?_, ?_, fun q => by rw [ecb] at q; rw [hag.n 5 (by decide)]; exact (hroom q).1⟩
  all_goals rw [ecp]
  all_goals unfold rCp
  all_goals by_cases z : rM κ r = 0
  · rw [if_pos z, if_pos z]
  · rw [if_neg z, if_neg z]
    by_cases z2 : rCb κ r m = true
    · rw [if_pos z2, if_pos z2]
    · rw [if_neg z2, if_neg z2]
      show nI (rM (rCq κ r m) r) = nI (rM (rCq ρ r m) r)
      have : ag (rCq κ r m) (rCq ρ r m) := by
        unfold rCq
        rw [ag_rL hag, hag.n 5 (by decide)]
        exact css_ag _ _ _ (ag_nu (ag_nu hag))
      rw [ag_rM this]
  · rw [if_pos z, if_pos z]; exact h
  · rw [if_neg z, if_neg z]
    by_cases z2 : rCb κ r m = true
    · rw [if_pos z2, if_pos z2]; exact h
    · rw [if_neg z2, if_neg z2]
      obtain ⟨hc6, hno, h3, hact⟩ := hroom (by simpa using z2)
      show Iv (rCq κ r m) (rCq ρ r m) b _
      have hag2 : ag (rCq κ r m) (rCq ρ r m) := by
        unfold rCq
        rw [ag_rL hag, hag.n 5 (by decide)]
        exact css_ag _ _ _ (ag_nu (ag_nu hag))
      have hk : kf (rCq κ r m) := css_kf 8 0 _ (kf_ad hw hr hm hc6 hno) (by show κ.1 5 r < (cAd κ r m).1 5 r; rw [ad_5, if_pos rfl]; omega) (by omega)
      have ho : own (rCq ρ r m) := by
        refine css_own _ _ (own_nu (own_nu h.ow (by decide) ?_) (by decide) (by omega)) (fun j => ?_)
        · rw [hag.n 5 (by decide)]; omega
        · show ρ.1 8 j < _
          rw [hag.n 8 (by decide)]; exact hw.lt 8 j
      have N : ∀ k, k ∉ [5, 6, 8] → (rCq κ r m).1 k = κ.1 k := fun k hk => by
        simp only [List.mem_cons, List.not_mem_nil, or_false, not_or] at hk
        funext j
        exact (css_1 hk.2.2 _ _).trans (ad_n hk.1 hk.2.1)
      have B : (rCq κ r m).2.1 = κ.2.1 := css_b _ _
      have R9 : (rCq κ r m).2.2 9 = κ.2.2 9 := funext fun j => css_r (by decide) _ _
      have e5 : ∀ x, (rCq κ r m).1 5 x = if x = r then κ.1 5 r + 1 else κ.1 5 x := fun x => (css_1 (by decide) _ _).trans ad_5
      have e6 : ∀ x, (rCq κ r m).1 6 x = if x = 6 * r + κ.1 5 r then m else κ.1 6 x := fun x => (css_1 (by decide) _ _).trans ad_6
      have P : ∀ k, k ∉ [5, 6, 8] → (rCq ρ r m).1 k = ρ.1 k := fun k hk => by
        simp only [List.mem_cons, List.not_mem_nil, or_false, not_or] at hk
        funext j
        refine (css_1 hk.2.2 _ _).trans ?_
        simp [nu, hk.1, hk.2.1]
      have PR : (rCq ρ r m).2.2 26 = ρ.2.2 26 := funext fun j => css_r (by decide) _ _
      have at_ : ∀ x, x ≠ r → cPr (rCq κ r m) x = cPr κ x ∧ rM (rCq κ r m) x = rM κ x ∧ ∀ s, bk (rCq κ r m) x s = bk κ x s := fun x hx => bk_at (by rw [e5, if_neg hx]) (fun s hs => by rw [e6, if_neg (by have := hw.c6 x; omega)]) (by rw [B])
      refine ⟨hk, hag2, ho, fun j => ?_, by rw [B]; exact h.um, fun x => ?_, ?_, ?_, ?_, ?_, ?_, ?_, ?_, ?_, ?_, fun x hx hac _ => ?_, ?_, ?_⟩
      · rw [N 21 (by decide), N 3 (by decide), P 13 (by decide)]
        refine ⟨?_, (h.bd j).2⟩
        unfold rCq
        exact css_8 _ _ (fun y => (show (nu (nu κ 5 r (κ.1 5 r + 1)) 6 (6 * r + κ.1 5 r) m).1 8 y ≤ b from (h.bd y).1)) j
      · by_cases y : x = r
        · rw [y]
          have h33 := h.m3 r
          unfold rM
          rw [e5, if_pos rfl, rg_split (Nat.le_succ _), List.countP_append, show κ.1 5 r + 1 - κ.1 5 r = 1 by omega]
          have c1 : (List.range' 0 (κ.1 5 r)).countP (rO (rCq κ r m) r) = rM κ r := by
            unfold rM
            refine cP_co fun s hs => ?_
            have := List.mem_range'_1.mp hs
            unfold rO
            rw [e6, if_neg (by omega), B]
          have c2 : (List.range' (κ.1 5 r) 1).countP (rO (rCq κ r m) r) ≤ 1 := List.countP_le_length
          omega
        · rw [(at_ x y).2.1]; exact h.m3 x
      · rw [N 14 (by decide), N 18 (by decide), N 19 (by decide)]; exact h.it
      · rw [N 4 (by decide), N 10 (by decide), N 14 (by decide), N 18 (by decide), N 19 (by decide), R9, B]; exact h.lk
      · rw [N 17 (by decide), N 16 (by decide), N 47 (by decide)]; exact h.pa
      · rw [N 17 (by decide), N 16 (by decide), N 47 (by decide)]; exact h.pb
      · rw [N 12 (by decide), N 16 (by decide)]; exact h.pc
      · rw [P 25 (by decide), P 27 (by decide), PR, B]; exact h.r1
      · rw [P 25 (by decide), P 27 (by decide), PR, B]; exact h.r2
      · rw [P 25 (by decide), P 27 (by decide), PR]; exact h.r3
      · unfold ik
        rw [N 10 (by decide), N 14 (by decide), N 12 (by decide), N 44 (by decide), B]
        exact h.r4
      · rw [N 10 (by decide)] at hx
        have hac2 : rAc κ x = true := by unfold rAc at hac ⊢; rw [N 12 (by decide)] at hac; exact hac
        have h8 := hw.i8 x
        refine st_co (h.st x hx hac2 trivial) (by rw [N 44 (by decide)]) (by rw [N 14 (by decide)]) (by rw [N 12 (by decide)]) (by rw [P 13 (by decide)]) (fun i s hi hs => ?_)
        have hno2 : κ.2.1 22 (8 * x + i) = true → κ.1 18 (8 * x + i) ≠ r := fun q1 q2 => by
          have := List.any_eq_false.mp (hact x hx hac2) (8 * x + i) (List.mem_range'_1.mpr (by omega))
          rw [q1, decide_eq_true q2] at this
          exact this rfl
        refine cHa_co2 (by rw [N 12 (by decide)]) (by rw [B]) (by rw [N 18 (by decide)]) (by rw [N 19 (by decide)]) (fun _ => ?_) (fun _ => ?_) R9
        · cases q : κ.2.1 22 (8 * x + i) with
          | false => rfl
          | true => rw [(at_ _ (hno2 q)).2.2 s]
        · rw [B]
          cases q : κ.2.1 41 (6 * (8 * x + i) + s) with
          | false => simp
          | true =>
            have q2 := (h.r4 _ q).2.1
            rw [show (6 * (8 * x + i) + s) / 6 = 8 * x + i by omega] at q2
            rw [e5, if_neg (hno2 q2)]
      · rw [P 25 (by decide), P 13 (by decide), N 12 (by decide)]; exact h.gb
      · rw [N 10 (by decide), N 14 (by decide), N 12 (by decide), N 44 (by decide), N 18 (by decide), N 19 (by decide), B, R9]; exact h.hl
end PU10
