section PU13
variable {κ κ2 ρ ρ2 : ax_R} {b : Nat} {t r : Nat} {Q : Nat → Bool} {E E2 : Nat → Prop}
theorem own_co (h : own ρ) (e : ∀ k, k ∈ [13, 25, 27, 28, 29, 44, 47] → ρ2.1 k = ρ.1 k) (e26 : ∀ k, ρ2.2.2 26 k = ρ.2.2 26 k ∨ ρ2.2.2 26 k = -9) : own ρ2 := by
  obtain ⟨o1, o2, o3, o4, o5, o6, o7, o8, o9⟩ := h
  refine ⟨by rw [e 13 (by decide)]; exact o1, by rw [e 25 (by decide)]; exact o2, by rw [e 28 (by decide)]; exact o3, by rw [e 29 (by decide)]; exact o4, by rw [e 44 (by decide)]; exact o5, by rw [e 47 (by decide)]; exact o6, by rw [e 27 (by decide)]; exact o7, by rw [e 25 (by decide)]; exact o8, fun k => ?_⟩
  rcases e26 k with y | y
  · rw [y]; exact o9 k
  · exact Or.inl y
theorem ag_sj {k s : Nat} (h : ag κ ρ) : ag (cSj k κ s) (cSj k ρ s) := by
  unfold cSj cRz
  rw [h.b 1 (by decide), h.n 6 (by decide), h.n 18 (by decide), h.n 8 (by decide), h.n 19 (by decide), h.n 21 (by decide), h.r 23 (by decide)]
  split
  · split
    · exact ag_nu (ag_ru h)
    · exact h
  · exact h
theorem ag_sjs {k : Nat} : ∀ (l : List Nat) (κ ρ : ax_R), ag κ ρ → ag (l.foldl (cSj k) κ) (l.foldl (cSj k) ρ)
  | [], _, _, h => h
  | s :: l, κ, ρ, h => by rw [List.foldl_cons, List.foldl_cons]; exact ag_sjs l _ _ (ag_sj h)
theorem ag_spr {cm : Bool} {i : Nat} (h : ag κ ρ) : ag (spr cm κ i) (spr cm ρ i) := by
  unfold spr cSk
  rw [h.b 22 (by decide), h.n 5 (by decide), h.n 18 (by decide)]
  split
  · split
    · exact ag_sjs _ _ _ h
    · exact h
  · exact h
theorem ag_rr2 {cm : Bool} {i : Nat} (h : ag κ ρ) : ag (rR2 t cm κ i) (rR2 t cm ρ i) := by
  rw [rr2, rr2, h.r 9 (by decide), h.n 18 (by decide), h.n 19 (by decide)]
  split
  · exact ag_ru (ag_spr h)
  · exact ag_spr h
theorem ag_rr2s {cm : Bool} : ∀ (l : List Nat) (κ ρ : ax_R), ag κ ρ → ag (l.foldl (rR2 t cm) κ) (l.foldl (rR2 t cm) ρ)
  | [], _, _, h => h
  | s :: l, κ, ρ, h => by rw [List.foldl_cons, List.foldl_cons]; exact ag_rr2s l _ _ (ag_rr2 h)
theorem rr2s_f {cm : Bool} : ∀ (l : List Nat) (ρ : ax_R), (∀ a j, a ≠ 8 → (l.foldl (rR2 t cm) ρ).1 a j = ρ.1 a j) ∧ (l.foldl (rR2 t cm) ρ).2.1 = ρ.2.1 ∧ (∀ a j, a ≠ 7 → a ≠ 9 → (l.foldl (rR2 t cm) ρ).2.2 a j = ρ.2.2 a j)
  | [], _ => ⟨fun _ _ _ => rfl, rfl, fun _ _ _ _ => rfl⟩
  | i :: l, ρ => by
    rw [List.foldl_cons]
    obtain ⟨r1, r2, r3⟩ := rr2s_f (cm := cm) l (rR2 t cm ρ i)
    refine ⟨fun a j ha => ?_, ?_, fun a j h7 h9 => ?_⟩
    · rw [r1 a j ha, rr2]
      split
      · exact spr_1 ha
      · exact spr_1 ha
    · rw [r2, rr2]
      split
      · exact spr_b
      · exact spr_b
    · rw [r3 a j h7 h9, rr2]
      split
      · rw [rk h9]; exact spr_r h7
      · exact spr_r h7
theorem rr3s : ∀ (l : List Nat) (ρ : ax_R), l.Nodup → (l.foldl (rR3 t) ρ).1 = ρ.1 ∧ (l.foldl (rR3 t) ρ).2.1 = ρ.2.1 ∧ (∀ a, a ≠ 26 → (l.foldl (rR3 t) ρ).2.2 a = ρ.2.2 a) ∧ (∀ k, (l.foldl (rR3 t) ρ).2.2 26 k = if k ∈ l ∧ ρ.2.2 26 k ≠ -9 ∧ (ρ.2.2 26 k).toNatClampNeg / 8 = t then -9 else ρ.2.2 26 k)
  | [], _, _ => ⟨rfl, rfl, fun _ _ => rfl, fun k => by simp⟩
  | i :: l, ρ, hn => by
    have hn := List.nodup_cons.mp hn
    rw [List.foldl_cons]
    obtain ⟨r1, r2, r3, r4⟩ := rr3s l (rR3 t ρ i) hn.2
    refine ⟨r1, r2, fun a ha => (r3 a ha).trans (rk ha), fun k => ?_⟩
    rw [r4]
    by_cases z : k = i
    · subst z
      rw [if_neg (fun y => hn.1 y.1)]
      show (if 26 = 26 ∧ k = k then (if ρ.2.2 26 k ≠ -9 ∧ (ρ.2.2 26 k).toNatClampNeg / 8 = t then (-9 : Int32) else ρ.2.2 26 k) else ρ.2.2 26 k) = _
      simp
    · have : (rR3 t ρ i).2.2 26 k = ρ.2.2 26 k := by simp [rR3, ru, z]
      rw [this]
      simp only [List.mem_cons, z, false_or]
theorem rvA_f {cm : Bool} : (∀ x, (cRvA κ t cm).1 12 x = if x = t then (if cm = true then 7 else 8) else κ.1 12 x) ∧ (∀ x, (cRvA κ t cm).1 44 x = if x = t then 0 else κ.1 44 x) ∧ (cRvA κ t cm).1 8 = ((rI κ t).foldl (spr cm) κ).1 8 ∧ (∀ k, k ≠ 15 → (cRvA κ t cm).2.1 k = κ.2.1 k) ∧ (∀ x, (cRvA κ t cm).2.1 15 x = if x = t then (κ.2.1 15 t || cm) else κ.2.1 15 x) ∧ (cRvA κ t cm).2.2 = ((rI κ t).foldl (spr cm) κ).2.2 := by
  cases cm with
  | true =>
    have e : spr true = cSk := by funext κ i; exact if_pos rfl
    unfold cRvA
    rw [if_pos rfl, e]
    have s1 := fun a j (h : a ≠ 8) => (sks_1 (j := j) h (rI κ t) κ).1
    have s2 := (sks_1 (a := 0) (j := 0) (by decide) (rI κ t) κ).2
    refine ⟨fun x => ?_, fun x => ?_, rfl, fun k hk => ?_, fun x => ?_, rfl⟩
    · by_cases z : x = t
      · simp [nu, z]
      · simp only [nu, bu, z, and_false, if_false]; exact s1 12 x (by decide)
    · by_cases z : x = t
      · simp [nu, z]
      · simp only [nu, bu, z, and_false, if_false]; exact s1 44 x (by decide)
    · funext x
      simp only [nu, bu, hk, false_and, if_false]
      rw [s2]
    · by_cases z : x = t
      · simp [nu, bu, z]
      · simp only [nu, bu, z, and_false, if_false]; rw [s2]
  | false =>
    have e : ∀ (l : List Nat) (κ : ax_R), l.foldl (spr false) κ = κ := by
      intro l
      induction l with
      | nil => intro κ; rfl
      | cons x l ih => intro κ; rw [List.foldl_cons, ih]; exact if_neg (by simp)
    unfold cRvA
    rw [if_neg (by simp), e]
    refine ⟨fun x => ?_, fun x => ?_, ?_, fun k hk => rfl, fun x => ?_, rfl⟩
    · by_cases z : x = t <;> simp [nu, z]
    · by_cases z : x = t <;> simp [nu, z]
    · funext x; simp [nu]
    · by_cases z : x = t
      · simp [nu, z]
      · simp [nu, z]
theorem spr8 {cm : Bool} {B : Nat} : ∀ (l : List Nat) (κ : ax_R), (∀ j, κ.1 21 j + 1 ≤ B) → (∀ j, κ.1 8 j ≤ B) → ∀ j, (l.foldl (spr cm) κ).1 8 j ≤ B
  | [], _, _, h8, j => h8 j
  | i :: l, κ, h21, h8, j => by
    rw [List.foldl_cons]
    refine spr8 l _ (fun y => by rw [spr_1 (by decide)]; exact h21 y) (fun y => ?_) j
    have key : ∀ (m : List Nat) (κ : ax_R), (∀ j, κ.1 21 j + 1 ≤ B) → (∀ j, κ.1 8 j ≤ B) → ∀ j, (m.foldl (cSj i) κ).1 8 j ≤ B := by
      intro m
      induction m with
      | nil => intro κ _ h8; exact h8
      | cons s m ih =>
        intro κ h21 h8
        rw [List.foldl_cons]
        refine ih _ (fun y => by rw [sj_1 (by decide)]; exact h21 y) (fun y => ?_)
        unfold cSj cRz cPu
        split
        · split
          · show (if 8 = 8 ∧ y = _ then κ.1 21 i + 1 else κ.1 8 y) ≤ B
            split
            · exact h21 i
            · exact h8 y
          · exact h8 y
        · exact h8 y
    unfold spr cSk
    split
    · split
      · exact key _ _ h21 h8 y
      · exact h8 y
    · exact h8 y
/-- a transaction is recovered -/
theorem iv_recover (h : Iv κ ρ b E) (hq : wasI κ ρ Q) (ht : t < κ.1 10 0) (h21 : ∀ j, κ.1 21 j + 1 ≤ b) (hB : b < 1000000) (hE : ∀ x, x ≠ t → E2 x → E x) : Iv (cRv κ t Q) (rRv ρ t) b E2 ∧ wasI (cRv κ t Q) (rRv ρ t) Q := by
  have hw := h.kf
  have ha := h.ag
  have h60 := hw.nT
  have h8 := hw.i8 t
  have hkf : kf (cRv κ t Q) := kf_rv hw ht (fun j => by have := h21 j; omega)
  have hcm := cmt_eq h hq ht
  generalize hc : cIf κ t Q = cm at hcm
  have hκ : cRv κ t Q = (rI κ t).foldl (cLg t) (cRvA κ t cm) := by unfold cRv; rw [hc]
  have hρ : rRv ρ t = rRvC ((List.range' 0 (ρ.1 25 0)).foldl (rR3 t) ((rI κ t).foldl (rR2 t cm) ρ)) t cm := by
    unfold rRv rRvB rRvA
    rw [hcm, ag_rI ha]
  obtain ⟨A1, A2, A3, A4, A5, A6⟩ := rvA_f (κ := κ) (t := t) (cm := cm)
  obtain ⟨L1, L2, L3, L4⟩ := lgs_r (t := t) (rI κ t) (cRvA κ t cm)
  obtain ⟨D1, D2⟩ := rr2s (t := t) (cm := cm) (rI κ t) κ κ ⟨rfl, rfl, fun _ _ => rfl⟩
  have DA := ag_rr2s (t := t) (cm := cm) (rI κ t) κ ρ ha
  obtain ⟨P1, P2, P3⟩ := rr2s_f (t := t) (cm := cm) (rI κ t) ρ
  obtain ⟨K1, K2, K3⟩ := rr2s_f (t := t) (cm := cm) (rI κ t) κ
  obtain ⟨R1, R2, R3, R4⟩ := rr3s (t := t) (List.range' 0 (ρ.1 25 0)) ((rI κ t).foldl (rR2 t cm) ρ) rg_nd
  generalize hph : (if cm = true then 7 else 8) = ph at A1
  have hph2 : ph = 7 ∨ ph = 8 := by rw [← hph]; split; exact Or.inl rfl; exact Or.inr rfl
  -- fields of the class's state
  have k_n : ∀ a, a ≠ 8 → a ≠ 12 → a ≠ 44 → (cRv κ t Q).1 a = κ.1 a := fun a q1 q2 q3 => funext fun j => rv_1 ⟨q1, q2, q3⟩
  have k_12 : ∀ x, (cRv κ t Q).1 12 x = if x = t then ph else κ.1 12 x := fun x => by rw [hκ, lgs_1]; exact A1 x
  have k_44 : ∀ x, (cRv κ t Q).1 44 x = if x = t then 0 else κ.1 44 x := fun x => by rw [hκ, lgs_1]; exact A2 x
  have k_8 : (cRv κ t Q).1 8 = ((rI κ t).foldl (spr cm) κ).1 8 := by rw [← A3, hκ]; funext j; exact lgs_1 _ _
  have k_b : ∀ a, a ≠ 15 → a ≠ 41 → (cRv κ t Q).2.1 a = κ.2.1 a := fun a q1 q2 => by rw [hκ, L3 a q2, A4 a q1]
  have k_15 : ∀ x, (cRv κ t Q).2.1 15 x = if x = t then (κ.2.1 15 t || cm) else κ.2.1 15 x := fun x => by rw [hκ, L3 15 (by decide)]; exact A5 x
  have k_41 : ∀ e, (cRv κ t Q).2.1 41 e = if e / 48 = t then false else κ.2.1 41 e := fun e => by
    rw [hκ, L4, A4 41 (by decide)]
    by_cases z : e / 6 ∈ rI κ t
    · have := List.mem_range'_1.mp z
      rw [if_pos z, if_pos (by omega)]
    · rw [if_neg z]
      split
      · rename_i y
        cases q : κ.2.1 41 e with
        | false => rfl
        | true =>
          exfalso
          have q1 := (h.r4 e q).1.2
          rw [show e / 6 / 8 = t by omega] at q1
          exact z (List.mem_range'_1.mpr (by omega))
      · rfl
  have k_9 : (cRv κ t Q).2.2 9 = (rI κ t).foldl (ulk κ t) (κ.2.2 9) := by
    rw [hκ, L1, A6]
    rw [ulks_co (κ := κ) (fun j => rvA_1 (by decide)) (fun j => rvA_1 (by decide))]
    congr 1
    have : ∀ (l : List Nat) (κ : ax_R), (l.foldl (spr cm) κ).2.2 9 = κ.2.2 9 := by
      intro l
      induction l with
      | nil => intro κ; rfl
      | cons x l ih => intro κ; rw [List.foldl_cons, ih]; funext j; exact spr_r (by decide)
    exact this _ _
  have k_r : ∀ a, a ≠ 9 → (cRv κ t Q).2.2 a = ((rI κ t).foldl (spr cm) κ).2.2 a := fun a q => by rw [hκ, L2 a q, A6]
  -- fields of the reference's
  have p_n : ∀ a, a ≠ 12 → (rRv ρ t).1 a = ((rI κ t).foldl (rR2 t cm) ρ).1 a := fun a q => by
    rw [hρ]
    unfold rRvC
    rw [nk q]
    show ((List.range' 0 (ρ.1 25 0)).foldl (rR3 t) ((rI κ t).foldl (rR2 t cm) ρ)).1 a = _
    rw [R1]
  have p_12 : ∀ x, (rRv ρ t).1 12 x = if x = t then ph else ρ.1 12 x := fun x => by
    rw [hρ]
    unfold rRvC
    rw [hph]
    show (if 12 = 12 ∧ x = t then ph else ((List.range' 0 (ρ.1 25 0)).foldl (rR3 t) ((rI κ t).foldl (rR2 t cm) ρ)).1 12 x) = _
    rw [R1, P1 12 x (by decide)]
    simp
  have p_own : ∀ a, a ≠ 8 → a ≠ 12 → (rRv ρ t).1 a = ρ.1 a := fun a q1 q2 => by rw [p_n a q2]; funext j; exact P1 a j q1
  have p_b : ∀ a, a ≠ 15 → (rRv ρ t).2.1 a = ρ.2.1 a := fun a q => by
    rw [hρ]
    unfold rRvC
    show (bu _ 15 t _).2.1 a = _
    rw [bkk q, R2, P2]
  have p_15 : ∀ x, (rRv ρ t).2.1 15 x = if x = t then (ρ.2.1 15 t || cm) else ρ.2.1 15 x := fun x => by
    rw [hρ]
    unfold rRvC
    show (if 15 = 15 ∧ x = t then (((List.range' 0 (ρ.1 25 0)).foldl (rR3 t) ((rI κ t).foldl (rR2 t cm) ρ)).2.1 15 t || cm) else ((List.range' 0 (ρ.1 25 0)).foldl (rR3 t) ((rI κ t).foldl (rR2 t cm) ρ)).2.1 15 x) = _
    rw [R2, P2]
    simp
  have p_r : ∀ a, a ≠ 26 → (rRv ρ t).2.2 a = ((rI κ t).foldl (rR2 t cm) ρ).2.2 a := fun a q => by
    rw [hρ]
    exact R3 a q
  have p_26 : ∀ k, (rRv ρ t).2.2 26 k = if k < ρ.1 25 0 ∧ ρ.2.2 26 k ≠ -9 ∧ (ρ.2.2 26 k).toNatClampNeg / 8 = t then -9 else ρ.2.2 26 k := fun k => by
    rw [hρ]
    show ((List.range' 0 (ρ.1 25 0)).foldl (rR3 t) ((rI κ t).foldl (rR2 t cm) ρ)).2.2 26 k = _
    rw [R4, P3 26 k (by decide) (by decide)]
    have : (k ∈ List.range' 0 (ρ.1 25 0)) = (k < ρ.1 25 0) := by rw [List.mem_range'_1]; simp
    simp only [this]
  have hag : ag (cRv κ t Q) (rRv ρ t) := by
    refine ⟨fun a hk => ?_, fun a hk => ?_, fun a hk => ?_⟩
    · by_cases q12 : a = 12
      · subst q12
        funext x
        rw [k_12, p_12, ha.n 12 (by decide)]
      · rw [p_n a q12, ← DA.1 a hk]
        by_cases q8 : a = 8
        · subst q8
          rw [k_8, ← D1.1]
        · have q44 : a ≠ 44 := fun z => by subst z; exact absurd (by decide) hk
          rw [k_n a q8 q12 q44]
          funext j
          exact (K1 a j q8).symm
    · simp only [List.mem_cons, List.not_mem_nil, or_false, not_or] at hk
      by_cases q15 : a = 15
      · subst q15
        funext x
        rw [k_15, p_15, ha.b 15 (by decide)]
      · rw [k_b a q15 hk.2, p_b a q15, ha.b a (by simp [hk])]
    · have hk2 := hk
      simp only [List.mem_cons, List.not_mem_nil, or_false, not_or] at hk2
      rw [p_r a hk2.1, ← DA.2.2 a hk]
      by_cases q9 : a = 9
      · subst q9
        rw [k_9, D2]
      · rw [k_r a q9, D1.2.2 a q9]
  have hown : own (rRv ρ t) := own_co h.ow (fun k hk => p_own k (fun z => by subst z; revert hk; decide) (fun z => by subst z; revert hk; decide)) (fun k => by rw [p_26]; split; exact Or.inr rfl; exact Or.inl rfl)
  have live : ∀ k e, e < 2880 → ρ.2.2 26 k = nI (e / 6) → ((ρ.2.2 26 k ≠ -9 ∧ (ρ.2.2 26 k).toNatClampNeg / 8 = t) ↔ e / 48 = t) := fun k e he hk => by
    rw [hk, nI_clamp (by omega), show e / 6 / 8 = e / 48 by omega]
    exact ⟨fun y => y.2, fun y => ⟨nI_ne9 (by omega), y⟩⟩
  have p25 := p_own 25 (by decide) (by decide)
  have p27 := p_own 27 (by decide) (by decide)
  have p13 := p_own 13 (by decide) (by decide)
  refine ⟨iv_upd (t := t) h hkf hag hown (fun k hk => ?_) (fun k hk => ?_) (fun e he => by rw [k_41, if_neg he]) (fun j x hx hxT => ?_) (fun j => ?_) (fun x hx => by rw [k_12, if_neg hx]) (fun x hx => by rw [k_44, if_neg hx]) (fun x _ => by rw [p13]) ?_ (Nat.le_refl b) (by rw [p13]; exact (h.bd t).2.2.2) ?_ ?_ (fun x hx => ?_) (fun k hk => ?_) (fun e he => ?_) (fun k k2 e e2 h1 h2 h3 h4 h5 h6 h7 h9 h10 => ?_) (fun e he => ?_) (fun _ hac _ => ?_) hE ?_ (fun i _ _ _ hcc => ?_), ?_, ?_⟩
  · simp only [List.mem_cons, List.not_mem_nil, or_false, not_or] at hk
    exact k_n k hk.1 hk.2.1 hk.2.2.2.2.2.1
  · simp only [List.mem_cons, List.not_mem_nil, or_false, not_or] at hk
    exact k_b k hk.1 hk.2
  · rw [k_9]
    rcases ulks_or (κ := κ) (t := t) (rI κ t) (κ.2.2 9) j with y | ⟨y1, y2⟩
    · rw [y]
    · rw [y1, y2]
      exact ⟨fun z => absurd z.symm (nI_ne9 (by omega)), fun z => absurd ((nI_inj (by omega) (by omega)).mp z).symm hx⟩
  · rw [k_9]
    rcases ulks_or (κ := κ) (t := t) (rI κ t) (κ.2.2 9) j with y | ⟨y1, y2⟩
    · exact Or.inl y
    · exact Or.inr (Or.inl y1)
  · rw [k_8]
    exact spr8 _ _ h21 (fun j => (h.bd j).1)
  · rw [k_n 17 (by decide) (by decide) (by decide), k_n 16 (by decide) (by decide) (by decide), k_n 47 (by decide) (by decide) (by decide)]; exact h.pa
  · rw [k_n 17 (by decide) (by decide) (by decide), k_n 16 (by decide) (by decide) (by decide), k_n 47 (by decide) (by decide) (by decide)]; exact h.pb
  · rw [k_12] at hx
    rw [k_n 16 (by decide) (by decide) (by decide)]
    split at hx
    · omega
    · exact h.pc x hx
  · rw [p25] at hk
    rw [p_26, p27]
    rcases h.r1 k hk with y | ⟨e, y1, y2, y3, y4⟩
    · left
      rw [y]
      split <;> rfl
    · by_cases z : e / 48 = t
      · exact Or.inl (if_pos ⟨hk, (live k e y1 y3).mpr z⟩)
      · rw [if_neg (fun y => z ((live k e y1 y3).mp y.2))]
        exact Or.inr ⟨e, y1, by rw [k_41, if_neg z]; exact y2, y3, y4⟩
  · rw [k_41] at he
    by_cases z : e / 48 = t
    · rw [if_pos z] at he; cases he
    · rw [if_neg z] at he
      obtain ⟨y1, k, y2, y3, y4⟩ := h.r2 e he
      refine ⟨y1, k, by rw [p25]; exact y2, ?_, by rw [p27]; exact y4⟩
      rw [p_26, if_neg (fun y => z ((live k e y1 y3).mp y.2))]
      exact y3
  · rw [p25] at h2
    rw [p27] at h4 h6
    have keep : ∀ x y, (rRv ρ t).2.2 26 x = nI (y / 6) → y < 2880 → ρ.2.2 26 x = nI (y / 6) := fun x y q1 q2 => by
      rw [p_26] at q1
      split at q1
      · exact absurd q1.symm (nI_ne9 (by omega))
      · exact q1
    exact h.r3 k k2 e e2 h1 h2 (keep k e h3 h7) h4 (keep k2 e2 h5 h9) h6 h7 h9 h10
  · rw [k_41] at he
    by_cases z : e / 48 = t
    · rw [if_pos z] at he; cases he
    · rw [if_neg z] at he
      obtain ⟨q1, q2, q3, q4, q5⟩ := h.r4 e he
      refine ⟨?_, by rw [k_b 22 (by decide) (by decide)]; exact q2, ?_⟩
      · unfold ik; rw [k_n 10 (by decide) (by decide) (by decide), k_n 14 (by decide) (by decide) (by decide)]; exact q1
      · rw [k_12, if_neg z, k_44, if_neg z]; exact ⟨q3, q4, q5⟩
  · have := rAc_16 hac
    rw [k_12, if_pos rfl] at this
    omega
  · obtain ⟨g, a1, a2, a3, a4⟩ := h.gb
    refine ⟨g, by rw [p25]; exact a1, a2, fun x hx => ?_, fun x hx => ?_⟩
    · rw [k_12] at hx
      split at hx
      · omega
      · exact a3 x hx
    · rw [k_12] at hx
      rw [p13]
      split at hx
      · omega
      · exact a4 x hx
  · rw [k_12, if_pos rfl] at hcc
    omega
  · intro m hm
    rw [p_b 2 (by decide)]
    exact hq.1 m hm
  · intro r hr
    rw [k_n 4 (by decide) (by decide) (by decide)] at hr
    rw [p_r 31 (by decide), k_n 5 (by decide) (by decide) (by decide), k_n 6 (by decide) (by decide) (by decide), P3 31 r (by decide) (by decide)]
    exact hq.2 r hr
end PU13
