section PU11
variable {κ κ2 ρ ρ2 : ax_R} {b : Nat} {t r q p : Nat}
theorem rN_ag (h : ag κ ρ) : ag (rN κ t r q p) (rN ρ t r q p) := by
  unfold rN
  rw [h.n 14 (by decide), h.n 8 (by decide), h.r 7 (by decide)]
  exact ag_nu (ag_ru (ag_nu (ag_nu (ag_nu h))))
theorem iv_item (h : Iv κ ρ b (fun _ => True)) (ht : t < κ.1 10 0) (hr : r < κ.1 4 0) (hq : q < 8) (hp : κ.1 12 t = 0) (hio : rIo κ t r q = none) (h8 : κ.1 14 t < 8) (hb : b < 1000000) : Iv (rN κ t r q p) (rN ρ t r q p) b (fun _ => True) := by
  have hw := h.kf
  have hag := h.ag
  have h60 := hw.nT
  have h6 := hw.nR
  have idx : ∀ x i, i < 8 → (x ≠ t ∨ i ≠ κ.1 14 t) → 8 * x + i ≠ 8 * t + κ.1 14 t := fun x i hi hx => by omega
  have no : ∀ i, i < κ.1 14 t → ¬ (κ.1 18 (8 * t + i) = r ∧ κ.1 19 (8 * t + i) = q) := fun i hi z => by
    have := List.find?_eq_none.mp hio (8 * t + i) (List.mem_range'_1.mpr (by omega))
    simp [z.1, z.2] at this
  have P : ∀ k, k ∉ [14, 18, 19, 21] → (rN ρ t r q p).1 k = ρ.1 k := fun k hk => by
    simp only [List.mem_cons, List.not_mem_nil, or_false, not_or] at hk
    funext x
    exact ni_n hk
  have N : ∀ k, k ∉ [14, 18, 19, 21] → (rN κ t r q p).1 k = κ.1 k := fun k hk => by
    simp only [List.mem_cons, List.not_mem_nil, or_false, not_or] at hk
    funext x
    exact ni_n hk
  have PR : (rN ρ t r q p).2.2 26 = ρ.2.2 26 := funext fun x => ni_r (by decide)
  have R9 : (rN κ t r q p).2.2 9 = κ.2.2 9 := funext fun x => ni_r (by decide)
  have B : (rN κ t r q p).2.1 = κ.2.1 := rfl
  have le14 : ∀ x i, i < κ.1 14 x → i < (rN κ t r q p).1 14 x := fun x i hi => by
    rw [ni_14]
    split
    · rename_i e; rw [e] at hi; omega
    · exact hi
  have f14 : ∀ x, x ≠ t → (rN κ t r q p).1 14 x = κ.1 14 x := fun x hx => by rw [ni_14, if_neg hx]
  have s18 : ∀ x i, i < κ.1 14 x → (rN κ t r q p).1 18 (8 * x + i) = κ.1 18 (8 * x + i) ∧ (rN κ t r q p).1 19 (8 * x + i) = κ.1 19 (8 * x + i) := fun x i hi => by
    have := hw.i8 x
    have : 8 * x + i ≠ 8 * t + κ.1 14 t := idx x i (by omega) (by
      by_cases e : x = t
      · right; rw [e] at hi; omega
      · left; exact e)
    rw [ni_18, ni_19, if_neg this, if_neg this]
    exact ⟨rfl, rfl⟩
  obtain ⟨cb, cm, -, -⟩ := bk_co (κ := κ) (κ2 := rN κ t r q p) (N 5 (by decide)) (N 6 (by decide)) rfl
  refine ⟨kf_ni hw ht h8 hr hq, rN_ag hag, ?_, fun j => ?_, h.um, by rw [cm]; exact h.m3, fun x i j hi hj e1 e2 => ?_, fun x y hx hy => ?_, ?_, ?_, ?_, ?_, ?_, ?_, fun e he => ?_, fun x hx hac _ => ?_, ?_, fun x i hx hi hwr hc => ?_⟩
  · unfold rN
    have o1 : own (nu ρ 14 t (ρ.1 14 t + 1)) := own_nu h.ow (by decide) (by rw [hag.n 14 (by decide)]; omega)
    have o2 : own (nu (nu ρ 14 t (ρ.1 14 t + 1)) 18 (8 * t + ρ.1 14 t) r) := own_nu o1 (by decide) (by omega)
    have o3 : own (nu (nu (nu ρ 14 t (ρ.1 14 t + 1)) 18 (8 * t + ρ.1 14 t) r) 19 (8 * t + ρ.1 14 t) q) := own_nu o2 (by decide) (by omega)
    exact own_nu (ρ := ru (nu (nu (nu ρ 14 t (ρ.1 14 t + 1)) 18 (8 * t + ρ.1 14 t) r) 19 (8 * t + ρ.1 14 t) q) 20 (8 * t + ρ.1 14 t) (ρ.2.2 7 (8 * (6 * r + p) + q))) o3 (by decide) (by rw [hag.n 8 (by decide)]; exact hw.lt 8 _)
  · rw [N 8 (by decide), N 3 (by decide), P 13 (by decide), ni_21]
    refine ⟨(h.bd j).1, ?_, (h.bd j).2.2⟩
    split
    · exact (h.bd _).1
    · exact (h.bd j).2.1
  · by_cases z : x = t
    · subst z
      rw [ni_14, if_pos rfl] at hi hj
      by_cases z1 : i = κ.1 14 x
      · by_cases z2 : j = κ.1 14 x
        · omega
        · exfalso
          obtain ⟨f1, f2⟩ := s18 x j (by omega)
          rw [f1, z1, ni_18, if_pos rfl] at e1
          rw [f2, z1, ni_19, if_pos rfl] at e2
          exact no j (by omega) ⟨e1.symm, e2.symm⟩
      · obtain ⟨f1, f2⟩ := s18 x i (by omega)
        by_cases z2 : j = κ.1 14 x
        · exfalso
          rw [f1, z2, ni_18, if_pos rfl] at e1
          rw [f2, z2, ni_19, if_pos rfl] at e2
          exact no i (by omega) ⟨e1, e2⟩
        · obtain ⟨f3, f4⟩ := s18 x j (by omega)
          rw [f1, f3] at e1
          rw [f2, f4] at e2
          exact h.it x i j (by omega) (by omega) e1 e2
    · rw [f14 x z] at hi hj
      rw [(s18 x i hi).1, (s18 x j hj).1] at e1
      rw [(s18 x i hi).2, (s18 x j hj).2] at e2
      exact h.it x i j hi hj e1 e2
  · rw [N 4 (by decide)] at hx
    rw [R9, N 10 (by decide)]
    rcases h.lk x y hx hy with z | ⟨t2, i, z1, z2, z3, z4, z5, z6⟩
    · exact Or.inl z
    · exact Or.inr ⟨t2, i, z1, le14 t2 i z2, z3, by rw [(s18 t2 i z2).1]; exact z4, by rw [(s18 t2 i z2).2]; exact z5, z6⟩
  · rw [N 17 (by decide), N 16 (by decide), N 47 (by decide)]; exact h.pa
  · rw [N 17 (by decide), N 16 (by decide), N 47 (by decide)]; exact h.pb
  · rw [N 12 (by decide), N 16 (by decide)]; exact h.pc
  · rw [P 25 (by decide), P 27 (by decide), PR]; exact h.r1
  · rw [P 25 (by decide), P 27 (by decide), PR]; exact h.r2
  · rw [P 25 (by decide), P 27 (by decide), PR]; exact h.r3
  · obtain ⟨q1, q2⟩ := h.r4 e he
    refine ⟨⟨by rw [N 10 (by decide)]; exact q1.1, le14 _ _ q1.2⟩, ?_⟩
    rw [N 12 (by decide), N 44 (by decide)]
    exact q2
  · rw [N 10 (by decide)] at hx
    have hac2 : rAc κ x = true := by unfold rAc at hac ⊢; rw [N 12 (by decide)] at hac; exact hac
    have z : x ≠ t := fun e => by have := rAc_16 hac2; rw [e, hp] at this; omega
    have h8x := hw.i8 x
    refine st_co (h.st x hx hac2 trivial) (by rw [N 44 (by decide)]) (f14 x z) (by rw [N 12 (by decide)]) (by rw [P 13 (by decide)]) (fun i s hi hs => ?_)
    exact cHa_co (by rw [N 12 (by decide)]) rfl (s18 x i hi).1 (s18 x i hi).2 (fun _ => by rw [cb]) (fun _ => ⟨rfl, by rw [N 5 (by decide)]⟩) (fun _ => by rw [R9])
  · rw [P 25 (by decide), P 13 (by decide), N 12 (by decide)]; exact h.gb
  · rw [N 10 (by decide)] at hx
    rw [N 12 (by decide), N 44 (by decide)] at hc
    have z : x ≠ t := fun e => by rw [e, hp] at hc; omega
    rw [f14 x z] at hi
    rw [R9, (s18 x i hi).1, (s18 x i hi).2]
    exact h.hl x i hx hi hwr hc
theorem iv_wr (h : Iv κ ρ b (fun _ => True)) {k : Nat} {v : Int32} (hik : ik κ k) (hp : κ.1 12 (k / 8) = 0) : Iv (ru (bu κ 22 k true) 23 k v) (ru (bu ρ 22 k true) 23 k v) b (fun _ => True) := by
  have hw := h.kf
  have e22 : ∀ x, (ru (bu κ 22 k true) 23 k v).2.1 22 x = if x = k then true else κ.2.1 22 x := fun x => by simp [ru, bu]
  have n22 : ∀ x, κ.2.1 22 x = true → (ru (bu κ 22 k true) 23 k v).2.1 22 x = true := fun x hx => by rw [e22, hx]; split <;> rfl
  refine ⟨kf_wr hw hik, ag_ru (ag_bu h.ag), h.ow, h.bd, h.um, h.m3, h.it, fun x y hx hy => ?_, h.pa, h.pb, h.pc, h.r1, h.r2, h.r3, fun e he => ?_, fun x hx hac _ => ?_, h.gb, fun x i hx hi hwr hc => ?_⟩
  · rcases h.lk x y hx hy with z | ⟨t2, i, z1, z2, z3, z4, z5, z6⟩
    · exact Or.inl z
    · exact Or.inr ⟨t2, i, z1, z2, z3, z4, z5, n22 _ z6⟩
  · obtain ⟨q1, q2, q3⟩ := h.r4 e he
    exact ⟨q1, n22 _ q2, q3⟩
  · have hac2 : rAc κ x = true := hac
    have h8 := hw.i8 x
    have z : x ≠ k / 8 := fun e => by have := rAc_16 hac2; rw [e, hp] at this; omega
    refine st_co (h.st x hx hac2 trivial) rfl rfl rfl rfl (fun i s hi hs => ?_)
    have hi8 : i < 8 := by have hi : i < κ.1 14 x := hi; omega
    exact cHa_co rfl (by rw [e22, if_neg (by omega)]) rfl rfl (fun _ => rfl) (fun _ => ⟨rfl, rfl⟩) (fun _ => Iff.rfl)
  · have hc : (κ.1 12 x = 1 ∧ 6 * i < κ.1 44 x) ∨ κ.1 12 x = 2 ∨ κ.1 12 x = 3 ∨ (κ.1 12 x = 4 ∧ κ.1 44 x ≤ 6 * i) := hc
    have z : x ≠ k / 8 := fun e => by rw [e, hp] at hc; omega
    have h8 := hw.i8 x
    have hi : i < κ.1 14 x := hi
    rw [e22, if_neg (by omega)] at hwr
    exact h.hl x i hx hi hwr hc
theorem iv_reach (h : Iv κ ρ b (fun _ => True)) (ht : t < κ.1 10 0) (hr : r < κ.1 4 0) (hq : q < 8) (hb : b < 1000000) : (cAc κ t r q = 0 → (rR ρ t r q).1 = nI (cIx κ t r q) ∧ Iv (cIs κ t r q) (rR ρ t r q).2 b (fun _ => True) ∧ κ.1 12 t = 0) ∧ (¬ cAc κ t r q = 0 → rR ρ t r q = (cAc κ t r q, ρ) ∧ cAc κ t r q < 0) := by
  have hag := h.ag
  have hw := h.kf
  have e : rR ρ t r q = if κ.1 12 t ≠ 0 then (-3, ρ) else if rM κ r = 0 then (-5, ρ) else
      if κ.2.1 0 (κ.1 11 t) = false ∨ rU κ r ((cPr κ r).getD 0) = false ∨ (rIo κ t r q = none ∧ κ.2.2 9 (8 * r + q) ≠ -9) then (-6, ρ) else
      match rIo κ t r q with
      | some j => (nI j, ρ)
      | none => if κ.1 14 t = 8 then (-4, ρ) else (nI (8 * t + κ.1 14 t), rN ρ t r q ((cPr κ r).getD 0)) := by
    unfold rR
    rw [hag.n 12 (by decide), ag_rM hag, hag.b 0 (by decide), hag.n 11 (by decide), ag_rU hag, ag_rL hag, cPr_eq, ag_rIo hag, hag.r 9 (by decide), hag.n 14 (by decide)]
    rfl
  unfold cIs cIx
  rw [e]
  unfold cAc
  by_cases h1 : κ.1 12 t ≠ 0
  · rw [if_pos h1, if_pos h1]
    exact ⟨fun z => (by cases z), fun _ => ⟨rfl, by decide⟩⟩
  · rw [if_neg h1, if_neg h1]
    have hp0 : κ.1 12 t = 0 := by simpa using h1
    cases hp : cPr κ r with
    | none =>
      rw [if_pos (cPr_none.mp hp)]
      exact ⟨fun z => (by cases z), fun _ => ⟨rfl, (by decide : (-5 : Int32) < 0)⟩⟩
    | some p =>
      have hM : ¬ rM κ r = 0 := by rw [← cPr_none, hp]; simp
      rw [if_neg hM]
      show ((if κ.2.1 0 (κ.1 11 t) = false ∨ κ.2.1 0 (κ.1 6 (6 * r + p)) = false then (-6 : Int32) else if rIo κ t r q ≠ none then 0 else if κ.2.2 9 (8 * r + q) ≠ -9 then -6 else if 8 ≤ κ.1 14 t then -4 else 0) = 0 → _) ∧ (¬ (if κ.2.1 0 (κ.1 11 t) = false ∨ κ.2.1 0 (κ.1 6 (6 * r + p)) = false then (-6 : Int32) else if rIo κ t r q ≠ none then 0 else if κ.2.2 9 (8 * r + q) ≠ -9 then -6 else if 8 ≤ κ.1 14 t then -4 else 0) = 0 → _ = (if κ.2.1 0 (κ.1 11 t) = false ∨ κ.2.1 0 (κ.1 6 (6 * r + p)) = false then (-6 : Int32) else if rIo κ t r q ≠ none then 0 else if κ.2.2 9 (8 * r + q) ≠ -9 then -6 else if 8 ≤ κ.1 14 t then -4 else 0, ρ) ∧ (if κ.2.1 0 (κ.1 11 t) = false ∨ κ.2.1 0 (κ.1 6 (6 * r + p)) = false then (-6 : Int32) else if rIo κ t r q ≠ none then 0 else if κ.2.2 9 (8 * r + q) ≠ -9 then -6 else if 8 ≤ κ.1 14 t then -4 else 0) < 0)
      show _ ∧ _
      have eU : rU κ r ((some p).getD 0) = κ.2.1 0 (κ.1 6 (6 * r + p)) := rfl
      rw [eU]
      by_cases hU : κ.2.1 0 (κ.1 11 t) = false ∨ κ.2.1 0 (κ.1 6 (6 * r + p)) = false
      · rw [if_pos hU, if_pos (by rcases hU with y | y; exact Or.inl y; exact Or.inr (Or.inl y))]
        exact ⟨fun z => (by cases z), fun _ => ⟨rfl, by decide⟩⟩
      · rw [if_neg hU]
        have hU1 : ¬ κ.2.1 0 (κ.1 11 t) = false := fun z => hU (Or.inl z)
        have hU2 : ¬ κ.2.1 0 (κ.1 6 (6 * r + p)) = false := fun z => hU (Or.inr z)
        cases hio : rIo κ t r q with
        | some j =>
          rw [if_pos (by simp), if_neg (by rintro (y | y | ⟨y, -⟩); exact hU1 y; exact hU2 y; cases y)]
          exact ⟨fun _ => ⟨rfl, h, hp0⟩, fun z => absurd rfl z⟩
        | none =>
          rw [if_neg (by simp)]
          by_cases hl : κ.2.2 9 (8 * r + q) = -9
          · have hU3 : ¬ (κ.2.1 0 (κ.1 11 t) = false ∨ κ.2.1 0 (κ.1 6 (6 * r + p)) = false ∨ ((none : Option Nat) = none ∧ κ.2.2 9 (8 * r + q) ≠ -9)) := by
              rintro (y | y | ⟨-, y⟩)
              · exact hU1 y
              · exact hU2 y
              · exact y hl
            rw [if_neg (show ¬ κ.2.2 9 (8 * r + q) ≠ -9 from fun z => z hl), if_neg hU3]
            have h8 := hw.i8 t
            by_cases hf : κ.1 14 t = 8
            · rw [if_pos (show 8 ≤ κ.1 14 t by omega), if_pos hf]
              exact ⟨fun z => (by cases z), fun _ => ⟨rfl, by decide⟩⟩
            · rw [if_neg (show ¬ 8 ≤ κ.1 14 t by omega), if_neg hf]
              exact ⟨fun _ => ⟨rfl, iv_item h ht hr hq hp0 hio (by omega) hb, hp0⟩, fun z => absurd rfl z⟩
          · rw [if_pos hl, if_pos (Or.inr (Or.inr ⟨rfl, hl⟩))]
            exact ⟨fun z => (by cases z), fun _ => ⟨rfl, by decide⟩⟩
theorem iv_read (h : Iv κ ρ b (fun _ => True)) (ht : t < κ.1 10 0) (hr : r < κ.1 4 0) (hq : q < 8) (hb : b < 1000000) : (cRd κ t r q).1 = (rRd ρ t r q).1 ∧ Iv (cRd κ t r q).2 (rRd ρ t r q).2 b (fun _ => True) := by
  obtain ⟨c1, c2⟩ := iv_reach h ht hr hq hb
  unfold cRd rRd
  by_cases z : cAc κ t r q = 0
  · obtain ⟨d1, d2, d3⟩ := c1 z
    have hik := (cIs_ok h.kf ht hr hq z).2.1
    have h480 : cIx κ t r q < 480 := by
      have := hik.1
      have := d2.kf.nT
      omega
    have nn : ¬ nI (cIx κ t r q) < 0 := nI_nn (by omega)
    rw [if_pos z, d1, if_neg nn, nI_clamp (by omega)]
    have a := d2.ag
    refine ⟨?_, d2⟩
    show _ = (if (rR ρ t r q).2.2.1 22 _ = true then _ else _)
    rw [a.b 22 (by decide), a.r 23 (by decide), a.r 20 (by decide)]
  · obtain ⟨d1, d2⟩ := c2 z
    rw [if_neg z, d1, if_pos d2]
    exact ⟨rfl, h⟩
theorem iv_write (h : Iv κ ρ b (fun _ => True)) (ht : t < κ.1 10 0) (hr : r < κ.1 4 0) (hq : q < 8) (hb : b < 1000000) {v : Int32} : (cWt κ t r q v).1 = (rWt ρ t r q v).1 ∧ Iv (cWt κ t r q v).2 (rWt ρ t r q v).2 b (fun _ => True) := by
  obtain ⟨c1, c2⟩ := iv_reach h ht hr hq hb
  unfold cWt rWt
  by_cases z : cAc κ t r q = 0
  · obtain ⟨d1, d2, d3⟩ := c1 z
    obtain ⟨-, hik, e10⟩ := cIs_ok h.kf ht hr hq z
    have h480 : cIx κ t r q < 480 := by
      have := hik.1
      have := d2.kf.nT
      omega
    have nn : ¬ nI (cIx κ t r q) < 0 := nI_nn (by omega)
    rw [if_pos z, d1, if_neg nn, nI_clamp (by omega)]
    have hk8 : cIx κ t r q / 8 = t := by
      unfold cIx
      cases hio : rIo κ t r q with
      | some k =>
        obtain ⟨-, -, -, g1, g2⟩ := io_ik h.kf ht hio
        have := h.kf.i8 t
        show k / 8 = t
        omega
      | none =>
        obtain ⟨p, -, g⟩ := cAc_0 z
        have := g hio
        show (8 * t + κ.1 14 t) / 8 = t
        omega
    have hp : (cIs κ t r q).1 12 (cIx κ t r q / 8) = 0 := by
      rw [hk8]
      unfold cIs
      split
      · exact d3
      · rw [ni_n (by decide)]; exact d3
    have d4 := iv_wr (v := v) d2 hik hp
    refine ⟨?_, d4⟩
    show nI (rW (cWs κ t r q v) t) = nI (rW _ t)
    rw [ag_rW d4.ag]
    rfl
  · obtain ⟨d1, d2⟩ := c2 z
    rw [if_neg z, d1, if_pos d2]
    exact ⟨rfl, h⟩
end PU11
