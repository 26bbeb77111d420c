section PU9
variable {κ κ2 ρ ρ2 : ax_R} {b : Nat} {t : Nat}
theorem iv_run : ∀ (n : Nat) (κ ρ : ax_R) (b : Nat), Iv κ ρ b (fun _ => True) → t < κ.1 10 0 → b + n < 1000000 → (cRn n κ t).1 = (rRn n ρ t).1 ∧ Iv (cRn n κ t).2 (rRn n ρ t).2 (b + n) (fun _ => True)
  | 0, κ, ρ, b, h, _, _ => ⟨rfl, h⟩
  | n + 1, κ, ρ, b, h, ht, hb => by
    obtain ⟨g1, g2⟩ := iv_go h ht (by omega)
    unfold cRn rRn
    rw [ag_rAc h.ag]
    by_cases hac : rAc κ t = false
    · have e1 : cTa κ t = (-3, κ) := by unfold cTa; rw [if_pos hac]
      rw [if_pos hac, e1, if_pos (show (-3 : Int32) < 0 by decide)]
      exact ⟨rfl, iv_mono h (by omega)⟩
    · rw [if_neg hac, g1]
      split
      · exact ⟨rfl, iv_mono g2 (by omega)⟩
      · have ht2 : t < (cTa κ t).2.1 10 0 := by
          have e : (cTa κ t).2.1 10 0 = κ.1 10 0 := by
            unfold cTa
            repeat' split
            all_goals first | rfl | (show (cTaS κ t).1 10 0 = _; unfold cTaS; rw [po_inv, tax_10])
          rw [e]; exact ht
        obtain ⟨r1, r2⟩ := iv_run n _ _ (b + 1) g2 ht2 (by omega)
        exact ⟨by rw [r1], by rw [show b + (n + 1) = b + 1 + n by omega]; exact r2⟩
theorem ta_10 : (cTa κ t).2.1 10 0 = κ.1 10 0 := by
  unfold cTa
  repeat' split
  all_goals first | rfl | (show (cTaS κ t).1 10 0 = _; unfold cTaS; rw [po_inv, tax_10])
/-- an open transaction is aborted -/
theorem iv_abort {E : Nat → Prop} (h : Iv κ ρ b E) (ht : t < κ.1 10 0) (hp : κ.1 12 t = 0) : Iv (nu (nu κ 12 t 8) 44 t 0) (nu ρ 12 t 8) b E := by
  have hw := h.kf
  have e12 : (nu (nu κ 12 t 8) 44 t 0).1 12 t = 8 := by simp [nu]
  refine iv_ph (t := t) h (kf_cu (kf_ph hw ht (by omega)) ht (by omega)) (ag_nuc (ag_nu h.ag) (by decide)) (own_nu h.ow (by decide) (by omega)) (fun k hk => ?_) rfl (fun x hx => by simp [nu, hx]) (fun x hx => by simp [nu, hx]) (nk (by decide)) (nk (by decide)) rfl (fun x _ => rfl) (h.bd t).2.2.2 h.pa h.pb (fun x hx => ?_) (fun e h41 he => ?_) (fun _ hac _ => ?_) (fun _ _ q => q) (fun q => by rw [e12] at q; omega) (fun q => by rw [e12] at q; omega) (fun i _ _ _ hc => by rw [e12] at hc; omega)
  · simp only [List.mem_cons, List.not_mem_nil, or_false, not_or] at hk
    funext x
    simp [nu, hk]
  · by_cases z : x = t
    · rw [z, e12] at hx; omega
    · have : (nu (nu κ 12 t 8) 44 t 0).1 12 x = κ.1 12 x := by simp [nu, z]
      rw [this] at hx
      exact h.pc x hx
  · have := (h.r4 e h41).2.2.1
    rw [he] at this
    omega
  · have := rAc_16 hac
    rw [e12] at this
    omega
theorem cEn_0 (h : cEn κ t = 0) : κ.1 12 t = 0 ∧ κ.2.1 0 (κ.1 11 t) = true := by
  unfold cEn at h
  by_cases z : κ.1 12 t = 0
  · rw [if_neg (by simp [z])] at h
    cases hu : κ.2.1 0 (κ.1 11 t) with
    | true => exact ⟨z, rfl⟩
    | false => rw [hu, if_neg (by simp)] at h; cases h
  · rw [if_pos z] at h; cases h
theorem cEn_1 (h : ¬ cEn κ t = 0) : (κ.1 12 t ≠ 0 ∧ cEn κ t = -3) ∨ (κ.1 12 t = 0 ∧ κ.2.1 0 (κ.1 11 t) = false ∧ cEn κ t = -6) := by
  unfold cEn at h ⊢
  by_cases z : κ.1 12 t = 0
  · cases hu : κ.2.1 0 (κ.1 11 t) with
    | true => simp [z, hu] at h
    | false => right; simp [z]
  · left; simp [z]
theorem iv_drop (h : Iv κ ρ b (fun _ => True)) (ht : t < κ.1 10 0) : (cDr κ t).1 = (rDr ρ t).1 ∧ Iv (cDr κ t).2 (rDr ρ t).2 b (fun _ => True) := by
  have ha := h.ag
  unfold cDr rDr
  rw [ha.n 12 (by decide), ha.n 11 (by decide), ha.b 0 (by decide)]
  by_cases z : cEn κ t = 0
  · obtain ⟨z1, z2⟩ := cEn_0 z
    rw [if_pos z, if_neg (by simp [z1]), if_neg (by simp [z2])]
    exact ⟨rfl, iv_abort h ht z1⟩
  · rcases cEn_1 z with ⟨z1, z2⟩ | ⟨z1, z2, z3⟩
    · rw [if_neg z, if_pos z1]; exact ⟨z2, h⟩
    · rw [if_neg z, if_neg (by simp [z1]), if_pos z2]; exact ⟨z3, h⟩
theorem iv_commit (h : Iv κ ρ b (fun _ => True)) (ht : t < κ.1 10 0) : (cCm κ t).1 = (rCm ρ t).1 ∧ Iv (cCm κ t).2 (rCm ρ t).2 b (fun _ => True) := by
  have ha := h.ag
  have hw := h.kf
  unfold cCm rCm
  rw [ha.n 12 (by decide), ha.n 11 (by decide), ha.b 0 (by decide)]
  by_cases z : cEn κ t = 0
  · obtain ⟨z1, z2⟩ := cEn_0 z
    rw [if_pos z, if_neg (by simp [z1]), if_neg (by simp [z2])]
    have e12 : (nu (nu κ 12 t 1) 44 t 0).1 12 t = 1 := by simp [nu]
    have e44 : (nu (nu κ 12 t 1) 44 t 0).1 44 t = 0 := by simp [nu]
    have h2 : Iv (nu (nu κ 12 t 1) 44 t 0) (nu (nu ρ 12 t 1) 13 t 0) b (fun x => x ≠ t) := by
      refine iv_ph (t := t) h (kf_cu (kf_ph hw ht (by omega)) ht (by omega)) (ag_nur (ag_nuc (ag_nu ha) (by decide)) (by decide)) (own_nu (own_nu h.ow (by decide) (by omega)) (by decide) (by omega)) (fun k hk => ?_) rfl (fun x hx => by simp [nu, hx]) (fun x hx => by simp [nu, hx]) (by funext x; simp [nu]) (by funext x; simp [nu]) rfl (fun x hx => by simp [nu, hx]) (by simp [nu]) h.pa h.pb (fun x hx => ?_) (fun e h41 he => ?_) (fun _ _ q => absurd rfl q) (fun _ _ _ => trivial) (fun _ => by omega) (fun q => by rw [e12] at q; omega) (fun i _ _ _ hc => by rw [e12, e44] at hc; omega)
      · simp only [List.mem_cons, List.not_mem_nil, or_false, not_or] at hk
        funext x
        simp [nu, hk]
      · by_cases y : x = t
        · rw [y]; exact h.pc t (by omega)
        · have : (nu (nu κ 12 t 1) 44 t 0).1 12 x = κ.1 12 x := by simp [nu, y]
          rw [this] at hx
          exact h.pc x hx
      · have := (h.r4 e h41).2.2.1
        rw [he] at this
        omega
    have h3 := iv_settle 9 _ _ h2 ht (fun _ => ⟨⟨by rw [e44]; exact Nat.zero_le _, fun _ => by rw [e44]; simp [nu], fun q => by rw [e12] at q; omega⟩, by omega⟩)
    refine ⟨?_, h3⟩
    show nI ((cCm0 κ t).1 12 t) = nI ((rSt 9 (nu (nu ρ 12 t 1) 13 t 0) t).1 12 t)
    rw [h3.ag.n 12 (by decide)]
    rfl
  · rcases cEn_1 z with ⟨z1, z2⟩ | ⟨z1, z2, z3⟩
    · rw [if_neg z, if_pos z1]; exact ⟨z2, h⟩
    · rw [if_neg z, if_neg (by simp [z1]), if_pos z2]; exact ⟨z3, h⟩
theorem iv_fail (h : Iv κ ρ b (fun _ => True)) {m : Nat} : (rFa κ m).1 = (rFa ρ m).1 ∧ Iv (rFa κ m).2 (rFa ρ m).2 b (fun _ => True) := by
  have ha := h.ag
  unfold rFa
  rw [ha.b 0 (by decide)]
  by_cases z : κ.2.1 0 m = false
  · rw [if_pos z, if_pos z]; exact ⟨rfl, h⟩
  · rw [if_neg z, if_neg z]
    have ha2 : ag (bu κ 0 m false) (bu ρ 0 m false) := ag_bu ha
    refine ⟨?_, kf_up h.kf, ha2, h.ow, h.bd, fun x hx => ?_, h.m3, h.it, h.lk, h.pa, h.pb, h.pc, h.r1, h.r2, h.r3, h.r4, h.st, h.gb, h.hl⟩
    · show nI (rUp _) = nI (rUp _)
      unfold rUp
      rw [ha2.b 0 (by decide)]
    · have hx : (if 0 = 0 ∧ x = m then false else κ.2.1 0 x) = true := hx
      split at hx
      · cases hx
      · exact h.um x hx
theorem iv_begin (h : Iv κ ρ b (fun _ => True)) {m : Nat} (hm : m < 6) : (rBg κ m).1 = (rBg ρ m).1 ∧ Iv (rBg κ m).2 (rBg ρ m).2 b (fun _ => True) := by
  have ha := h.ag
  have hw := h.kf
  unfold rBg
  rw [ha.b 0 (by decide), ha.b 1 (by decide), ha.n 10 (by decide)]
  by_cases z : κ.2.1 0 m = false ∨ κ.2.1 1 m = false
  · rw [if_pos z, if_pos z]; exact ⟨rfl, h⟩
  · rw [if_neg z, if_neg z]
    by_cases z2 : κ.1 10 0 = 60
    · rw [if_pos z2, if_pos z2]; exact ⟨rfl, h⟩
    · rw [if_neg z2, if_neg z2]
      have hT : κ.1 10 0 < 60 := by have := hw.nT; omega
      refine ⟨rfl, ?_⟩
      show Iv (cNt κ m) (nu (nu ρ 11 (κ.1 10 0) m) 10 0 (κ.1 10 0 + 1)) b _
      have t0 := hw.t0 (κ.1 10 0) (Nat.le_refl _)
      refine ⟨kf_nt hw hm hT, ag_nu (ag_nu ha), own_nu (own_nu h.ow (by decide) (by omega)) (by decide) (by omega), h.bd, h.um, h.m3, h.it, fun r q hr hq => ?_, h.pa, h.pb, h.pc, h.r1, h.r2, h.r3, fun e he => ?_, fun x hx hac _ => ?_, h.gb, fun x i hx hi hwr hc => ?_⟩
      · rcases h.lk r q hr hq with y | ⟨x, i, y1, y2, y3⟩
        · exact Or.inl y
        · exact Or.inr ⟨x, i, by rw [nt_10]; omega, y2, y3⟩
      · obtain ⟨q1, q2⟩ := h.r4 e he
        exact ⟨⟨by rw [nt_10]; have := q1.1; omega, q1.2⟩, q2⟩
      · rw [nt_10] at hx
        have hac : rAc κ x = true := hac
        by_cases y : x = κ.1 10 0
        · have := rAc_16 hac
          rw [y, t0.1] at this
          omega
        · exact h.st x (by omega) hac trivial
      · rw [nt_10] at hx
        have hc : (κ.1 12 x = 1 ∧ 6 * i < κ.1 44 x) ∨ κ.1 12 x = 2 ∨ κ.1 12 x = 3 ∨ (κ.1 12 x = 4 ∧ κ.1 44 x ≤ 6 * i) := hc
        by_cases y : x = κ.1 10 0
        · rw [y, t0.1] at hc
          omega
        · exact h.hl x i (by omega) hi hwr hc
end PU9
