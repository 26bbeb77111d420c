section PU8
variable {κ ρ : ax_R} {b : Nat} {t : Nat}
theorem Iv.slot (h : Iv κ ρ b (fun _ => True)) (ht : t < κ.1 10 0) (hac : rAc κ t = true) : (κ.1 12 t = 3 ∨ κ.1 12 t = 5 → κ.1 44 t % 6 < κ.1 5 (κ.1 18 (cKi κ t))) ∧ (κ.1 12 t = 4 ∨ κ.1 12 t = 5 → κ.2.1 22 (cKi κ t) = true) := by
  obtain ⟨s0, s1, s2⟩ := h.st t ht hac trivial
  constructor
  · rintro (hp | hp)
    · rw [np_3 hp, Bool.and_eq_true] at s2
      have := s2.2
      unfold bk at this
      rw [Bool.and_eq_true, decide_eq_true_eq] at this
      exact this.1
    · rw [np_5 hp, Bool.and_eq_true, decide_eq_true_eq] at s2
      exact s2.1
  · rintro (hp | hp)
    · rw [np_4 hp, Bool.and_eq_true] at s2
      exact s2.2
    · have h41 := np5 hp s2
      rw [← e_ki] at h41
      have := (h.r4 _ h41).2.1
      rwa [show (6 * cKi κ t + κ.1 44 t % 6) / 6 = cKi κ t by omega] at this
theorem Iv.cg (h : Iv κ ρ b (fun _ => True)) (ht : t < κ.1 10 0) (hb : b + 1 < 1000000) : cGp κ t := by
  refine ⟨h.kf, fun hac => ⟨(h.st t ht hac trivial).2.1, (h.slot ht hac).1, (h.slot ht hac).2⟩, fun i => ?_, fun q => h.p60 ht (by omega)⟩
  have := (h.bd i).2.1
  omega
/-- the reference's next act is the class's -/
theorem Iv.ai (h : Iv κ ρ b (fun _ => True)) (ht : t < κ.1 10 0) (hac : rAc κ t = true) : rAi ρ t = some (cKi κ t, if κ.1 12 t = 3 ∨ κ.1 12 t = 5 then nI (κ.1 44 t % 6) else oI (cPr κ (κ.1 18 (cKi κ t)))) := by
  have ha := h.ag
  have hw := h.kf
  have h60 := hw.nT
  have h8 := hw.i8 t
  obtain ⟨s0, s1, s2⟩ := h.st t ht hac trivial
  have h16 := rAc_16 hac
  obtain ⟨n1, n2⟩ := st0_nx s0
  have nx : cNx κ t = some (κ.1 44 t) := List.find?_range'_eq_some.mpr ⟨s2, List.mem_range'_1.mpr (by omega), fun j h1 h2 => by omega⟩
  have hc : κ.1 12 t = 1 ∨ κ.1 12 t = 2 ∨ κ.1 12 t = 3 ∨ κ.1 12 t = 4 ∨ κ.1 12 t = 5 ∨ κ.1 12 t = 6 := by omega
  unfold rAi
  rw [ha.n 12 (by decide), ag_rB ha, ag_rFl ha, ag_rNt ha, ag_rL ha, ha.n 18 (by decide)]
  rcases hc with q | q | q | q | q | q
  · rw [if_neg (by omega), if_neg (by omega), if_neg (by omega), if_neg (by omega)]
    have n1 := n1 (by omega)
    rw [nx] at n1
    have : rNt κ t (ρ.1 13 t) (!decide (κ.1 12 t = 2)) = some (cKi κ t) := by
      rw [show (!decide (κ.1 12 t = 2)) = true by rw [q]; rfl]
      unfold rNt
      rw [← al_1 (Or.inl q), List.getElem?_map, ← n1]
      rfl
    rw [this, Option.map_some, cPr_eq]
  · rw [if_neg (by omega), if_neg (by omega), if_neg (by omega), if_neg (by omega)]
    have n1 := n1 (by omega)
    rw [nx] at n1
    have : rNt κ t (ρ.1 13 t) (!decide (κ.1 12 t = 2)) = some (cKi κ t) := by
      rw [show (!decide (κ.1 12 t = 2)) = false by rw [q]; rfl]
      unfold rNt
      rw [← al_2 q, List.getElem?_map, ← n1]
      rfl
    rw [this, Option.map_some, cPr_eq]
  · rw [if_pos q, if_pos (Or.inl q)]
    have n1 := n1 (by omega)
    rw [nx] at n1
    rw [← al_3 hw q, List.getElem?_map, ← n1]
    rfl
  · rw [if_neg (by omega), if_neg (by omega), if_neg (by omega), if_neg (by omega)]
    have n1 := n1 (by omega)
    rw [nx] at n1
    have : rNt κ t (ρ.1 13 t) (!decide (κ.1 12 t = 2)) = some (cKi κ t) := by
      rw [show (!decide (κ.1 12 t = 2)) = true by rw [q]; rfl]
      unfold rNt
      rw [← al_1 (Or.inr q), List.getElem?_map, ← n1]
      rfl
    rw [this, Option.map_some, cPr_eq]
  · rw [if_neg (by omega), if_pos q, if_pos (Or.inr q)]
    have n2 := n2 (by omega)
    rw [nx] at n2
    cases hf : rFr ρ t with
    | none => rw [(h.fr q).1 hf] at n2; cases n2
    | some k0 =>
      obtain ⟨j, m1, m2, m3, m4⟩ := (h.fr q).2 k0 hf
      rw [← n2] at m1
      cases m1
      rw [Option.map_some, m2, m3, nI_clamp (by omega)]
      rfl
  · rw [if_neg (by omega), if_neg (by omega), if_pos q, if_neg (by omega)]
    have n2 := n2 (by omega)
    rw [nx] at n2
    rw [h.fl ht q, ← n2, Option.map_some, Option.map_some, cPr_eq]
    rfl
theorem Iv.ax (h : Iv κ ρ b (fun _ => True)) (hM : ¬ rM κ (κ.1 18 (cKi κ t)) = 0) : (if κ.1 12 t = 3 ∨ κ.1 12 t = 5 then nI (κ.1 44 t % 6) else oI (cPr κ (κ.1 18 (cKi κ t)))).toNatClampNeg = cSl κ t := by
  have h5 := h.kf.c6 (κ.1 18 (cKi κ t))
  unfold cSl
  split
  · exact nI_clamp (by omega)
  · cases hp : cPr κ (κ.1 18 (cKi κ t)) with
    | none => exact absurd (cPr_none.mp hp) hM
    | some p => exact nI_clamp (by have := (cPr_lt hp).1; omega)
/-- the act itself, on both sides -/
theorem iv_act (h : Iv κ ρ b (fun _ => True)) (ht : t < κ.1 10 0) (hac : rAc κ t = true) (hM : ¬ rM κ (κ.1 18 (cKi κ t)) = 0) (hb : b + 1 < 1000000) : iA (cTaX κ t) (nu (rActX ρ t (cKi κ t) (cSl κ t)) 13 t ((rActX ρ t (cKi κ t) (cSl κ t)).1 13 t + 1)) (b + 1) t := by
  have ha := h.ag
  have hw := h.kf
  have h8 := hw.i8 t
  obtain ⟨s0, s1, s2⟩ := h.st t ht hac trivial
  have h16 := rAc_16 hac
  obtain ⟨hma, hs⟩ := cMa_1 (h.cg ht hb) hac hM
  have hi : κ.1 44 t / 6 < κ.1 14 t := by omega
  have hik : ik κ (cKi κ t) := ik.of hw ht hi
  have hkf : kf (cTaX κ t) := (act_ok (κ := nu κ 44 t (κ.1 44 t + 1)) (kf_cu hw ht (by omega)) ht hik hs h16 (by have := (h.bd (cKi κ t)).2.1; show κ.1 21 (cKi κ t) + 1 < _; omega)).1
  have a18 := ha.n 18 (by decide)
  have a19 := ha.n 19 (by decide)
  have a21 := ha.n 21 (by decide)
  have a24 := ha.n 24 (by decide)
  have a8 := ha.n 8 (by decide)
  have a9 := ha.r 9 (by decide)
  have a23 := ha.r 23 (by decide)
  have hc : κ.1 12 t = 1 ∨ κ.1 12 t = 2 ∨ κ.1 12 t = 3 ∨ κ.1 12 t = 4 ∨ κ.1 12 t = 5 ∨ κ.1 12 t = 6 := by omega
  have tk : ∀ s, cTk (nu κ 44 t (κ.1 44 t + 1)) (cKi κ t) s = (!decide (κ.2.2 9 (8 * κ.1 18 (cKi κ t) + κ.1 19 (cKi κ t)) = -9) || !decide (κ.1 8 (8 * (6 * κ.1 18 (cKi κ t) + s) + κ.1 19 (cKi κ t)) = κ.1 21 (cKi κ t))) := fun s => rfl
  rcases hc with q | q | q | q | q | q
  · have e1 : cTaX κ t = if cTk (nu κ 44 t (κ.1 44 t + 1)) (cKi κ t) (cSl κ t) = true then nu (nu (nu κ 44 t (κ.1 44 t + 1)) 12 t 6) 44 t 0 else ru (nu κ 44 t (κ.1 44 t + 1)) 9 (8 * κ.1 18 (cKi κ t) + κ.1 19 (cKi κ t)) (nI t) := by
      unfold cTaX cActX
      rw [show (nu κ 44 t (κ.1 44 t + 1)).1 12 t = 1 from q]
      rfl
    have e2 : rActX ρ t (cKi κ t) (cSl κ t) = if κ.2.2 9 (8 * κ.1 18 (cKi κ t) + κ.1 19 (cKi κ t)) ≠ -9 ∨ κ.1 8 (8 * (6 * κ.1 18 (cKi κ t) + cSl κ t) + κ.1 19 (cKi κ t)) ≠ κ.1 21 (cKi κ t) then nu ρ 12 t 6 else ru ρ 9 (8 * κ.1 18 (cKi κ t) + κ.1 19 (cKi κ t)) (nI t) := by
      unfold rActX
      rw [ha.n 12 (by decide), q, a9, a8, a18, a19, a21]
      rfl
    rw [e1, e2, tk]
    by_cases hz : κ.2.2 9 (8 * κ.1 18 (cKi κ t) + κ.1 19 (cKi κ t)) = -9 ∧ κ.1 8 (8 * (6 * κ.1 18 (cKi κ t) + cSl κ t) + κ.1 19 (cKi κ t)) = κ.1 21 (cKi κ t)
    · rw [if_neg (by simp [hz.1, hz.2]), if_neg (by simp [hz.1, hz.2])]
      exact act_lock h ht q hb hz.1
    · have hz2 : κ.2.2 9 (8 * κ.1 18 (cKi κ t) + κ.1 19 (cKi κ t)) ≠ -9 ∨ κ.1 8 (8 * (6 * κ.1 18 (cKi κ t) + cSl κ t) + κ.1 19 (cKi κ t)) ≠ κ.1 21 (cKi κ t) := by
        by_cases y : κ.2.2 9 (8 * κ.1 18 (cKi κ t) + κ.1 19 (cKi κ t)) = -9
        · exact Or.inr fun z => hz ⟨y, z⟩
        · exact Or.inl y
      rw [if_pos (by simpa using hz2), if_pos hz2]
      exact act_up h ht (Or.inl q) hb
  · have e1 : cTaX κ t = if cTk (nu κ 44 t (κ.1 44 t + 1)) (cKi κ t) (cSl κ t) = true then nu (nu (nu κ 44 t (κ.1 44 t + 1)) 12 t 6) 44 t 0 else nu κ 44 t (κ.1 44 t + 1) := by
      unfold cTaX cActX
      rw [show (nu κ 44 t (κ.1 44 t + 1)).1 12 t = 2 from q]
      rfl
    have e2 : rActX ρ t (cKi κ t) (cSl κ t) = if κ.2.2 9 (8 * κ.1 18 (cKi κ t) + κ.1 19 (cKi κ t)) ≠ -9 ∨ κ.1 8 (8 * (6 * κ.1 18 (cKi κ t) + cSl κ t) + κ.1 19 (cKi κ t)) ≠ κ.1 21 (cKi κ t) then nu ρ 12 t 6 else ρ := by
      unfold rActX
      rw [ha.n 12 (by decide), q, a9, a8, a18, a19, a21]
      rfl
    rw [e1, e2, tk]
    by_cases hz : κ.2.2 9 (8 * κ.1 18 (cKi κ t) + κ.1 19 (cKi κ t)) = -9 ∧ κ.1 8 (8 * (6 * κ.1 18 (cKi κ t) + cSl κ t) + κ.1 19 (cKi κ t)) = κ.1 21 (cKi κ t)
    · rw [if_neg (by simp [hz.1, hz.2]), if_neg (by simp [hz.1, hz.2])]
      exact act_look h ht q hb
    · have hz2 : κ.2.2 9 (8 * κ.1 18 (cKi κ t) + κ.1 19 (cKi κ t)) ≠ -9 ∨ κ.1 8 (8 * (6 * κ.1 18 (cKi κ t) + cSl κ t) + κ.1 19 (cKi κ t)) ≠ κ.1 21 (cKi κ t) := by
        by_cases y : κ.2.2 9 (8 * κ.1 18 (cKi κ t) + κ.1 19 (cKi κ t)) = -9
        · exact Or.inr fun z => hz ⟨y, z⟩
        · exact Or.inl y
      rw [if_pos (by simpa using hz2), if_pos hz2]
      exact act_up h ht (Or.inr q) hb
  · have hsl : cSl κ t = κ.1 44 t % 6 := if_pos (Or.inl q)
    have e1 : cTaX κ t = bu (nu κ 44 t (κ.1 44 t + 1)) 41 (6 * cKi κ t + κ.1 44 t % 6) true := by
      unfold cTaX cActX
      rw [show (nu κ 44 t (κ.1 44 t + 1)).1 12 t = 3 from q, hsl]
      rfl
    have e2 : rActX ρ t (cKi κ t) (cSl κ t) = nu (nu (ru ρ 26 (ρ.1 25 0) (nI (cKi κ t))) 27 (ρ.1 25 0) (κ.1 44 t % 6)) 25 0 (ρ.1 25 0 + 1) := by
      unfold rActX
      rw [ha.n 12 (by decide), q, hsl]
      rfl
    rw [e1, e2]
    exact (act_back h ht q hb).1
  · have e1 : cTaX κ t = bu (nu (ru (cPu (nu κ 44 t (κ.1 44 t + 1)) (κ.1 18 (cKi κ t)) (cSl κ t) (κ.1 19 (cKi κ t)) (κ.2.2 23 (cKi κ t)) (κ.1 21 (cKi κ t) + 1)) 9 (8 * κ.1 18 (cKi κ t) + κ.1 19 (cKi κ t)) (-9)) 24 (cKi κ t) (κ.1 24 (cKi κ t) ||| 2 ^ cSl κ t)) 15 t true := by
      unfold cTaX cActX
      rw [show (nu κ 44 t (κ.1 44 t + 1)).1 12 t = 4 from q]
      rfl
    have e2 : rActX ρ t (cKi κ t) (cSl κ t) = bu (ru (nu (cPu ρ (κ.1 18 (cKi κ t)) (cSl κ t) (κ.1 19 (cKi κ t)) (κ.2.2 23 (cKi κ t)) (κ.1 21 (cKi κ t) + 1)) 24 (cKi κ t) (κ.1 24 (cKi κ t) ||| 2 ^ cSl κ t)) 9 (8 * κ.1 18 (cKi κ t) + κ.1 19 (cKi κ t)) (-9)) 15 t true := by
      unfold rActX
      rw [ha.n 12 (by decide), q]
      unfold rG
      rw [a18, a19, a21, a24, a23]
      rfl
    rw [e2]
    exact act_write h ht q hb hs e1 rfl hkf
  · have hsl : cSl κ t = κ.1 44 t % 6 := if_pos (Or.inr q)
    have e1 : cTaX κ t = nu (bu (cRz (nu κ 44 t (κ.1 44 t + 1)) (κ.1 18 (cKi κ t)) (κ.1 44 t % 6) (κ.1 19 (cKi κ t)) (κ.2.2 23 (cKi κ t)) (κ.1 21 (cKi κ t) + 1)) 41 (6 * cKi κ t + κ.1 44 t % 6) false) 24 (cKi κ t) (κ.1 24 (cKi κ t) ||| 2 ^ (κ.1 44 t % 6)) := by
      unfold cTaX cActX
      rw [show (nu κ 44 t (κ.1 44 t + 1)).1 12 t = 5 from q, hsl]
      rfl
    have eg : rG ρ (cKi κ t) (κ.1 44 t % 6) false = cRz ρ (κ.1 18 (cKi κ t)) (κ.1 44 t % 6) (κ.1 19 (cKi κ t)) (κ.2.2 23 (cKi κ t)) (κ.1 21 (cKi κ t) + 1) := by
      unfold rG cRz cPu
      rw [a18, a19, a21, a23]
      by_cases z : ρ.1 8 (8 * (6 * κ.1 18 (cKi κ t) + κ.1 44 t % 6) + κ.1 19 (cKi κ t)) ≤ κ.1 21 (cKi κ t)
      · rw [if_pos (Or.inr z), if_pos (by omega)]
      · rw [if_neg (by simp; omega), if_neg (by omega)]
    have e2 : rActX ρ t (cKi κ t) (cSl κ t) = ru (nu (cRz ρ (κ.1 18 (cKi κ t)) (κ.1 44 t % 6) (κ.1 19 (cKi κ t)) (κ.2.2 23 (cKi κ t)) (κ.1 21 (cKi κ t) + 1)) 24 (cKi κ t) (κ.1 24 (cKi κ t) ||| 2 ^ (κ.1 44 t % 6))) 26 ((rFr ρ t).getD 0) (-9) := by
      unfold rActX
      rw [ha.n 12 (by decide), q, hsl, a24, eg]
      rfl
    have e13 : (rActX ρ t (cKi κ t) (cSl κ t)).1 13 t = ρ.1 13 t := by
      rw [e2]
      simp [nu, ru, rz_1]
    rw [e13, e2]
    exact act_clean h ht q hb e1 rfl hkf
  · have e1 : cTaX κ t = ru (nu κ 44 t (κ.1 44 t + 1)) 9 (8 * κ.1 18 (cKi κ t) + κ.1 19 (cKi κ t)) (-9) := by
      unfold cTaX cActX
      rw [show (nu κ 44 t (κ.1 44 t + 1)).1 12 t = 6 from q]
      rfl
    have e2 : rActX ρ t (cKi κ t) (cSl κ t) = ru ρ 9 (8 * κ.1 18 (cKi κ t) + κ.1 19 (cKi κ t)) (-9) := by
      unfold rActX
      rw [ha.n 12 (by decide), q, a18, a19]
      rfl
    rw [e1, e2]
    exact act_free h ht q hb
theorem tax_10 : (cTaX κ t).1 10 0 = κ.1 10 0 := by
  unfold cTaX cActX
  repeat' split
  all_goals simp [nu, bu, ru, cPu, rz_1]
theorem Iv.rg (h : Iv κ ρ b (fun _ => True)) (ht : t < κ.1 10 0) (hb : b + 1 < 1000000) : rGp ρ t := by
  have ha := h.ag
  refine ⟨h.rf, fun hac => ?_, ?_, fun i => ?_, ?_, fun q => ?_⟩
  · rw [ag_rAc ha] at hac
    rw [h.ai ht hac]
    simp
  · have := (h.bd t).2.2.2; omega
  · rw [ha.n 21 (by decide)]; have := (h.bd i).2.1; omega
  · rw [ha.n 17 (by decide)]; have := h.kf.nP; omega
  · rw [ha.n 12 (by decide)] at q
    exact (act_back h ht q hb).2
theorem iv_mono {E : Nat → Prop} {b2 : Nat} (h : Iv κ ρ b E) (hb : b ≤ b2) : Iv κ ρ b2 E :=
  ⟨h.kf, h.ag, h.ow, fun j => ⟨Nat.le_trans (h.bd j).1 hb, Nat.le_trans (h.bd j).2.1 hb, Nat.le_trans (h.bd j).2.2.1 hb, Nat.le_trans (h.bd j).2.2.2 hb⟩, h.um, h.m3, h.it, h.lk, h.pa, h.pb, h.pc, h.r1, h.r2, h.r3, h.r4, h.st, h.gb, h.hl⟩
theorem iv_ov (h : Iv κ ρ b (fun _ => True)) (ht : t < κ.1 10 0) {x : Int32} : Iv κ (ru (rOvS ρ t) 30 0 x) b (fun _ => True) := by
  have := h.kf.nT
  refine iv_own h (ag_rur (ov_ag h.ag) (by decide)) (ov_own (t := t) h.kf h.ag (by omega) h.ow) (funext fun j => ov_1 (by decide)) (funext fun j => ov_1 (by decide)) (funext fun j => ov_1 (by decide)) ?_
  rw [rk (by decide), ov_2]
theorem iv_go (h : Iv κ ρ b (fun _ => True)) (ht : t < κ.1 10 0) (hb : b + 1 < 1000000) : (cTa κ t).1 = (rGo ρ t).1 ∧ Iv (cTa κ t).2 (rGo ρ t).2 (b + 1) (fun _ => True) := by
  have ha := h.ag
  by_cases hac : rAc κ t = false
  · have e1 : cTa κ t = (-3, κ) := by unfold cTa; rw [if_pos hac]
    have e2 : rGo ρ t = (-3, ρ) := by unfold rGo; rw [ag_rAc ha, if_pos hac]
    rw [e1, e2]
    exact ⟨rfl, iv_mono h (Nat.le_succ b)⟩
  · have hac2 : rAc κ t = true := by simpa using hac
    have hai := h.ai ht hac2
    generalize hx : (if κ.1 12 t = 3 ∨ κ.1 12 t = 5 then nI (κ.1 44 t % 6) else oI (cPr κ (κ.1 18 (cKi κ t)))) = x at hai
    have e1 : cTa κ t = if rM κ (κ.1 18 (cKi κ t)) = 0 then (-5, κ) else if κ.2.1 0 (κ.1 11 t) = false ∨ κ.2.1 0 (κ.1 6 (6 * κ.1 18 (cKi κ t) + cSl κ t)) = false then (-6, κ) else (nI ((cTaS κ t).1 12 t), cTaS κ t) := by unfold cTa; rw [if_neg hac]
    have e2 : rGo ρ t = if rM κ (κ.1 18 (cKi κ t)) = 0 then (-5, ru (rOvS ρ t) 30 0 x) else if κ.2.1 0 (κ.1 11 t) = false ∨ rU κ (κ.1 18 (cKi κ t)) x.toNatClampNeg = false then (-6, ru (rOvS ρ t) 30 0 x) else (nI ((rAct (ru (rOvS ρ t) 30 0 x) t (cKi κ t) x.toNatClampNeg).1 12 t), rAct (ru (rOvS ρ t) 30 0 x) t (cKi κ t) x.toNatClampNeg) := by
      unfold rGo
      rw [ag_rAc ha, if_neg hac, hai, ag_rM ha, ag_rU ha, ha.n 18 (by decide), ha.n 11 (by decide), ha.b 0 (by decide)]
    rw [e1, e2]
    by_cases hM : rM κ (κ.1 18 (cKi κ t)) = 0
    · rw [if_pos hM, if_pos hM]
      exact ⟨rfl, iv_mono (iv_ov h ht) (Nat.le_succ b)⟩
    · rw [if_neg hM, if_neg hM]
      have hxs : x.toNatClampNeg = cSl κ t := by rw [← hx]; exact h.ax hM
      rw [hxs]
      unfold rU
      by_cases hU : κ.2.1 0 (κ.1 11 t) = false ∨ κ.2.1 0 (κ.1 6 (6 * κ.1 18 (cKi κ t) + cSl κ t)) = false
      · rw [if_pos hU, if_pos hU]
        exact ⟨rfl, iv_mono (iv_ov h ht) (Nat.le_succ b)⟩
      · rw [if_neg hU, if_neg hU]
        obtain ⟨i1, i2⟩ := iv_act (iv_ov (x := x) h ht) ht hac2 hM hb
        have ht2 : t < (cTaX κ t).1 10 0 := by rw [tax_10]; exact ht
        have := iv_settle 9 _ _ i1 ht2 (fun q => ⟨i2 q, by have := rAc_16 q; omega⟩)
        refine ⟨?_, this⟩
        show nI ((cTaS κ t).1 12 t) = nI ((rAct (ru (rOvS ρ t) 30 0 x) t (cKi κ t) (cSl κ t)).1 12 t)
        have e := this.ag.n 12 (by decide)
        unfold rAct
        rw [e]
        rfl
end PU8
