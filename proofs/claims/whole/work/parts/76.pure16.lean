/-! The answers of the calls that only look. -/
section PU16
variable {κ κ2 ρ ρ2 : ax_R} {b : Nat} {t r : Nat}
theorem an_about (h : Iv κ ρ b (fun _ => True)) {w : Int32} : rAb κ t w = rAb ρ t w := by
  have ha := h.ag
  unfold rAb
  rw [ha.n 12 (by decide), ha.n 11 (by decide), ha.n 14 (by decide), ag_rW ha, ha.b 15 (by decide), ha.n 16 (by decide)]
theorem an_item (h : Iv κ ρ b (fun _ => True)) {k : Nat} {w : Int32} : rIt κ k w = rIt ρ k w := by
  have ha := h.ag
  unfold rIt
  rw [ha.n 18 (by decide), ha.n 19 (by decide), ha.r 20 (by decide), ha.n 21 (by decide), ha.b 22 (by decide), ha.r 23 (by decide)]
theorem an_unlike (h : Iv κ ρ b (fun _ => True)) : cUn κ = rUn ρ := by
  have ha := h.ag
  unfold cUn rUn
  rw [ha.n 4 (by decide)]
  congr 1
  refine find_co fun r _ => ?_
  unfold cAr rUr
  rw [ag_rL ha, cPr_eq]
  cases hp : cPr κ r with
  | none => rfl
  | some p =>
    show (!(List.range' 0 (κ.1 5 r)).all fun k => !rO κ r k || cAl κ r p k) = (List.range' 0 (ρ.1 5 r)).any fun k => rUk ρ r k p
    rw [List.not_all_eq_any_not, ha.n 5 (by decide)]
    refine any_co fun k _ => ?_
    unfold rUk cAl
    rw [ag_rO ha, ha.r 7 (by decide), ha.n 8 (by decide), Bool.not_or, Bool.not_not, List.not_all_eq_any_not]
    congr 1
    refine any_co fun x _ => ?_
    rw [Bool.not_and]
    congr 2
    · simp only [eq_comm]
    · simp only [eq_comm]
theorem lk_cnt : rLk κ = cLk κ := by
  unfold rLk cLk
  rw [fold_sum, Nat.zero_add]
  have := blk_cnt (G := fun k => !decide (κ.2.2 9 k = -9) && !decide (rM κ (k / 8) = 0)) (w := 8) (c := cLr κ) (κ.1 4 0) 0 (fun r _ _ => ?_)
  · rw [Nat.mul_zero] at this
    exact this
  · rw [rg_add, List.countP_map]
    unfold cLr
    refine cP_co fun i hi => ?_
    have hi := List.mem_range'_1.mp hi
    show (!decide (κ.2.2 9 (8 * r + i) = -9) && !decide (rM κ ((8 * r + i) / 8) = 0)) = _
    rw [show (8 * r + i) / 8 = r by omega, Bool.and_comm]
theorem an_count (h : Iv κ ρ b (fun _ => True)) {w : Int32} : cQc κ w = rQc ρ w := by
  have ha := h.ag
  have e8 : rQr ρ = cRw κ (κ.2.1 1) := by
    rw [rw_cnt h, ← rec_cnt h]
    unfold rQr
    refine cP_co fun k hk => ?_
    have hk := List.mem_range'_1.mp hk
    rcases h.r1 k (by omega) with y | ⟨e, y1, y2, y3, y4⟩
    · rw [y]; rfl
    · rw [y3, y4, nI_clamp (by omega), ag_rO ha, ha.n 18 (by decide), show (6 * (e / 6) + e % 6) / 6 = e / 6 by omega, show (6 * (e / 6) + e % 6) % 6 = e % 6 by omega]
      rfl
  have e7 : rLk ρ = cLk κ := by
    rw [← lk_cnt]
    unfold rLk
    rw [ha.n 4 (by decide), ha.r 9 (by decide), ag_rM ha]
  have e3 : rQm ρ = rQm κ := by unfold rQm; rw [ha.b 1 (by decide)]
  have e4 : rUp ρ = rUp κ := by unfold rUp; rw [ha.b 0 (by decide)]
  have e5 : ∀ p, rIp ρ p = rIp κ p := fun p => by unfold rIp; rw [ha.n 10 (by decide), ha.n 12 (by decide)]
  have e9 : rQl ρ = rQl κ := by unfold rQl; rw [ha.n 4 (by decide), ag_rM ha]
  unfold cQc rQc
  rw [ha.n 4 (by decide), ha.n 10 (by decide), ha.n 3 (by decide), e3, e4, e5, e5, e7, e8, e9]
theorem an_copyAt (h : Iv κ ρ b (fun _ => True)) {x : Int32} : cMo κ r x = rCa ρ r x := by
  have ha := h.ag
  unfold cMo rCa rP
  rw [ag_rL ha, ha.n 6 (by decide)]
  by_cases z : x < 0
  · rw [if_pos z, if_pos z, if_pos rfl]
  · rw [if_neg z, if_neg z]
    cases hk : (rL κ r)[x.toNatClampNeg]? with
    | none => rfl
    | some k =>
      have h1 := List.mem_range'_1.mp (List.mem_filter.mp (List.mem_of_getElem? hk)).1
      have h5 := h.kf.c6 r
      rw [if_neg (show ¬ oI (some k) = -9 from nI_ne9 (show k < 2 ^ 31 by omega))]
      show nI _ = nI (κ.1 6 (6 * r + (nI k).toNatClampNeg))
      rw [nI_clamp (by omega)]
theorem mc_cnt (h : Iv κ ρ b (fun _ => True)) {m : Nat} (hm : m < 6) : (List.range' 0 (κ.1 5 r)).countP (fun k => decide (κ.1 6 (6 * r + k) = m)) = if pm κ r (fun _ => true) m = true then 1 else 0 := by
  have h1 := pm_cnt (r := r) (P := fun _ => true) (Q := fun x => decide (x = m)) h.kf
  have h2 : (List.range' 0 6).countP (fun x => pm κ r (fun _ => true) x && decide (x = m)) = if pm κ r (fun _ => true) m = true then 1 else 0 := by
    rw [cnt_one (a := m) _ rg_nd (List.mem_range'_1.mpr (by omega)) (fun e _ q => by simp at q; exact q.2)]
    simp
  rw [← h2, h1]
  exact cP_co fun s _ => by simp
theorem an_machine (h : Iv κ ρ b (fun _ => True)) {m : Nat} (hm : m < 6) {w : Int32} : cMa2 κ m w = rMa ρ m w := by
  have ha := h.ag
  have e2 : (List.range' 0 (ρ.1 4 0)).foldl (rMc ρ m) 0 = (List.range' 0 (κ.1 4 0)).countP (fun r => pm κ r (fun _ => true) m) := by
    have : rMc ρ m = fun n r => n + (if pm κ r (fun _ => true) m = true then 1 else 0) := by
      funext n r
      unfold rMc
      rw [ha.n 5 (by decide), ha.n 6 (by decide), mc_cnt h hm]
    rw [this, fold_sum, Nat.zero_add, ha.n 4 (by decide), cnt_sum]
  have e3 : rMr ρ m = cRw κ (fun x => decide (x = m)) := by
    rw [rw_cnt h, ← rec_cnt h]
    unfold rMr
    refine cP_co fun k hk => ?_
    have hk := List.mem_range'_1.mp hk
    rcases h.r1 k (by omega) with y | ⟨e, y1, y2, y3, y4⟩
    · rw [y]; rfl
    · rw [y3, y4, nI_clamp (by omega), ha.n 6 (by decide), ha.n 18 (by decide), show (6 * (e / 6) + e % 6) / 6 = e / 6 by omega, show (6 * (e / 6) + e % 6) % 6 = e % 6 by omega]
  unfold cMa2 rMa
  rw [ha.b 0 (by decide), ha.b 1 (by decide), e2, e3]
theorem an_object (h : Iv κ ρ b (fun _ => True)) {q p : Nat} {x w : Int32} (hp : rP ρ r x = nI p) (hp5 : p < κ.1 5 r) : cOb κ r p q w = rOb ρ r p q x w := by
  have ha := h.ag
  have hw := h.kf
  have h5 := hw.c6 r
  have e3 : rOc ρ r p q = (List.range' 0 (κ.1 10 0)).countP (cRo κ r q (κ.1 6 (6 * r + p))) := by
    rw [ro_cnt h hp5, ← rec_cnt h]
    unfold rOc
    refine cP_co fun k hk => ?_
    have hk := List.mem_range'_1.mp hk
    rcases h.r1 k (by omega) with y | ⟨e, y1, y2, y3, y4⟩
    · rw [y]; rfl
    · rw [y3, y4, nI_clamp (by omega), ha.n 18 (by decide), ha.n 19 (by decide), show (6 * (e / 6) + e % 6) / 6 = e / 6 by omega, show (6 * (e / 6) + e % 6) % 6 = e % 6 by omega]
      simp only [Bool.and_assoc]
  have e2 : cPr κ r = some p ↔ x = 0 := by
    unfold rP at hp
    rw [ag_rL ha] at hp
    by_cases z : x < 0
    · rw [if_pos z] at hp; exact absurd hp.symm (nI_ne9 (by omega))
    · rw [if_neg z] at hp
      obtain ⟨j, hj, rfl⟩ := nI_of z
      rw [nI_clamp hj] at hp
      have hlt : ∀ s, (rL κ r)[j]? = some s → s < κ.1 5 r := fun s hs => by
        have := List.mem_range'_1.mp (List.mem_filter.mp (List.mem_of_getElem? hs)).1
        omega
      have hsome : (rL κ r)[j]? = some p := ((oM_inj (κ := κ) (r := r) hw hlt (fun s hs => by cases hs; exact hp5)).2.mp (show oI _ = oI (some p) from hp))
      rw [← cPr_eq, show (0 : Int32) = nI 0 from rfl, nI_inj hj (by decide)]
      constructor
      · intro y
        have hnd : (rL κ r).Nodup := List.Pairwise.filter _ rg_nd
        have l1 := (List.getElem?_eq_some_iff.mp hsome)
        have l2 := (List.getElem?_eq_some_iff.mp y)
        obtain ⟨a1, a2⟩ := l1
        obtain ⟨b1, b2⟩ := l2
        exact (List.getElem_inj hnd).mp (a2.trans b2.symm)
      · intro y
        rw [← y]
        exact hsome
  unfold cOb rOb
  rw [ha.r 7 (by decide), ha.n 8 (by decide), ha.r 9 (by decide), e3]
  simp only [e2]
-- check
def m32 (κ κ2 : ax_R) : Prop := κ2.1 = κ.1 ∧ κ2.2.1 = κ.2.1 ∧ ∀ k, k ≠ 32 → κ2.2.2 k = κ.2.2 k
theorem m32_rfl : m32 κ κ := ⟨rfl, rfl, fun _ _ => rfl⟩
theorem m32_ru {j : Nat} {v : Int32} (h : m32 κ κ2) : m32 κ (ru κ2 32 j v) := ⟨h.1, h.2.1, fun k hk => by rw [rk hk]; exact h.2.2 k hk⟩
theorem iv_m32 (h : Iv κ ρ b (fun _ => True)) (hk : kf κ2) (ha : ag κ2 ρ2) (m1 : m32 κ κ2) (m2 : m32 ρ ρ2) : Iv κ2 ρ2 b (fun _ => True) := by
  obtain ⟨a1, a2, a3⟩ := m1
  obtain ⟨c1, c2, c3⟩ := m2
  obtain ⟨cb, cm, -, -⟩ := bk_co (κ := κ) (κ2 := κ2) (by rw [a1]) (by rw [a1]) (by rw [a2])
  refine ⟨hk, ha, own_co h.ow (fun k _ => by rw [c1]) (fun k => Or.inl (by rw [c3 26 (by decide)])), ?_, ?_, ?_, ?_, ?_, ?_, ?_, ?_, ?_, ?_, ?_, ?_, fun x hx hac _ => ?_, ?_, ?_⟩
  · rw [a1, c1]; exact h.bd
  · rw [a2]; exact h.um
  · rw [cm]; exact h.m3
  · rw [a1]; exact h.it
  · rw [a1, a2, a3 9 (by decide)]; exact h.lk
  · rw [a1]; exact h.pa
  · rw [a1]; exact h.pb
  · rw [a1]; exact h.pc
  · rw [a2, c1, c3 26 (by decide)]; exact h.r1
  · rw [a2, c1, c3 26 (by decide)]; exact h.r2
  · rw [c1, c3 26 (by decide)]; exact h.r3
  · unfold ik; rw [a1, a2]; exact h.r4
  · rw [a1] at hx
    have hac2 : rAc κ x = true := by unfold rAc at hac ⊢; rw [a1] at hac; exact hac
    exact st_co (h.st x hx hac2 trivial) (by rw [a1]) (by rw [a1]) (by rw [a1]) (by rw [c1]) (fun i s _ _ => cHa_co (by rw [a1]) (by rw [a2]) (by rw [a1]) (by rw [a1]) (fun _ => by rw [cb]) (fun _ => ⟨by rw [a2], by rw [a1]⟩) (fun _ => by rw [a3 9 (by decide)]))
  · rw [a1, c1]; exact h.gb
  · rw [a1, a2, a3 9 (by decide)]; exact h.hl
theorem ru_self {k j : Nat} : ru κ k j (κ.2.2 k j) = κ := by
  refine Prod.ext rfl (Prod.ext rfl ?_)
  funext a i
  by_cases e : a = k ∧ i = j
  · obtain ⟨rfl, rfl⟩ := e; simp [ru]
  · simp [ru, e]
theorem kb_ag {i : Nat} (h : ag κ ρ) : ag (cKb κ i) (rKb ρ i) := by
  unfold cKb rKb
  rw [h.b 22 (by decide), h.n 18 (by decide), h.n 19 (by decide), h.r 23 (by decide)]
  by_cases z : κ.2.1 22 i = true
  · rw [if_pos z, if_pos z]; exact ag_ru h
  · rw [if_neg z, if_neg z, ru_self]; exact h
theorem kbs_ag : ∀ (l : List Nat) (κ ρ : ax_R), ag κ ρ → ag (l.foldl cKb κ) (l.foldl rKb ρ)
  | [], _, _, h => h
  | i :: l, κ, ρ, h => by rw [List.foldl_cons, List.foldl_cons]; exact kbs_ag l _ _ (kb_ag h)
theorem kbs_m : ∀ (l : List Nat) (κ κ0 : ax_R), m32 κ0 κ → m32 κ0 (l.foldl cKb κ)
  | [], _, _, h => h
  | i :: l, κ, κ0, h => by
    rw [List.foldl_cons]
    refine kbs_m l _ _ ?_
    unfold cKb
    split
    · exact m32_ru h
    · exact h
theorem rkbs_m : ∀ (l : List Nat) (κ κ0 : ax_R), m32 κ0 κ → m32 κ0 (l.foldl rKb κ)
  | [], _, _, h => h
  | i :: l, κ, κ0, h => by
    rw [List.foldl_cons]
    exact rkbs_m l _ _ (m32_ru h)
theorem km_m : ∀ (l : List Nat) (κ κ0 : ax_R), m32 κ0 κ → m32 κ0 (l.foldl rKm κ)
  | [], _, _, h => h
  | i :: l, κ, κ0, h => by
    rw [List.foldl_cons]
    exact km_m l _ _ (m32_ru h)
theorem km_ag : ∀ (l : List Nat) (κ ρ : ax_R), ag κ ρ → ag (l.foldl rKm κ) (l.foldl rKm ρ)
  | [], _, _, h => h
  | i :: l, κ, ρ, h => by rw [List.foldl_cons, List.foldl_cons]; exact km_ag l _ _ (ag_ru h)
theorem kt_one {p t0 : Nat} : ∀ (l : List Nat) (ρ : ax_R), l.Nodup → (∀ t, ρ.1 16 t = p → t = t0) → ρ.1 16 t0 = p → rKt p l ρ = if t0 ∈ l ∧ ρ.1 12 t0 = 7 then (if rKa ρ t0 = true then (none, (rI ρ t0).foldl rKb ρ) else (some t0, ρ)) else (none, ρ)
  | [], _, _, _, _ => by rw [if_neg (by simp)]; rfl
  | x :: l, ρ, hn, hu, h0 => by
    have hn := List.nodup_cons.mp hn
    unfold rKt
    by_cases z : x = t0
    · subst z
      by_cases y : ρ.1 12 x = 7
      · rw [if_pos (show ρ.1 16 x = p ∧ ρ.1 12 x = 7 from ⟨h0, y⟩), if_pos (show x ∈ x :: l ∧ ρ.1 12 x = 7 from ⟨List.mem_cons_self, y⟩)]
        by_cases w : rKa ρ x = true
        · rw [if_pos w, if_pos w]
          have e := (rkbs_m (rI ρ x) ρ ρ m32_rfl).1
          rw [kt_one (t0 := x) l ((rI ρ x).foldl rKb ρ) hn.2 (by rw [e]; exact hu) (by rw [e]; exact h0), if_neg (fun q => hn.1 q.1)]
        · rw [if_neg w, if_neg w]
      · rw [if_neg (fun q => y q.2), if_neg (fun q => y q.2), kt_one l ρ hn.2 hu h0, if_neg (fun q => y q.2)]
    · rw [if_neg (fun q => z (hu x q.1)), kt_one l ρ hn.2 hu h0]
      have : (t0 ∈ x :: l) ↔ t0 ∈ l := by
        rw [List.mem_cons]
        exact ⟨fun q => q.resolve_left (fun e => z e.symm), Or.inr⟩
      simp only [this]
theorem iv_ck : ∀ (n p : Nat) (κ ρ : ax_R), Iv κ ρ b (fun _ => True) → p + n = κ.1 17 0 → (cKt (List.range' p n) κ).1 = (rKp (κ.1 10 0) (List.range' (p + 1) n) ρ).1 ∧ Iv (cKt (List.range' p n) κ).2 (rKp (κ.1 10 0) (List.range' (p + 1) n) ρ).2 b (fun _ => True)
  | 0, p, κ, ρ, h, _ => ⟨rfl, h⟩
  | n + 1, p, κ, ρ, h, hp => by
    have ha := h.ag
    have hw := h.kf
    have hT := hw.bp p (by omega)
    have h16 := h.pa p (by omega)
    rw [List.range'_succ, List.range'_succ]
    unfold cKt rKp
    rw [kt_one (t0 := κ.1 47 p) _ ρ rg_nd (fun t q => by
        rw [ha.n 16 (by decide)] at q
        have := (h.pb t (by omega)).2
        rw [q] at this
        exact this.symm) (by rw [ha.n 16 (by decide)]; exact h16), ha.n 12 (by decide)]
    have hm : κ.1 47 p ∈ List.range' 0 (κ.1 10 0) := List.mem_range'_1.mpr (by omega)
    have eKa : rKa ρ (κ.1 47 p) = rKa κ (κ.1 47 p) := by
      unfold rKa
      rw [ag_rI ha, ha.r 32 (by decide), ha.n 18 (by decide), ha.n 19 (by decide), ha.r 20 (by decide)]
    by_cases z : κ.1 12 (κ.1 47 p) = 7
    · rw [if_pos z, if_pos (show κ.1 47 p ∈ List.range' 0 (κ.1 10 0) ∧ κ.1 12 (κ.1 47 p) = 7 from ⟨hm, z⟩), eKa]
      by_cases y : rKa κ (κ.1 47 p) = true
      · rw [if_pos y, if_pos y]
        have m1 := kbs_m (rI κ (κ.1 47 p)) κ κ m32_rfl
        have m2 := rkbs_m (rI ρ (κ.1 47 p)) ρ ρ m32_rfl
        have h2 : Iv ((rI κ (κ.1 47 p)).foldl cKb κ) ((rI ρ (κ.1 47 p)).foldl rKb ρ) b (fun _ => True) := iv_m32 h (kf_kbs _ _ hw) (by rw [ag_rI ha]; exact kbs_ag _ _ _ ha) m1 m2
        have := iv_ck n (p + 1) _ _ h2 (by rw [m1.1]; omega)
        rw [m1.1] at this
        exact this
      · rw [if_neg y, if_neg y]
        exact ⟨rfl, h⟩
    · rw [if_neg z, if_neg (fun q => z q.2)]
      exact iv_ck n (p + 1) κ ρ h (by omega)
theorem iv_check (h : Iv κ ρ b (fun _ => True)) : (cCk κ).1 = (rCk ρ).1 ∧ Iv (cCk κ).2 (rCk ρ).2 b (fun _ => True) := by
  have ha := h.ag
  have m1 := km_m (List.range' 0 48) κ κ m32_rfl
  have m2 := km_m (List.range' 0 48) ρ ρ m32_rfl
  have h2 := iv_m32 h (kf_km (List.range' 0 48) κ h.kf) (km_ag _ _ _ ha) m1 m2
  have := iv_ck (κ.1 17 0) 0 _ _ h2 (by rw [m1.1]; omega)
  unfold cCk rCk
  rw [ha.n 10 (by decide), ha.n 17 (by decide)]
  rw [m1.1] at this
  exact this
end PU16
