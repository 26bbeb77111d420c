/-! Each call, on both sides: the answers are the same, and the invariant holds behind it. -/
section OPS
variable {κ ρ : ax_R} {b : Nat}
theorem kn_c {n : Nat} (hn : n ≤ 60) (x : Int32) : ((decide (0 ≤ x) && decide (x ≤ nI n - 1)) = true ∧ ∃ j, j < n ∧ x = nI j) ∨ ((decide (0 ≤ x) && decide (x ≤ nI n - 1)) = false ∧ ¬ (0 ≤ x ∧ x < nI n)) := by
  cases h : (decide (0 ≤ x) && decide (x ≤ nI n - 1)) with
  | true => exact Or.inl ⟨rfl, (rf_in (by omega)).mp h⟩
  | false =>
    refine Or.inr ⟨rfl, fun z => ?_⟩
    obtain ⟨j, hj, rfl⟩ := nI_inr hn z
    rw [(rf_in (by omega)).mpr ⟨j, hj, rfl⟩] at h
    cases h
/-- what a call of both objects comes to -/
def opR (κ ρ : ax_R) (b : Nat) (mC : ax_M) (yC : MethodName) (dC cC sC : Nat) (mR : ax_M) (yR : MethodName) (dR : Nat) (As : List ax_V) : Prop :=
  ∃ (a : Int32) (κ2 ρ2 : ax_R), ax_Ok mC yC dC cC sC (ax_r (1, 0) :: As) (fh (ch κ) ρ) (ax_D (ax_i a) (fh (ch κ2) ρ)) ∧ ax_Ok mR yR dR 0 0 (ax_r (80, 0) :: As) (fh (ch κ2) ρ) (ax_D (ax_i a) (fh (ch κ2) ρ2)) ∧ Iv κ2 ρ2 (b + 100) (fun _ => True)
theorem opR.same {a : Int32} {mC : ax_M} {yC : MethodName} {dC cC sC : Nat} {mR : ax_M} {yR : MethodName} {dR : Nat} {As : List ax_V} (h : Iv κ ρ b (fun _ => True)) (h1 : ax_Ok mC yC dC cC sC (ax_r (1, 0) :: As) (fh (ch κ) ρ) (ax_D (ax_i a) (fh (ch κ) ρ))) (h2 : ax_Ok mR yR dR 0 0 (ax_r (80, 0) :: As) (fh (ch κ) ρ) (ax_D (ax_i a) (fh (ch κ) ρ))) : opR κ ρ b mC yC dC cC sC mR yR dR As := ⟨a, κ, ρ, h1, h2, iv_mono h (by omega)⟩
theorem opR.mk {a a2 : Int32} {κ2 ρ2 : ax_R} {b2 : Nat} {mC : ax_M} {yC : MethodName} {dC cC sC : Nat} {mR : ax_M} {yR : MethodName} {dR : Nat} {As : List ax_V} (h1 : ax_Ok mC yC dC cC sC (ax_r (1, 0) :: As) (fh (ch κ) ρ) (ax_D (ax_i a) (fh (ch κ2) ρ))) (h2 : ax_Ok mR yR dR 0 0 (ax_r (80, 0) :: As) (fh (ch κ2) ρ) (ax_D (ax_i a2) (fh (ch κ2) ρ2))) (e : a = a2) (h : Iv κ2 ρ2 b2 (fun _ => True)) (hb : b2 ≤ b + 100) : opR κ ρ b mC yC dC cC sC mR yR dR As := by
  subst e
  exact ⟨a, κ2, ρ2, h1, h2, iv_mono h hb⟩
theorem op_region (h : Iv κ ρ b (fun _ => True)) (x y z : Int32) : opR κ ρ b mX3_region yX3_region 9 7 200 mX4_region yX4_region 3 [ax_i x, ax_i y, ax_i z] := by
  cases hu : rgU x y z with
  | true => exact opR.same h (ok_cregion0 hu) (ok_region0 hu)
  | false =>
    unfold rgU at hu
    simp only [Bool.or_eq_false_iff, Bool.and_eq_false_iff, Bool.not_eq_false'] at hu
    obtain ⟨⟨h1, h2⟩, h3⟩ := hu
    obtain ⟨a, ha, rfl⟩ := rf_in5.mp h1
    by_cases hy : y = -9
    · subst hy
      have hz : z = -9 := by
        rcases h3 with q | ⟨q1, q2⟩
        · simpa using q
        · simp at q2
      subst hz
      exact opR.mk (ok_cregion1 h.kf ha) (ok_region1 h.rf ha) (iv_reg1 h ha).1 (iv_reg1 h ha).2 (by omega)
    · have hy2 : isM y = true := by
        rcases h2 with q | q
        · exact absurd (by simpa using q) hy
        · exact q
      obtain ⟨c, hc, rfl⟩ := rf_in5.mp hy2
      by_cases hz : z = -9
      · subst hz
        exact opR.mk (ok_cregion2 h.kf ha hc) (ok_region2 h.rf ha hc) (iv_reg2 h ha hc).1 (iv_reg2 h ha hc).2 (by omega)
      · have hz2 : isM z = true := by
          rcases h3 with q | ⟨q1, q2⟩
          · exact absurd (by simpa using q) hz
          · exact q1
        obtain ⟨d, hd, rfl⟩ := rf_in5.mp hz2
        exact opR.mk (ok_cregion3 h.kf ha hc hd) (ok_region3 h.rf ha hc hd) (iv_reg3 h ha hc hd).1 (iv_reg3 h ha hc hd).2 (by omega)
theorem op_fail (h : Iv κ ρ b (fun _ => True)) (x : Int32) : opR κ ρ b mX3_fail yX3_fail 3 0 0 mX4_fail yX4_fail 3 [ax_i x] := by
  cases hx : isM x with
  | false => exact opR.same h (ok_cfail0 hx) (ok_fail0 hx)
  | true =>
    obtain ⟨m, hm, rfl⟩ := rf_in5.mp hx
    exact opR.mk (ok_cfail hm) (ok_fail h.rf hm) (iv_fail h).1 (iv_fail h).2 (by omega)
theorem op_configure (h : Iv κ ρ b (fun _ => True)) (hb : b + 100 < 1000000) : opR κ ρ b mX3_configure yX3_configure 8 0 0 mX4_configure yX4_configure 6 [] := by
  have h21 : ∀ j, κ.1 21 j + 1 < 1000000 := fun j => by have := (h.bd j).2.1; omega
  have h3 : κ.1 3 0 + 1 < 1000000 := by have := (h.bd 0).2.2.1; omega
  have i := iv_conf h (by omega)
  exact opR.mk (ok_cconfigure h.kf h21 h3) (ok_configure h.rf (by rw [h.ag.n 21 (by decide)]; exact h21) (by rw [h.ag.n 3 (by decide)]; exact h3)) i.1 i.2 (by omega)
theorem op_copy (h : Iv κ ρ b (fun _ => True)) (hb : b + 100 < 1000000) (x y : Int32) : opR κ ρ b mX3_copy yX3_copy 6 0 0 mX4_copy yX4_copy 4 [ax_i x, ax_i y] := by
  have h6 := h.kf.nR
  have e4 : ρ.1 4 0 = κ.1 4 0 := by rw [h.ag.n 4 (by decide)]
  rcases kn_c (n := κ.1 4 0) (by omega) x with ⟨k1, r, hr, rfl⟩ | ⟨k1, k2⟩
  · cases hy : isM y with
    | false =>
      refine opR.same h (ok_ccopy0 h.kf (Or.inr hy)) (ok_copy0 ?_)
      rw [show (decide (0 ≤ y) && decide (y ≤ 5)) = false from hy, Bool.and_false]
    | true =>
      obtain ⟨m, hm, rfl⟩ := rf_in5.mp hy
      have i := iv_copy h hr hm (by omega)
      exact opR.mk (ok_ccopy h.kf hr hm (h.m3 r)) (ok_copy h.rf (by omega) hm (by rw [e4]; exact k1) hy i.2.2) i.1 i.2.1 (by omega)
  · refine opR.same h (ok_ccopy0 h.kf (Or.inl k2)) (ok_copy0 ?_)
    rw [e4, k1, Bool.false_and]
theorem op_machine (h : Iv κ ρ b (fun _ => True)) (x w : Int32) : opR κ ρ b mX3_machine yX3_machine 5 0 0 mX4_machine yX4_machine 3 [ax_i x, ax_i w] := by
  cases hx : isM x with
  | false => exact opR.same h (ok_cmachine0 hx) (ok_machine0 hx)
  | true =>
    obtain ⟨m, hm, rfl⟩ := rf_in5.mp hx
    exact opR.mk (ok_cmachine h.kf hm w) (ok_machine h.rf hm w) (an_machine h hm) h (by omega)
theorem op_copyAt (h : Iv κ ρ b (fun _ => True)) (x y : Int32) : opR κ ρ b mX3_copyAt yX3_copyAt 5 0 0 mX4_copyAt yX4_copyAt 3 [ax_i x, ax_i y] := by
  have h6 := h.kf.nR
  have e4 : ρ.1 4 0 = κ.1 4 0 := by rw [h.ag.n 4 (by decide)]
  rcases kn_c (n := κ.1 4 0) (by omega) x with ⟨k1, r, hr, rfl⟩ | ⟨k1, k2⟩
  · exact opR.mk (ok_ccopyAt h.kf hr) (ok_copyAt h.rf (by omega) (by rw [e4]; exact k1)) (an_copyAt h) h (by omega)
  · exact opR.same h (ok_ccopyAt0 k2) (ok_copyAt0 (by rw [e4]; exact k1))
theorem op_object (h : Iv κ ρ b (fun _ => True)) (x y z w : Int32) : opR κ ρ b mX3_object yX3_object 6 0 0 mX4_object yX4_object 4 [ax_i x, ax_i y, ax_i z, ax_i w] := by
  have h6 := h.kf.nR
  have e4 : ρ.1 4 0 = κ.1 4 0 := by rw [h.ag.n 4 (by decide)]
  rcases kn_c (n := κ.1 4 0) (by omega) x with ⟨k1, r, hr, rfl⟩ | ⟨k1, k2⟩
  · have k1 : (decide (0 ≤ nI r) && decide (nI r ≤ nI (ρ.1 4 0) - 1)) = true := by rw [e4]; exact k1
    cases hz : isO z with
    | false => exact opR.same h (ok_cobject1 h.kf hr hz) (ok_object1 k1 hz)
    | true =>
      obtain ⟨q, hq, rfl⟩ := rf_in7.mp hz
      have h5 := h.kf.c6 r
      have eP : rP ρ r y = if y < 0 then -9 else oI ((rL κ r)[y.toNatClampNeg]?) := by unfold rP; rw [ag_rL h.ag]
      have eM : cMo κ r y = if y < 0 then -9 else oM κ r ((rL κ r)[y.toNatClampNeg]?) := rfl
      by_cases hy : y < 0
      · rw [if_pos hy] at eP eM
        exact opR.same h (ok_cobject2 h.kf hr hq eM) (ok_object2 h.rf (by omega) hq k1 eP)
      · rw [if_neg hy] at eP eM
        cases hk : (rL κ r)[y.toNatClampNeg]? with
        | none =>
          rw [hk] at eP eM
          exact opR.same h (ok_cobject2 h.kf hr hq eM) (ok_object2 h.rf (by omega) hq k1 eP)
        | some p =>
          rw [hk] at eP eM
          have hp := List.mem_range'_1.mp (List.mem_filter.mp (List.mem_of_getElem? hk)).1
          exact opR.mk (ok_cobject h.kf hr hq (by omega) eM) (ok_object h.rf (by omega) hq (by omega) k1 eP) (an_object h eP (by omega)) h (by omega)
  · exact opR.same h (ok_cobject0 k2) (ok_object0 (by rw [e4]; exact k1))
theorem op_begin (h : Iv κ ρ b (fun _ => True)) (x : Int32) : opR κ ρ b mX3_begin yX3_begin 9 3 83 mX4_begin yX4_begin 3 [ax_i x] := by
  cases hx : isM x with
  | false => exact opR.same h (ok_cbegin0 hx) (ok_begin0 hx)
  | true =>
    obtain ⟨m, hm, rfl⟩ := rf_in5.mp hx
    exact opR.mk (ok_cbegin h.kf hm) (ok_begin h.rf hm) (iv_begin h hm).1 (iv_begin h hm).2 (by omega)
theorem kn_rw (h : Iv κ ρ b (fun _ => True)) (x y z : Int32) : (rKn ρ x y z = true ∧ ∃ t r q, t < κ.1 10 0 ∧ r < κ.1 4 0 ∧ q < 8 ∧ x = nI t ∧ y = nI r ∧ z = nI q) ∨ (rKn ρ x y z = false ∧ (¬ (0 ≤ x ∧ x < nI (κ.1 10 0)) ∨ ¬ (0 ≤ y ∧ y < nI (κ.1 4 0)) ∨ isO z = false)) := by
  have h6 := h.kf.nR
  have h60 := h.kf.nT
  unfold rKn
  rw [h.ag.n 4 (by decide), h.ag.n 10 (by decide)]
  rcases kn_c (n := κ.1 10 0) h60 x with ⟨k1, t, ht, rfl⟩ | ⟨k1, k2⟩
  · rcases kn_c (n := κ.1 4 0) (by omega) y with ⟨k3, r, hr, rfl⟩ | ⟨k3, k4⟩
    · cases hz : isO z with
      | false =>
        right
        rw [show (decide (0 ≤ z) && decide (z ≤ 7)) = false from hz]
        exact ⟨by simp, Or.inr (Or.inr rfl)⟩
      | true =>
        obtain ⟨q, hq, rfl⟩ := rf_in7.mp hz
        left
        rw [k1, k3, show (decide (0 ≤ nI q) && decide (nI q ≤ 7)) = true from hz]
        exact ⟨rfl, t, r, q, ht, hr, hq, rfl, rfl, rfl⟩
    · right
      rw [k3]
      exact ⟨by simp, Or.inr (Or.inl k4)⟩
  · right
    rw [k1]
    exact ⟨by simp, Or.inl k2⟩
theorem op_read (h : Iv κ ρ b (fun _ => True)) (hb : b + 100 < 1000000) (x y z : Int32) : opR κ ρ b mX3_read yX3_read 9 2 81 mX4_read yX4_read 5 [ax_i x, ax_i y, ax_i z] := by
  have h6 := h.kf.nR
  have h60 := h.kf.nT
  rcases kn_rw h x y z with ⟨k, t, r, q, ht, hr, hq, rfl, rfl, rfl⟩ | ⟨k, hu⟩
  · have i := iv_read h ht hr hq (by omega)
    exact opR.mk (ok_cread h.kf ht hr hq) (ok_read h.rf (by omega) (by omega) hq k) i.1 i.2 (by omega)
  · exact opR.same h (ok_cread0 h.kf hu) (ok_read0 k)
theorem op_write (h : Iv κ ρ b (fun _ => True)) (hb : b + 100 < 1000000) (x y z v : Int32) : opR κ ρ b mX3_write yX3_write 9 2 81 mX4_write yX4_write 5 [ax_i x, ax_i y, ax_i z, ax_i v] := by
  have h6 := h.kf.nR
  have h60 := h.kf.nT
  rcases kn_rw h x y z with ⟨k, t, r, q, ht, hr, hq, rfl, rfl, rfl⟩ | ⟨k, hu⟩
  · cases hv : rVal v with
    | false => exact opR.same h (ok_cwrite1 h.kf ht hr hq hv) (ok_write1 k hv)
    | true =>
      have i := iv_write (v := v) h ht hr hq (by omega)
      exact opR.mk (ok_cwrite h.kf ht hr hq hv) (ok_write h.rf (by omega) (by omega) hq k hv) i.1 i.2 (by omega)
  · exact opR.same h (ok_cwrite0 h.kf hu) (ok_write0 k)
theorem op_commit (h : Iv κ ρ b (fun _ => True)) (x : Int32) : opR κ ρ b mX3_commit yX3_commit 10 1 73 mX4_commit yX4_commit 7 [ax_i x] := by
  have h60 := h.kf.nT
  have e10 : ρ.1 10 0 = κ.1 10 0 := by rw [h.ag.n 10 (by decide)]
  have e17 : ρ.1 17 0 = κ.1 17 0 := by rw [h.ag.n 17 (by decide)]
  rcases kn_c (n := κ.1 10 0) h60 x with ⟨k1, t, ht, rfl⟩ | ⟨k1, k2⟩
  · have i := iv_commit h ht
    exact opR.mk (ok_ccommit h.kf ht (fun z => h.p60 ht (by rw [(cEn_0 z).1]; omega))) (ok_commit h.rf (by omega) (by have := h.kf.nP; omega) (by rw [e10]; exact k1)) i.1 i.2 (by omega)
  · exact opR.same h (ok_ccommit0 k2) (ok_commit0 (by rw [e10]; exact k1))
theorem op_drop (h : Iv κ ρ b (fun _ => True)) (x : Int32) : opR κ ρ b mX3_drop yX3_drop 5 0 0 mX4_drop yX4_drop 3 [ax_i x] := by
  have h60 := h.kf.nT
  have e10 : ρ.1 10 0 = κ.1 10 0 := by rw [h.ag.n 10 (by decide)]
  rcases kn_c (n := κ.1 10 0) h60 x with ⟨k1, t, ht, rfl⟩ | ⟨k1, k2⟩
  · have i := iv_drop h ht
    exact opR.mk (ok_cdrop h.kf ht) (ok_drop h.rf (by omega) (by rw [e10]; exact k1)) i.1 i.2 (by omega)
  · exact opR.same h (ok_cdrop0 k2) (ok_drop0 (by rw [e10]; exact k1))
theorem op_step (h : Iv κ ρ b (fun _ => True)) (hb : b + 100 < 1000000) (x : Int32) : opR κ ρ b mX3_step yX3_step 11 1 73 mX4_step yX4_step 9 [ax_i x] := by
  have h60 := h.kf.nT
  have e10 : ρ.1 10 0 = κ.1 10 0 := by rw [h.ag.n 10 (by decide)]
  rcases kn_c (n := κ.1 10 0) h60 x with ⟨k1, t, ht, rfl⟩ | ⟨k1, k2⟩
  · have i := iv_go h ht (by omega)
    exact opR.mk (ok_cstep (h.cg ht (by omega)) ht) (ok_step (by omega) (h.rg ht (by omega)) (by rw [e10]; exact k1)) i.1 i.2 (by omega)
  · exact opR.same h (ok_cstep0 k2) (ok_step0 (by rw [e10]; exact k1))
theorem in100 {y : Int32} (h : (decide (1 ≤ y) && decide (y ≤ 100)) = true) : ∃ n, 1 ≤ n ∧ n ≤ 100 ∧ y = nI n := by
  simp only [Bool.and_eq_true, decide_eq_true_eq] at h
  have h0 : ¬ y < 0 := fun z => by
    have := Int32.lt_of_lt_of_le z (by decide : (0 : Int32) ≤ 1)
    exact absurd h.1 (Int32.not_le.mpr this)
  obtain ⟨j, hj, rfl⟩ := nI_of h0
  refine ⟨j, ?_, ?_, rfl⟩
  · have := h.1
    rw [show (1 : Int32) = nI 1 from rfl, nI_leI (by decide) hj] at this
    exact this
  · have := h.2
    rw [show (100 : Int32) = nI 100 from rfl, nI_leI hj (by decide)] at this
    exact this
theorem op_run (h : Iv κ ρ b (fun _ => True)) (hb : b + 100 < 1000000) (x y : Int32) : opR κ ρ b mX3_run yX3_run 11 100 7300 mX4_run yX4_run 9 [ax_i x, ax_i y] := by
  have h60 := h.kf.nT
  have e10 : ρ.1 10 0 = κ.1 10 0 := by rw [h.ag.n 10 (by decide)]
  rcases kn_c (n := κ.1 10 0) h60 x with ⟨k1, t, ht, rfl⟩ | ⟨k1, k2⟩
  · have k1 : (decide (0 ≤ nI t) && decide (nI t ≤ nI (ρ.1 10 0) - 1)) = true := by rw [e10]; exact k1
    cases hy : (decide (1 ≤ y) && decide (y ≤ 100)) with
    | false => exact opR.same h (ok_crun1 h.kf ht hy) (ok_run1 k1 hy)
    | true =>
      obtain ⟨n, n1, n2, rfl⟩ := in100 hy
      cases hac : rAc κ t with
      | false => exact opR.same h (ok_crun2 h.kf ht n1 n2 hac) (ok_run2 h.rf (by omega) n1 n2 (by rw [ag_rAc h.ag]; exact hac) k1)
      | true =>
        have i := iv_run n κ ρ b h ht (by omega)
        refine opR.mk (ok_crunJ h.kf ht n1 n2 (fun m κ' => ∃ ρ' b', Iv κ' ρ' b' (fun _ => True) ∧ t < κ'.1 10 0 ∧ b' + m < 1000000) (fun m κ' j => ?_) (fun m κ' j _ => ?_) ⟨ρ, b, h, ht, by omega⟩ hac) (ok_runJ h.rf (by omega) n1 n2 (fun m ρ' => ∃ κ' b', Iv κ' ρ' b' (fun _ => True) ∧ t < κ'.1 10 0 ∧ b' + m < 1000000) (fun m ρ' j => ?_) (fun m ρ' j _ _ => ?_) ⟨κ, b, h, ht, by omega⟩ (by rw [ag_rAc h.ag]; exact hac) k1) (by rw [i.1]) i.2 (by omega)
        · obtain ⟨ρ', b', j1, j2, j3⟩ := j
          exact ⟨j1.cg j2 (by omega), j2⟩
        · obtain ⟨ρ', b', j1, j2, j3⟩ := j
          exact ⟨(rGo ρ' t).2, b' + 1, (iv_go j1 j2 (by omega)).2, by rw [ta_10]; exact j2, by omega⟩
        · obtain ⟨κ', b', j1, j2, j3⟩ := j
          exact j1.rg j2 (by omega)
        · obtain ⟨κ', b', j1, j2, j3⟩ := j
          exact ⟨(cTa κ' t).2, b' + 1, (iv_go j1 j2 (by omega)).2, by rw [ta_10]; exact j2, by omega⟩
  · exact opR.same h (ok_crun0 k2) (ok_run0 (by rw [e10]; exact k1))
theorem op_about (h : Iv κ ρ b (fun _ => True)) (x w : Int32) : opR κ ρ b mX3_about yX3_about 5 0 0 mX4_about yX4_about 3 [ax_i x, ax_i w] := by
  have h60 := h.kf.nT
  have e10 : ρ.1 10 0 = κ.1 10 0 := by rw [h.ag.n 10 (by decide)]
  rcases kn_c (n := κ.1 10 0) h60 x with ⟨k1, t, ht, rfl⟩ | ⟨k1, k2⟩
  · exact opR.mk (ok_cabout h.kf ht w) (ok_about h.rf (by omega) (by rw [e10]; exact k1) w) (an_about h) h (by omega)
  · exact opR.same h (ok_cabout0 k2) (ok_about0 (by rw [e10]; exact k1))
theorem op_item (h : Iv κ ρ b (fun _ => True)) (x y w : Int32) : opR κ ρ b mX3_item yX3_item 5 0 0 mX4_item yX4_item 3 [ax_i x, ax_i y, ax_i w] := by
  have h60 := h.kf.nT
  have e10 : ρ.1 10 0 = κ.1 10 0 := by rw [h.ag.n 10 (by decide)]
  have e14 : ∀ t, ρ.1 14 t = κ.1 14 t := fun t => by rw [h.ag.n 14 (by decide)]
  rcases kn_c (n := κ.1 10 0) h60 x with ⟨k1, t, ht, rfl⟩ | ⟨k1, k2⟩
  · have k1 : (decide (0 ≤ nI t) && decide (nI t ≤ nI (ρ.1 10 0) - 1)) = true := by rw [e10]; exact k1
    have h8 := h.kf.i8 t
    rcases kn_c (n := κ.1 14 t) (by omega) y with ⟨k3, i, hi, rfl⟩ | ⟨k3, k4⟩
    · exact opR.mk (ok_citem h.kf ht hi w) (ok_item h.rf (by omega) (by rw [e14]; exact hi) k1 w) (an_item h) h (by omega)
    · exact opR.same h (ok_citem1 h.kf ht k4) (ok_item1 (by omega) k1 (by rw [e14]; exact k3))
  · exact opR.same h (ok_citem0 k2) (ok_item0 (by rw [e10]; exact k1))
theorem op_check (h : Iv κ ρ b (fun _ => True)) : opR κ ρ b mX3_check yX3_check 5 0 0 mX4_check yX4_check 1 [] := by
  have i := iv_check h
  exact opR.mk (ok_ccheck h.kf) (ok_check h.rf) (by rw [i.1]) i.2 (by omega)
theorem op_unlike (h : Iv κ ρ b (fun _ => True)) : opR κ ρ b mX3_unlike yX3_unlike 4 0 0 mX4_unlike yX4_unlike 4 [] :=
  opR.mk (ok_cunlike h.kf) (ok_unlike h.rf) (an_unlike h) h (by omega)
theorem op_count (h : Iv κ ρ b (fun _ => True)) (w : Int32) : opR κ ρ b mX3_count yX3_count 5 0 0 mX4_count yX4_count 5 [ax_i w] :=
  opR.mk (ok_ccount h.kf w) (ok_count h.rf w) (an_count h) h (by omega)
/-- the invariant at the start -/
theorem iv_new : Iv rNew rNew 0 (fun _ => True) := by
  have e1 : ∀ k j, rNew.1 k j = 0 := fun k j => by rw [new_1]
  have b41 : ∀ j, rNew.2.1 41 j = false := fun j => by rw [new_b]; simp
  have b22 : ∀ j, rNew.2.1 22 j = false := fun j => by rw [new_b]; simp
  refine ⟨kf_new, ag.rfl2, ⟨fun j => by rw [e1]; omega, fun j => by rw [e1]; omega, fun j => by rw [e1]; omega, fun j => by rw [e1]; omega, fun j => by rw [e1]; omega, fun j => by rw [e1]; omega, fun j => by rw [e1]; omega, by rw [e1]; omega, fun k => Or.inr ⟨0, by omega, by rw [new_r, if_neg (by simp)]; rfl⟩⟩, fun j => ⟨by rw [e1]; omega, by rw [e1]; omega, by rw [e1]; omega, by rw [e1]; omega⟩, fun m hm => ?_, fun r => ?_, fun t i j hi => ?_, fun r o hr => ?_, fun p hp => ?_, fun t ht => ?_, fun t _ => e1 _ _, fun k hk => ?_, fun e he => ?_, fun k k2 e e2 _ hk => ?_, fun e he => ?_, fun t ht => ?_, ⟨fun _ => 0, by rw [e1]; exact Nat.zero_le _, fun _ => Nat.zero_le _, fun _ _ => rfl, fun _ _ => Nat.zero_le _⟩, fun t i ht => ?_⟩
  · rw [new_b] at hm ⊢
    simp at hm ⊢
    exact hm
  · unfold rM
    rw [e1]
    exact Nat.zero_le _
  · rw [e1] at hi; omega
  · rw [e1] at hr; omega
  · rw [e1] at hp; omega
  · exact absurd (e1 _ _) ht
  · rw [e1] at hk; omega
  · rw [b41] at he; cases he
  · rw [e1] at hk; omega
  · rw [b41] at he; cases he
  · rw [e1] at ht; omega
  · rw [e1] at ht; omega
end OPS
