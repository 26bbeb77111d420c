/-! Sets of machines as numbers below 64 -/
def m6 (a b c d e f : Bool) : Nat := a.toNat + 2 * b.toNat + 4 * c.toNat + 8 * d.toNat + 16 * e.toNat + 32 * f.toNat
theorem mk_m6 (P : Nat → Bool) : mk P = m6 (P 0) (P 1) (P 2) (P 3) (P 4) (P 5) := rfl
theorem mk_lt (P : Nat → Bool) : mk P < 64 := by
  rw [mk_m6]
  generalize P 0 = a; generalize P 1 = b; generalize P 2 = c; generalize P 3 = d; generalize P 4 = e; generalize P 5 = f
  revert a b c d e f; decide +kernel
theorem m6_and : ∀ a b c d e f a' b' c' d' e' f' : Bool, m6 a b c d e f &&& m6 a' b' c' d' e' f' = m6 (a && a') (b && b') (c && c') (d && d') (e && e') (f && f') := by decide +kernel
theorem m6_or : ∀ a b c d e f a' b' c' d' e' f' : Bool, m6 a b c d e f ||| m6 a' b' c' d' e' f' = m6 (a || a') (b || b') (c || c') (d || d') (e || e') (f || f') := by decide +kernel
theorem m6_nt : ∀ a b c d e f : Bool, 63 ^^^ m6 a b c d e f = m6 (!a) (!b) (!c) (!d) (!e) (!f) := by decide +kernel
theorem mk_and (P Q : Nat → Bool) : mk P &&& mk Q = mk (fun m => P m && Q m) := m6_and _ _ _ _ _ _ _ _ _ _ _ _
theorem mk_or (P Q : Nat → Bool) : mk P ||| mk Q = mk (fun m => P m || Q m) := m6_or _ _ _ _ _ _ _ _ _ _ _ _
theorem mk_nt (P : Nat → Bool) : 63 ^^^ mk P = mk (fun m => !P m) := m6_nt _ _ _ _ _ _
theorem mk_co {P Q : Nat → Bool} (h : ∀ m, m < 6 → P m = Q m) : mk P = mk Q := by
  simp only [mk, h 0 (by decide), h 1 (by decide), h 2 (by decide), h 3 (by decide), h 4 (by decide), h 5 (by decide)]
theorem mk_bit : ∀ m, m < 6 → 2 ^ m = mk (fun x => decide (x = m)) := by decide +kernel
theorem m6_inj : ∀ a b c d e f a' b' c' d' e' f' : Bool, m6 a b c d e f = m6 a' b' c' d' e' f' → (a = a' ∧ b = b' ∧ c = c' ∧ d = d' ∧ e = e' ∧ f = f') := by decide +kernel
theorem mk_inj {P Q : Nat → Bool} : mk P = mk Q ↔ ∀ m, m < 6 → P m = Q m := by
  refine ⟨fun h m hm => ?_, mk_co⟩
  obtain ⟨h0, h1, h2, h3, h4, h5⟩ := m6_inj _ _ _ _ _ _ _ _ _ _ _ _ h
  match m, hm with
  | 0, _ => exact h0
  | 1, _ => exact h1
  | 2, _ => exact h2
  | 3, _ => exact h3
  | 4, _ => exact h4
  | 5, _ => exact h5
theorem mk_0 : mk (fun _ => false) = 0 := rfl
theorem mk_z {P : Nat → Bool} : mk P = 0 ↔ (List.range' 0 6).any P = false := by
  have e := mk_inj (P := P) (Q := fun _ => false)
  rw [mk_0] at e
  rw [e]
  simp only [List.any_eq_false, List.mem_range'_1, Bool.not_eq_true]
  exact ⟨fun h m hm => h m (by omega), fun h m hm => h m (by omega)⟩
theorem m6_pc : ∀ a b c d e f : Bool, ax_pc6 (m6 a b c d e f) = (List.range' 0 6).countP (fun m => match m with | 0 => a | 1 => b | 2 => c | 3 => d | 4 => e | _ => f) := by decide +kernel
theorem cP_co {P Q : Nat → Bool} {l : List Nat} (h : ∀ m ∈ l, P m = Q m) : l.countP P = l.countP Q := List.countP_congr fun m hm => by rw [h m hm]
theorem mk_pc (P : Nat → Bool) : ax_pc6 (mk P) = (List.range' 0 6).countP P := by
  rw [mk_m6, m6_pc]
  refine cP_co fun m hm => ?_
  have hm : m < 6 := by have := List.mem_range'_1.mp hm; omega
  match m, hm with
  | 0, _ => rfl
  | 1, _ => rfl
  | 2, _ => rfl
  | 3, _ => rfl
  | 4, _ => rfl
  | 5, _ => rfl
theorem i_and64 : ∀ a, a < 64 → ∀ b, b < 64 → nI a &&& nI b = nI (a &&& b) := by decide +kernel
theorem i_or64 : ∀ a, a < 64 → ∀ b, b < 64 → nI a ||| nI b = nI (a ||| b) := by decide +kernel
theorem i_nt64 : ∀ a, a < 64 → ∀ b, b < 64 → nI a &&& (nI b ^^^ -1) = nI (a &&& (63 ^^^ b)) := by decide +kernel
theorem i_sh64 : ∀ m, m < 6 → nI 1 <<< (nI m &&& 31) = nI (2 ^ m) := by decide +kernel
theorem k_and (P Q : Nat → Bool) : nI (mk P) &&& nI (mk Q) = nI (mk (fun m => P m && Q m)) := by rw [i_and64 _ (mk_lt _) _ (mk_lt _), mk_and]
theorem k_or (P Q : Nat → Bool) : nI (mk P) ||| nI (mk Q) = nI (mk (fun m => P m || Q m)) := by rw [i_or64 _ (mk_lt _) _ (mk_lt _), mk_or]
theorem k_nt (P Q : Nat → Bool) : nI (mk P) &&& (nI (mk Q) ^^^ -1) = nI (mk (fun m => P m && !Q m)) := by rw [i_nt64 _ (mk_lt _) _ (mk_lt _), mk_nt, mk_and]
theorem k_bit {m : Nat} (h : m < 6) : nI 1 <<< (nI m &&& 31) = nI (mk (fun x => decide (x = m))) := by rw [i_sh64 m h, mk_bit m h]
theorem nI_nz {a : Nat} (h : a < 2 ^ 31) : nI a = 0 ↔ a = 0 := by
  constructor
  · intro e
    have := congrArg Int32.toNatClampNeg e
    rw [nI_clamp h] at this
    exact this
  · intro e; rw [e]; rfl
theorem k_z (P : Nat → Bool) : nI (mk P) = 0 ↔ (List.range' 0 6).any P = false := by
  have := mk_lt P
  rw [nI_nz (by omega), mk_z]
theorem k_one {P : Nat → Bool} {m : Nat} (h : m < 6) : nI (mk (fun x => P x && decide (x = m))) = 0 ↔ P m = false := by
  rw [k_z]
  constructor
  · intro e
    have := List.any_eq_false.mp e m (List.mem_range'_1.mpr (by omega))
    simpa using this
  · intro e
    refine List.any_eq_false.mpr fun x _ => ?_
    by_cases q : x = m
    · subst q; simp [e]
    · simp [q]
theorem nI_inj {a b : Nat} (ha : a < 2 ^ 31) (hb : b < 2 ^ 31) : nI a = nI b ↔ a = b := by
  constructor
  · intro e
    have := congrArg Int32.toNatClampNeg e
    rwa [nI_clamp ha, nI_clamp hb] at this
  · intro e; rw [e]
theorem k_inj {P Q : Nat → Bool} : nI (mk P) = nI (mk Q) ↔ ∀ m, m < 6 → P m = Q m := by
  have := mk_lt P
  have := mk_lt Q
  rw [nI_inj (by omega) (by omega), mk_inj]
-- machines of the slots
theorem c_ins {Q A : Nat → Bool} {a : Nat} {b : Bool} : ∀ {l : List Nat}, l.Nodup → a ∈ l → A a = false → l.countP (fun m => ((decide (a = m) && b) || A m) && Q m) = (if (b && Q a) = true then 1 else 0) + l.countP (fun m => A m && Q m)
  | [], _, h, _ => by cases h
  | x :: l, hn, hm, hA => by
    rw [List.nodup_cons] at hn
    rw [List.countP_cons, List.countP_cons]
    by_cases e : a = x
    · subst e
      have : l.countP (fun m => ((decide (a = m) && b) || A m) && Q m) = l.countP (fun m => A m && Q m) := by
        refine cP_co fun m hm => ?_
        have : a ≠ m := fun q => hn.1 (q ▸ hm)
        simp [this]
      rw [this]
      simp [hA]
      omega
    · have hm : a ∈ l := by
        rcases List.mem_cons.mp hm with q | q
        · exact absurd q e
        · exact q
      rw [c_ins hn.2 hm hA]
      simp [e]
      omega
theorem c_map {g : Nat → Nat} {P Q : Nat → Bool} : ∀ {l : List Nat}, (∀ s ∈ l, g s < 6) → (l.map g).Nodup → (List.range' 0 6).countP (fun m => (l.any fun s => decide (g s = m) && P s) && Q m) = l.countP (fun s => P s && Q (g s))
  | [], _, _ => by simp
  | x :: l, h6, hn => by
    rw [List.map_cons, List.nodup_cons] at hn
    have hf : (l.any fun s => decide (g s = g x) && P s) = false := by
      refine List.any_eq_false.mpr fun s hs => ?_
      have : g s ≠ g x := fun q => hn.1 (q ▸ List.mem_map.mpr ⟨s, hs, rfl⟩)
      simp [this]
    have := c_ins (Q := Q) (A := fun m => l.any fun s => decide (g s = m) && P s) (a := g x) (b := P x) (l := List.range' 0 6) (by decide) (List.mem_range'_1.mpr (by have := h6 x List.mem_cons_self; omega)) hf
    rw [List.countP_cons]
    simp only [List.any_cons]
    rw [this, c_map (fun s hs => h6 s (List.mem_cons_of_mem _ hs)) hn.2]
    omega
section PM
variable {κ : ax_R} {r : Nat} {P Q : Nat → Bool}
theorem pm_nd (hw : kf κ) : ((List.range' 0 (κ.1 5 r)).map (fun s => κ.1 6 (6 * r + s))).Nodup := by
  unfold List.Nodup
  rw [List.pairwise_map]
  refine List.Pairwise.imp_of_mem (fun {a b} ha hb e z => e ?_) (List.nodup_range' (s := 0) (n := κ.1 5 r))
  have h1 := List.mem_range'_1.mp ha
  have h2 := List.mem_range'_1.mp hb
  exact hw.ds r a b (by omega) (by omega) z
theorem pm_at (hw : kf κ) {s : Nat} (hs : s < κ.1 5 r) : pm κ r P (κ.1 6 (6 * r + s)) = P s := by
  unfold pm
  cases hp : P s with
  | true => exact List.any_eq_true.mpr ⟨s, List.mem_range'_1.mpr (by omega), by simp [hp]⟩
  | false =>
    refine List.any_eq_false.mpr fun a ha => ?_
    have h1 := List.mem_range'_1.mp ha
    by_cases e : κ.1 6 (6 * r + a) = κ.1 6 (6 * r + s)
    · have := hw.ds r a s (by omega) hs e
      subst this
      simp [hp]
    · simp [e]
theorem pm_cnt (hw : kf κ) : (List.range' 0 6).countP (fun m => pm κ r P m && Q m) = (List.range' 0 (κ.1 5 r)).countP (fun s => P s && Q (κ.1 6 (6 * r + s))) :=
  c_map (g := fun s => κ.1 6 (6 * r + s)) (fun s _ => hw.m6 _) (pm_nd hw)
theorem pm_any (hw : kf κ) : (List.range' 0 6).any (fun m => pm κ r P m && Q m) = (List.range' 0 (κ.1 5 r)).any (fun s => P s && Q (κ.1 6 (6 * r + s))) := by
  rw [Bool.eq_iff_iff, List.any_eq_true, List.any_eq_true]
  constructor
  · rintro ⟨m, hm, h⟩
    rw [Bool.and_eq_true] at h
    obtain ⟨s, hs, h2⟩ := List.any_eq_true.mp h.1
    rw [Bool.and_eq_true] at h2
    have e := of_decide_eq_true h2.1
    exact ⟨s, hs, by rw [e, h2.2, h.2]; rfl⟩
  · rintro ⟨s, hs, h⟩
    have := hw.m6 (6 * r + s)
    have hs2 := List.mem_range'_1.mp hs
    exact ⟨_, List.mem_range'_1.mpr ⟨Nat.zero_le _, by omega⟩, by rw [pm_at hw (by omega)]; exact h⟩
theorem pm_none {m : Nat} (h : ∀ s, s < κ.1 5 r → κ.1 6 (6 * r + s) ≠ m) : pm κ r P m = false := by
  refine List.any_eq_false.mpr fun a ha => ?_
  have h1 := List.mem_range'_1.mp ha
  simp [h a (by omega)]
theorem pm_co (h : ∀ s, s < κ.1 5 r → P s = Q s) : pm κ r P = pm κ r Q := by
  funext m
  unfold pm
  rw [Bool.eq_iff_iff, List.any_eq_true, List.any_eq_true]
  constructor
  · rintro ⟨s, hs, q⟩
    have h1 := List.mem_range'_1.mp hs
    exact ⟨s, hs, by rw [← h s (by omega)]; exact q⟩
  · rintro ⟨s, hs, q⟩
    have h1 := List.mem_range'_1.mp hs
    exact ⟨s, hs, by rw [h s (by omega)]; exact q⟩
theorem pm_set (hw : kf κ) {s : Nat} (hs : s < κ.1 5 r) (b : Bool) : pm κ r (fun x => if x = s then b else P x) = fun m => if m = κ.1 6 (6 * r + s) then b else pm κ r P m := by
  funext m
  by_cases e : m = κ.1 6 (6 * r + s)
  · subst e
    rw [pm_at hw hs]
    simp
  · simp only [e, if_false]
    unfold pm
    rw [Bool.eq_iff_iff, List.any_eq_true, List.any_eq_true]
    constructor
    · rintro ⟨a, ha, q⟩
      refine ⟨a, ha, ?_⟩
      rw [Bool.and_eq_true] at q ⊢
      refine ⟨q.1, ?_⟩
      have : a ≠ s := fun z => e (by rw [← of_decide_eq_true q.1, z])
      rw [← q.2]
      simp [this]
    · rintro ⟨a, ha, q⟩
      refine ⟨a, ha, ?_⟩
      rw [Bool.and_eq_true] at q ⊢
      refine ⟨q.1, ?_⟩
      have : a ≠ s := fun z => e (by rw [← of_decide_eq_true q.1, z])
      simpa [this] using q.2
theorem pl_at (hw : kf κ) {s : Nat} (hs : s < κ.1 5 r) : pl κ r (κ.1 6 (6 * r + s)) = some s := by
  unfold pl
  cases h : (List.range' 0 (κ.1 5 r)).find? (fun a => decide (κ.1 6 (6 * r + a) = κ.1 6 (6 * r + s))) with
  | none =>
    have := List.find?_eq_none.mp h s (List.mem_range'_1.mpr (by omega))
    simp at this
  | some a =>
    have h1 := List.find?_some h
    have h2 := List.mem_range'_1.mp (List.mem_of_find?_eq_some h)
    rw [hw.ds r a s (by omega) hs (of_decide_eq_true h1)]
theorem vv_at (hw : kf κ) {s o : Nat} (hs : s < κ.1 5 r) (ho : o < 8) : vv κ r (κ.1 6 (6 * r + s) * 8 + o) = κ.2.2 7 (8 * (6 * r + s) + o) := by
  unfold vv
  rw [show (κ.1 6 (6 * r + s) * 8 + o) / 8 = κ.1 6 (6 * r + s) by omega, show (κ.1 6 (6 * r + s) * 8 + o) % 8 = o by omega, pl_at hw hs]
theorem vn_at (hw : kf κ) {s o : Nat} (hs : s < κ.1 5 r) (ho : o < 8) : vn κ r (κ.1 6 (6 * r + s) * 8 + o) = nI (κ.1 8 (8 * (6 * r + s) + o)) := by
  unfold vn
  rw [show (κ.1 6 (6 * r + s) * 8 + o) / 8 = κ.1 6 (6 * r + s) by omega, show (κ.1 6 (6 * r + s) * 8 + o) % 8 = o by omega, pl_at hw hs]
end PM
