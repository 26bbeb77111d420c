/-! Counting. -/
theorem cnt_one {G : Nat → Bool} {a : Nat} : ∀ (l : List Nat), l.Nodup → a ∈ l → (∀ e ∈ l, G e = true → e = a) → l.countP G = if G a = true then 1 else 0
  | [], _, h, _ => by cases h
  | x :: l, hn, h, hu => by
    have hn := List.nodup_cons.mp hn
    rw [List.countP_cons]
    by_cases z : x = a
    · have : l.countP G = 0 := List.countP_eq_zero.mpr fun e he q => by
        have := hu e (List.mem_cons_of_mem _ he) q
        rw [this, ← z] at he
        exact hn.1 he
      rw [this, z, Nat.zero_add]
    · have hx : ¬ G x = true := fun q => z (hu x List.mem_cons_self q)
      rw [if_neg hx, cnt_one l hn.2 ((List.mem_cons.mp h).resolve_left (fun q => z q.symm)) (fun e he => hu e (List.mem_cons_of_mem _ he)), Nat.add_zero]
theorem cnt_rem {T P : Nat → Bool} {a : Nat} (ha : T a = true) : ∀ (l : List Nat), l.Nodup → a ∈ l → l.countP (fun e => T e && P e) = l.countP (fun e => (T e && !decide (e = a)) && P e) + (if P a = true then 1 else 0)
  | [], _, h => by cases h
  | x :: l, hn, h => by
    have hn := List.nodup_cons.mp hn
    rw [List.countP_cons, List.countP_cons]
    by_cases z : x = a
    · have : l.countP (fun e => (T e && !decide (e = a)) && P e) = l.countP (fun e => T e && P e) := cP_co fun e he => by
        have : ¬ e = a := fun q => hn.1 (by rw [z, ← q]; exact he)
        simp [this]
      rw [this, z, ha]
      simp
    · rw [cnt_rem ha l hn.2 ((List.mem_cons.mp h).resolve_left (fun q => z q.symm))]
      have : decide (x = a) = false := decide_eq_false z
      rw [this]
      simp only [Bool.not_false, Bool.and_true]
      omega
theorem inj_cnt {f : Nat → Nat} {lv P : Nat → Bool} {N : Nat} : ∀ (n : Nat) (T : Nat → Bool), (∀ k, k < n → lv k = true → f k < N ∧ T (f k) = true) → (∀ e, e < N → T e = true → ∃ k, k < n ∧ lv k = true ∧ f k = e) → (∀ k k2, k < n → k2 < n → lv k = true → lv k2 = true → f k = f k2 → k = k2) → (List.range' 0 n).countP (fun k => lv k && P (f k)) = (List.range' 0 N).countP (fun e => T e && P e)
  | 0, T, _, h2, _ => by
    have : (List.range' 0 N).countP (fun e => T e && P e) = 0 := List.countP_eq_zero.mpr fun e he q => by
      have he := List.mem_range'_1.mp he
      rw [Bool.and_eq_true] at q
      obtain ⟨k, hk, -⟩ := h2 e (by omega) q.1
      omega
    rw [this]
    rfl
  | n + 1, T, h1, h2, h3 => by
    rw [rg_split (Nat.le_succ n), List.countP_append, show n + 1 - n = 1 by omega]
    cases hl : lv n with
    | false =>
      have e0 : (List.range' n 1).countP (fun k => lv k && P (f k)) = 0 := by simp [List.range'_succ, hl]
      rw [e0, Nat.add_zero]
      refine inj_cnt n T (fun k hk => h1 k (by omega)) (fun e he ht => ?_) (fun k k2 hk hk2 => h3 k k2 (by omega) (by omega))
      obtain ⟨k, q1, q2, q3⟩ := h2 e he ht
      refine ⟨k, ?_, q2, q3⟩
      have : k ≠ n := fun z => by rw [z, hl] at q2; cases q2
      omega
    | true =>
      obtain ⟨g1, g2⟩ := h1 n (by omega) hl
      have e0 : (List.range' n 1).countP (fun k => lv k && P (f k)) = if P (f n) = true then 1 else 0 := by
        simp [List.range'_succ, hl, List.countP_cons]
      rw [e0, cnt_rem g2 _ rg_nd (List.mem_range'_1.mpr (by omega))]
      congr 1
      refine inj_cnt n (fun e => T e && !decide (e = f n)) (fun k hk hlk => ?_) (fun e he ht => ?_) (fun k k2 hk hk2 => h3 k k2 (by omega) (by omega))
      · obtain ⟨q1, q2⟩ := h1 k (by omega) hlk
        have : ¬ f k = f n := fun z => by have := h3 k n (by omega) (by omega) hlk hl z; omega
        exact ⟨q1, by simp [q2, this]⟩
      · rw [Bool.and_eq_true, Bool.not_eq_true', decide_eq_false_iff_not] at ht
        obtain ⟨k, q1, q2, q3⟩ := h2 e he ht.1
        refine ⟨k, ?_, q2, q3⟩
        have : k ≠ n := fun z => ht.2 (by rw [← q3, z])
        omega
theorem blk_cnt {G : Nat → Bool} {w : Nat} {c : Nat → Nat} : ∀ (n a : Nat), (∀ i, a ≤ i → i < a + n → (List.range' (w * i) w).countP G = c i) → (List.range' (w * a) (w * n)).countP G = ((List.range' a n).map c).sum
  | 0, a, _ => by simp
  | n + 1, a, h => by
    have e : List.range' (w * a) (w * (n + 1)) = List.range' (w * a) w ++ List.range' (w * (a + 1)) (w * n) := by
      have := List.range'_append_1 (s := w * a) (m := w) (n := w * n)
      rw [show w * (a + 1) = w * a + w from Nat.mul_succ w a, this, show w * (n + 1) = w + w * n by rw [Nat.mul_succ, Nat.add_comm]]
    rw [e, List.countP_append, h a (Nat.le_refl _) (by omega), blk_cnt n (a + 1) (fun i h1 h2 => h i (by omega) (by omega)), List.range'_succ, List.map_cons, List.sum_cons]
theorem fold_sum {c : Nat → Nat} : ∀ (l : List Nat) (n : Nat), l.foldl (fun a r => a + c r) n = n + (l.map c).sum
  | [], n => by simp
  | x :: l, n => by rw [List.foldl_cons, fold_sum l, List.map_cons, List.sum_cons]; omega
theorem cnt_sum {p : Nat → Bool} : ∀ (l : List Nat), l.countP p = (l.map (fun x => if p x = true then 1 else 0)).sum
  | [] => rfl
  | x :: l => by rw [List.countP_cons, cnt_sum l, List.map_cons, List.sum_cons]; omega
theorem cnt_z {p : Nat → Bool} {a n m : Nat} (h : m ≤ n) (hz : ∀ e, a + m ≤ e → e < a + n → p e = false) : (List.range' a n).countP p = (List.range' a m).countP p := by
  have e : List.range' a n = List.range' a m ++ List.range' (a + m) (n - m) := by
    have := List.range'_append_1 (s := a) (m := m) (n := n - m)
    rw [this, Nat.add_sub_cancel' h]
  rw [e, List.countP_append]
  have : (List.range' (a + m) (n - m)).countP p = 0 := List.countP_eq_zero.mpr fun x hx => by
    have := List.mem_range'_1.mp hx
    rw [hz x (by omega) (by omega)]
    simp
  omega
theorem rg_add {a n : Nat} : List.range' a n = (List.range' 0 n).map (fun s => a + s) := by
  have : ∀ (n b : Nat), List.range' (a + b) n = (List.range' b n).map (fun s => a + s) := by
    intro n
    induction n with
    | zero => intro b; rfl
    | succ n ih => intro b; rw [List.range'_succ, List.range'_succ, List.map_cons, Nat.add_assoc, ih]
  exact this n 0
section PU15
variable {κ ρ : ax_R} {b : Nat}
/-- the reference's records, counted as the class's sets -/
theorem rec_cnt (h : Iv κ ρ b (fun _ => True)) (P : Nat → Bool) : (List.range' 0 (ρ.1 25 0)).countP (fun k => !decide (ρ.2.2 26 k = -9) && P (6 * (ρ.2.2 26 k).toNatClampNeg + ρ.1 27 k)) = (List.range' 0 2880).countP (fun e => κ.2.1 41 e && P e) := by
  have code : ∀ k e, e < 2880 → ρ.2.2 26 k = nI (e / 6) → ρ.1 27 k = e % 6 → 6 * (ρ.2.2 26 k).toNatClampNeg + ρ.1 27 k = e := fun k e q1 q2 q3 => by
    rw [q2, q3, nI_clamp (by omega)]
    omega
  refine inj_cnt (f := fun k => 6 * (ρ.2.2 26 k).toNatClampNeg + ρ.1 27 k) (lv := fun k => !decide (ρ.2.2 26 k = -9)) (ρ.1 25 0) (κ.2.1 41) (fun k hk hl => ?_) (fun e he ht => ?_) (fun k k2 hk hk2 hl hl2 hf => ?_)
  · have hl : ¬ ρ.2.2 26 k = -9 := by simpa using hl
    obtain ⟨e, q1, q2, q3, q4⟩ := (h.r1 k hk).resolve_left hl
    rw [code k e q1 q3 q4]
    exact ⟨q1, q2⟩
  · obtain ⟨q1, k, q2, q3, q4⟩ := h.r2 e ht
    refine ⟨k, q2, ?_, code k e q1 q3 q4⟩
    have : ¬ ρ.2.2 26 k = -9 := by rw [q3]; exact nI_ne9 (by omega)
    simp [this]
  · have hl : ¬ ρ.2.2 26 k = -9 := by simpa using hl
    have hl2 : ¬ ρ.2.2 26 k2 = -9 := by simpa using hl2
    obtain ⟨e, q1, q2, q3, q4⟩ := (h.r1 k hk).resolve_left hl
    obtain ⟨e2, y1, y2, y3, y4⟩ := (h.r1 k2 hk2).resolve_left hl2
    have hf : 6 * (ρ.2.2 26 k).toNatClampNeg + ρ.1 27 k = 6 * (ρ.2.2 26 k2).toNatClampNeg + ρ.1 27 k2 := hf
    rw [code k e q1 q3 q4, code k2 e2 y1 y3 y4] at hf
    subst hf
    rcases Nat.lt_trichotomy k k2 with z | z | z
    · have := h.r3 k k2 e e z hk2 q3 q4 y3 y4 q1 q1 rfl; omega
    · exact z
    · have := h.r3 k2 k e e z hk y3 y4 q3 q4 q1 q1 rfl; omega
theorem blk_all (h : Iv κ ρ b (fun _ => True)) {P : Nat → Bool} {c : Nat → Nat} (hc : ∀ t, t < κ.1 10 0 → (List.range' (48 * t) 48).countP (fun e => κ.2.1 41 e && P e) = c t) : (List.range' 0 2880).countP (fun e => κ.2.1 41 e && P e) = ((List.range' 0 (κ.1 10 0)).map c).sum := by
  have h60 := h.kf.nT
  have e1 : (List.range' 0 2880).countP (fun e => κ.2.1 41 e && P e) = (List.range' 0 (48 * κ.1 10 0)).countP (fun e => κ.2.1 41 e && P e) := cnt_z (by omega) (fun e h1 h2 => by
    cases q : κ.2.1 41 e with
    | false => rfl
    | true =>
      have := (h.r4 e q).1.1
      omega)
  rw [e1]
  have := blk_cnt (G := fun e => κ.2.1 41 e && P e) (w := 48) (c := c) (κ.1 10 0) 0 (fun i _ hi => hc i (by omega))
  rw [Nat.mul_zero] at this
  exact this
theorem rw_cnt (h : Iv κ ρ b (fun _ => True)) (Q : Nat → Bool) : cRw κ Q = (List.range' 0 2880).countP (fun e => κ.2.1 41 e && Q (κ.1 6 (6 * κ.1 18 (e / 6) + e % 6))) := by
  have hw := h.kf
  rw [blk_all h (c := fun t => ((rI κ t).map (cRk κ Q)).sum) (fun t ht => ?_)]
  · unfold cRw
    have : cRt κ Q = fun a t => a + ((rI κ t).map (cRk κ Q)).sum := by
      funext n t
      unfold cRt
      exact fold_sum _ _
    rw [this, fold_sum, Nat.zero_add]
  · have h8 := hw.i8 t
    rw [cnt_z (m := 6 * κ.1 14 t) (by omega) (fun e h1 h2 => ?_)]
    · have := blk_cnt (G := fun e => κ.2.1 41 e && Q (κ.1 6 (6 * κ.1 18 (e / 6) + e % 6))) (w := 6) (c := cRk κ Q) (κ.1 14 t) (8 * t) (fun k _ _ => ?_)
      · rw [show 6 * (8 * t) = 48 * t by omega] at this
        rw [this]
        rfl
      · rw [rg_add, List.countP_map]
        unfold cRk
        have h5 := hw.c6 (κ.1 18 k)
        rw [cnt_z (m := κ.1 5 (κ.1 18 k)) h5 (fun s h1 h2 => ?_)]
        · refine cP_co fun s hs => ?_
          have hs := List.mem_range'_1.mp hs
          show (κ.2.1 41 (6 * k + s) && Q (κ.1 6 (6 * κ.1 18 ((6 * k + s) / 6) + (6 * k + s) % 6))) = _
          rw [show (6 * k + s) / 6 = k by omega, show (6 * k + s) % 6 = s by omega]
        · show (κ.2.1 41 (6 * k + s) && _) = false
          rw [(hw.rd k s (by omega) (by omega)).1]
          rfl
    · have := (hw.w0 t (e / 6 - 8 * t) (by omega) (by omega)).2.2 (e % 6) (by omega)
      rw [show 6 * (8 * t + (e / 6 - 8 * t)) + e % 6 = e by omega] at this
      show (κ.2.1 41 e && _) = false
      rw [this]
      rfl
theorem ro_cnt (h : Iv κ ρ b (fun _ => True)) {r q p : Nat} (hp : p < κ.1 5 r) : (List.range' 0 (κ.1 10 0)).countP (cRo κ r q (κ.1 6 (6 * r + p))) = (List.range' 0 2880).countP (fun e => κ.2.1 41 e && (decide (κ.1 18 (e / 6) = r) && decide (κ.1 19 (e / 6) = q) && decide (e % 6 = p))) := by
  have hw := h.kf
  have h5 := hw.c6 r
  rw [blk_all h (c := fun t => if cRo κ r q (κ.1 6 (6 * r + p)) t = true then 1 else 0) (fun t ht => ?_), cnt_sum]
  have h8 := hw.i8 t
  have key : ∀ e, e ∈ List.range' (48 * t) 48 → (κ.2.1 41 e && (decide (κ.1 18 (e / 6) = r) && decide (κ.1 19 (e / 6) = q) && decide (e % 6 = p))) = true → ∃ k, rIo κ t r q = some k ∧ e = 6 * k + p := fun e he q1 => by
    have he := List.mem_range'_1.mp he
    simp only [Bool.and_eq_true, decide_eq_true_eq] at q1
    obtain ⟨y1, ⟨y2, y3⟩, y4⟩ := q1
    have hik := (h.r4 e y1).1
    have hk2 := hik.2
    rw [show e / 6 / 8 = t by omega] at hk2
    cases hio : rIo κ t r q with
    | none =>
      exfalso
      have := List.find?_eq_none.mp hio (e / 6) (List.mem_range'_1.mpr (by omega))
      simp [y2, y3] at this
    | some k =>
      obtain ⟨-, z1, z2, z3, z4⟩ := io_ik hw ht hio
      have := h.it t (k - 8 * t) (e / 6 - 8 * t) (by omega) (by omega) (by rw [show 8 * t + (k - 8 * t) = k by omega, show 8 * t + (e / 6 - 8 * t) = e / 6 by omega]; omega) (by rw [show 8 * t + (k - 8 * t) = k by omega, show 8 * t + (e / 6 - 8 * t) = e / 6 by omega]; omega)
      exact ⟨k, rfl, by omega⟩
  cases hio : rIo κ t r q with
  | none =>
    have e1 : cRo κ r q (κ.1 6 (6 * r + p)) t = false := by unfold cRo; rw [hio]
    show _ = if cRo κ r q (κ.1 6 (6 * r + p)) t = true then 1 else 0
    rw [e1, if_neg (by simp)]
    refine List.countP_eq_zero.mpr fun e he q1 => ?_
    obtain ⟨k, y, -⟩ := key e he q1
    rw [hio] at y
    cases y
  | some k =>
    obtain ⟨-, z1, z2, z3, z4⟩ := io_ik hw ht hio
    have e1 : cRo κ r q (κ.1 6 (6 * r + p)) t = κ.2.1 41 (6 * k + p) := by
      unfold cRo
      rw [hio]
      show pm κ (κ.1 18 k) _ _ = _
      rw [z1]
      exact pm_at hw hp
    show _ = if cRo κ r q (κ.1 6 (6 * r + p)) t = true then 1 else 0
    rw [e1, cnt_one (a := 6 * k + p) _ rg_nd (List.mem_range'_1.mpr (by omega)) (fun e he q1 => ?_)]
    · rw [show (6 * k + p) / 6 = k by omega, show (6 * k + p) % 6 = p by omega, decide_eq_true z1, decide_eq_true z2, decide_eq_true rfl]
      simp
    · obtain ⟨k2, y1, y2⟩ := key e he q1
      rw [hio] at y1
      cases y1
      exact y2
end PU15
