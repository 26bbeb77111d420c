/-! The pure refinement: agreement of the two states, lists of acts. -/
def ag (κ ρ : ax_R) : Prop := (∀ k, k ∉ [13, 25, 27, 28, 29, 44, 47] → κ.1 k = ρ.1 k) ∧ (∀ k, k ∉ [2, 41] → κ.2.1 k = ρ.2.1 k) ∧ (∀ k, k ∉ [26, 30, 31] → κ.2.2 k = ρ.2.2 k)
section PU1
variable {κ κ2 ρ : ax_R}
theorem ag.n (h : ag κ ρ) (k : Nat) (hk : k ∉ [13, 25, 27, 28, 29, 44, 47]) : ρ.1 k = κ.1 k := (h.1 k hk).symm
theorem ag.b (h : ag κ ρ) (k : Nat) (hk : k ∉ [2, 41]) : ρ.2.1 k = κ.2.1 k := (h.2.1 k hk).symm
theorem ag.r (h : ag κ ρ) (k : Nat) (hk : k ∉ [26, 30, 31]) : ρ.2.2 k = κ.2.2 k := (h.2.2 k hk).symm
theorem ag.rfl2 : ag κ κ := ⟨fun _ _ => rfl, fun _ _ => rfl, fun _ _ => rfl⟩
theorem ag_nu (h : ag κ ρ) {k j v : Nat} : ag (nu κ k j v) (nu ρ k j v) := ⟨fun a ha => by funext i; simp only [nu, h.n a ha], h.2.1, h.2.2⟩
theorem ag_bu (h : ag κ ρ) {k j : Nat} {v : Bool} : ag (bu κ k j v) (bu ρ k j v) := ⟨h.1, fun a ha => by funext i; simp only [bu, h.b a ha], h.2.2⟩
theorem ag_ru (h : ag κ ρ) {k j : Nat} {v : Int32} : ag (ru κ k j v) (ru ρ k j v) := ⟨h.1, h.2.1, fun a ha => by funext i; simp only [ru, h.r a ha]⟩
theorem ag_nuc (h : ag κ ρ) {k j v : Nat} (hk : k ∈ [13, 25, 27, 28, 29, 44, 47]) : ag (nu κ k j v) ρ := ⟨fun a ha => by funext i; have : ¬ a = k := fun e => ha (e ▸ hk); simp [nu, this, h.n a ha], h.2.1, h.2.2⟩
theorem ag_nur (h : ag κ ρ) {k j v : Nat} (hk : k ∈ [13, 25, 27, 28, 29, 44, 47]) : ag κ (nu ρ k j v) := ⟨fun a ha => by funext i; have : ¬ a = k := fun e => ha (e ▸ hk); simp [nu, this, h.n a ha], h.2.1, h.2.2⟩
theorem ag_buc (h : ag κ ρ) {k j : Nat} {v : Bool} (hk : k ∈ [2, 41]) : ag (bu κ k j v) ρ := ⟨h.1, fun a ha => by funext i; have : ¬ a = k := fun e => ha (e ▸ hk); simp [bu, this, h.b a ha], h.2.2⟩
theorem ag_bur (h : ag κ ρ) {k j : Nat} {v : Bool} (hk : k ∈ [2, 41]) : ag κ (bu ρ k j v) := ⟨h.1, fun a ha => by funext i; have : ¬ a = k := fun e => ha (e ▸ hk); simp [bu, this, h.b a ha], h.2.2⟩
theorem ag_rur (h : ag κ ρ) {k j : Nat} {v : Int32} (hk : k ∈ [26, 30, 31]) : ag κ (ru ρ k j v) := ⟨h.1, h.2.1, fun a ha => by funext i; have : ¬ a = k := fun e => ha (e ▸ hk); simp [ru, this, h.r a ha]⟩
-- what the reference sees of shared fields
theorem ag_rO (h : ag κ ρ) : rO ρ = rO κ := by funext r i; unfold rO; rw [h.n 6 (by decide), h.b 1 (by decide)]
theorem ag_rU (h : ag κ ρ) : rU ρ = rU κ := by funext r i; unfold rU; rw [h.n 6 (by decide), h.b 0 (by decide)]
theorem ag_rL (h : ag κ ρ) : rL ρ = rL κ := by funext r; unfold rL; rw [h.n 5 (by decide), (ag_rO h)]
theorem ag_rM (h : ag κ ρ) : rM ρ = rM κ := by funext r; unfold rM; rw [h.n 5 (by decide), (ag_rO h)]
theorem ag_rI (h : ag κ ρ) : rI ρ = rI κ := by funext t; unfold rI; rw [h.n 14 (by decide)]
theorem ag_rAc (h : ag κ ρ) : rAc ρ = rAc κ := by funext t; unfold rAc; rw [h.n 12 (by decide)]
theorem ag_rWr (h : ag κ ρ) : rWr ρ = rWr κ := by funext t r; unfold rWr; rw [(ag_rI h), h.n 18 (by decide), h.b 22 (by decide)]
theorem ag_rIo (h : ag κ ρ) : rIo ρ = rIo κ := by funext t r o; unfold rIo; rw [(ag_rI h), h.n 18 (by decide), h.n 19 (by decide)]
theorem ag_rW (h : ag κ ρ) : rW ρ = rW κ := by funext t; unfold rW; rw [(ag_rI h), h.b 22 (by decide)]
theorem ag_rNt (h : ag κ ρ) : rNt ρ = rNt κ := by funext t n b; unfold rNt; rw [(ag_rI h), h.b 22 (by decide)]
theorem ag_rFl (h : ag κ ρ) : rFl ρ = rFl κ := by funext t; unfold rFl; rw [(ag_rI h), h.b 22 (by decide), h.r 9 (by decide), h.n 18 (by decide), h.n 19 (by decide)]
theorem ag_rBk (h : ag κ ρ) : rBk ρ = rBk κ := by funext i; unfold rBk; rw [h.b 22 (by decide), h.n 5 (by decide), h.n 18 (by decide), (ag_rL h), (ag_rO h)]
theorem ag_rB (h : ag κ ρ) : rB ρ = rB κ := by funext t; unfold rB; rw [(ag_rI h), (ag_rBk h)]
-- lists
theorem rg_split {N c : Nat} (h : c ≤ N) : List.range' 0 N = List.range' 0 c ++ List.range' c (N - c) := by
  have := List.range'_append_1 (s := 0) (m := c) (n := N - c)
  rw [Nat.zero_add] at this
  rw [this, Nat.add_sub_cancel' h]
theorem fl_at {p : Nat → Bool} {N c : Nat} (h : c ≤ N) : ((List.range' 0 N).filter p)[(List.range' 0 c).countP p]? = (List.range' c (N - c)).find? p := by
  rw [rg_split h, List.filter_append, List.countP_eq_length_filter, List.getElem?_append_right (Nat.le_refl _), Nat.sub_self, f0_find]
theorem rg6m {i : Nat} : List.range' (6 * i) 6 = (List.range' 0 6).map (fun s => 6 * i + s) := by
  simp [List.range'_succ]
theorem blk {α : Type} {p : Nat → Bool} {F : Nat → α} : ∀ (n i : Nat), ((List.range' (6 * i) (6 * n)).filter p).map F = (List.range' i n).flatMap (fun i => ((List.range' 0 6).filter (fun s => p (6 * i + s))).map (fun s => F (6 * i + s)))
  | 0, _ => by simp
  | n + 1, i => by
    have e : List.range' (6 * i) (6 * (n + 1)) = List.range' (6 * i) 6 ++ List.range' (6 * (i + 1)) (6 * n) := by
      have := List.range'_append_1 (s := 6 * i) (m := 6) (n := 6 * n)
      rw [show 6 * (i + 1) = 6 * i + 6 by omega, this, show 6 * (n + 1) = 6 + 6 * n by omega]
    rw [e, List.filter_append, List.map_append, blk n (i + 1), List.range'_succ (s := i) (n := n), List.flatMap_cons, rg6m, List.filter_map, List.map_map]
    rfl
theorem fm_if {α : Type} {p : Nat → Bool} {f : Nat → α} : ∀ (l : List Nat), l.flatMap (fun x => if p x = true then [f x] else []) = (l.filter p).map f
  | [] => rfl
  | x :: l => by
    rw [List.flatMap_cons, fm_if l]
    cases h : p x with
    | true => rw [List.filter_cons_of_pos h]; rfl
    | false => rw [List.filter_cons_of_neg (by simp [h])]; rfl
theorem fm_co {α : Type} {f g : Nat → List α} : ∀ {l : List Nat}, (∀ x ∈ l, f x = g x) → l.flatMap f = l.flatMap g
  | [], _ => rfl
  | x :: l, h => by rw [List.flatMap_cons, List.flatMap_cons, h x List.mem_cons_self, fm_co fun y hy => h y (List.mem_cons_of_mem _ hy)]
theorem fl_co {p q : Nat → Bool} : ∀ {l : List Nat}, (∀ x ∈ l, p x = q x) → l.filter p = l.filter q
  | [], _ => rfl
  | x :: l, h => by
    rw [List.filter_cons, List.filter_cons, h x List.mem_cons_self, fl_co fun y hy => h y (List.mem_cons_of_mem _ hy)]
theorem fl_nil {p : Nat → Bool} : ∀ {l : List Nat}, (∀ x ∈ l, p x = false) → l.filter p = []
  | [], _ => rfl
  | x :: l, h => by
    rw [List.filter_cons_of_neg (by simp [h x List.mem_cons_self]), fl_nil fun y hy => h y (List.mem_cons_of_mem _ hy)]
theorem mp_co {α : Type} {f g : Nat → α} : ∀ {l : List Nat}, (∀ x ∈ l, f x = g x) → l.map f = l.map g
  | [], _ => rfl
  | x :: l, h => by rw [List.map_cons, List.map_cons, h x List.mem_cons_self, mp_co fun y hy => h y (List.mem_cons_of_mem _ hy)]
theorem fl_lt {q : Nat → Bool} {c : Nat} (h : c ≤ 6) : (List.range' 0 6).filter (fun s => decide (s < c) && q s) = (List.range' 0 c).filter q := by
  rw [rg_split h, List.filter_append, fl_nil (l := List.range' c (6 - c)) (fun x hx => by have := List.mem_range'_1.mp hx; simp; omega), List.append_nil]
  exact fl_co fun x hx => by have := List.mem_range'_1.mp hx; simp; omega
theorem rI_map {t : Nat} : rI κ t = (List.range' 0 (κ.1 14 t)).map (fun i => 8 * t + i) := by
  unfold rI
  have : ∀ (n a : Nat), List.range' (8 * t + a) n = (List.range' a n).map (fun i => 8 * t + i) := by
    intro n
    induction n with
    | zero => intro a; rfl
    | succ n ih => intro a; rw [List.range'_succ, List.range'_succ, List.map_cons, Nat.add_assoc, ih]
  exact this _ 0
/-- the places of the acts of a phase -/
def aL (κ : ax_R) (t : Nat) : List Nat := (List.range' 0 (κ.1 14 t * 6)).filter (cNp κ t)
theorem cNp_6 {t i s : Nat} (hs : s < 6) : cNp κ t (6 * i + s) = cHa κ t (8 * t + i) s := by
  unfold cNp
  rw [show (6 * i + s) / 6 = i by omega, show (6 * i + s) % 6 = s by omega]
theorem al_s0 {t : Nat} {w : Nat → Bool} (h : ∀ i s, i < κ.1 14 t → s < 6 → cHa κ t (8 * t + i) s = (decide (s = 0) && w (8 * t + i))) : (aL κ t).map (fun j => 8 * t + j / 6) = (rI κ t).filter w := by
  unfold aL
  have := blk (p := cNp κ t) (F := fun j => 8 * t + j / 6) (κ.1 14 t) 0
  rw [Nat.mul_zero] at this
  rw [Nat.mul_comm (κ.1 14 t) 6, this, rI_map, List.filter_map]
  refine (fm_co fun i hi => ?_).trans (fm_if _)
  have hi := List.mem_range'_1.mp hi
  have e : (List.range' 0 6).filter (fun s => cNp κ t (6 * i + s)) = (List.range' 0 6).filter (fun s => decide (s = 0) && w (8 * t + i)) := fl_co fun s hs => by
    have hs := List.mem_range'_1.mp hs
    rw [cNp_6 (by omega), h i s (by omega) (by omega)]
  rw [e]
  show _ = if w (8 * t + i) = true then _ else _
  cases hw : w (8 * t + i) with
  | true =>
    have : (List.range' 0 6).filter (fun s => decide (s = 0) && true) = [0] := by decide
    rw [this, if_pos rfl]
    show [8 * t + (6 * i + 0) / 6] = [8 * t + i]
    rw [show (6 * i + 0) / 6 = i by omega]
  | false =>
    have : (List.range' 0 6).filter (fun s => decide (s = 0) && false) = [] := by decide
    rw [this, if_neg (by simp)]
    rfl
theorem al_1 {t : Nat} (h : κ.1 12 t = 1 ∨ κ.1 12 t = 4) : (aL κ t).map (fun j => 8 * t + j / 6) = (rI κ t).filter (fun i => κ.2.1 22 i == true) := by
  refine al_s0 fun i s hi hs => ?_
  unfold cHa
  rcases h with h | h <;> rw [h] <;> simp
theorem al_2 {t : Nat} (h : κ.1 12 t = 2) : (aL κ t).map (fun j => 8 * t + j / 6) = (rI κ t).filter (fun i => κ.2.1 22 i == false) := by
  refine al_s0 fun i s hi hs => ?_
  unfold cHa
  rw [h]
  simp
theorem al_6 {t : Nat} (h : κ.1 12 t = 6) : (aL κ t).map (fun j => 8 * t + j / 6) = (rI κ t).filter (fun k => decide (κ.2.2 9 (8 * κ.1 18 k + κ.1 19 k) = nI t)) := by
  refine al_s0 fun i s hi hs => ?_
  simp [cHa, h]
theorem al_3 (hw : kf κ) {t : Nat} (h : κ.1 12 t = 3) : (aL κ t).map (fun j => (8 * t + j / 6, j % 6)) = rB κ t := by
  unfold aL
  have := blk (p := cNp κ t) (F := fun j => (8 * t + j / 6, j % 6)) (κ.1 14 t) 0
  rw [Nat.mul_zero] at this
  rw [Nat.mul_comm (κ.1 14 t) 6, this]
  unfold rB
  rw [rI_map, List.flatMap_map]
  refine fm_co fun i hi => ?_
  have e : (List.range' 0 6).filter (fun s => cNp κ t (6 * i + s)) = (List.range' 0 6).filter (fun s => κ.2.1 22 (8 * t + i) && bk κ (κ.1 18 (8 * t + i)) s) := fl_co fun s hs => by
    have hs := List.mem_range'_1.mp hs
    rw [cNp_6 (by omega)]
    simp [cHa, h]
  rw [e]
  have h5 := hw.c6 (κ.1 18 (8 * t + i))
  unfold rBk
  cases hwr : κ.2.1 22 (8 * t + i) with
  | false =>
    rw [fl_nil (fun x _ => by simp), if_neg (by simp)]
    rfl
  | true =>
    rw [if_pos rfl]
    have e2 : (List.range' 0 6).filter (fun s => true && bk κ (κ.1 18 (8 * t + i)) s) = (List.range' 0 (κ.1 5 (κ.1 18 (8 * t + i)))).filter (fun k => !decide (nI k = oI (rL κ (κ.1 18 (8 * t + i)))[0]?) && rO κ (κ.1 18 (8 * t + i)) k) := by
      rw [← fl_lt h5]
      refine fl_co fun s hs => ?_
      have hs := List.mem_range'_1.mp hs
      rw [cPr_eq]
      unfold bk
      rw [Bool.true_and]
      congr 1
      rw [Bool.and_comm]
      congr 1
      congr 1
      cases hp : cPr κ (κ.1 18 (8 * t + i)) with
      | none =>
        have : ¬ nI s = oI none := nI_ne9 (by omega)
        simp [this]
      | some p =>
        have hp6 := (cPr_lt hp).1
        have : (nI s = oI (some p)) ↔ s = p := nI_inj (by omega) (by omega)
        simp only [this, Option.some.injEq, eq_comm]
    rw [e2]
    refine mp_co fun s hs => ?_
    have hs := List.mem_range'_1.mp (List.mem_filter.mp hs).1
    show (8 * t + (6 * i + s) / 6, (6 * i + s) % 6) = _
    rw [show (6 * i + s) / 6 = i by omega, show (6 * i + s) % 6 = s by omega]
theorem cNx_al {t : Nat} (h : κ.1 44 t ≤ κ.1 14 t * 6) : cNx κ t = (aL κ t)[(List.range' 0 (κ.1 44 t)).countP (cNp κ t)]? := (fl_at h).symm
end PU1
