/-! Polygons: which cells are in them, in the class and in the reference. -/
def on (o : t_Outline) : Nat := (Outline_corners o).toInt.toNat
def nx (n k : Nat) : Nat := if k + 1 < n then k + 1 else 0
def sd (o : t_Outline) (a b : Nat) : Prop := (Outline_xs o a = Outline_xs o b ∧ Outline_ys o a ≠ Outline_ys o b) ∨ (Outline_ys o a = Outline_ys o b ∧ Outline_xs o a ≠ Outline_xs o b)
def c49 (v : Int32) : Prop := 0 ≤ v.toInt ∧ v.toInt ≤ 48
def okO (o : t_Outline) : Prop := Outline_corners o = nI (on o) ∧ on o ≤ 16 ∧ (Outline_closed o = 0 ∨ Outline_closed o = 1) ∧ (∀ k, k < on o → c49 (Outline_xs o k) ∧ c49 (Outline_ys o k)) ∧ (∀ k, k + 1 < on o → sd o k (k + 1)) ∧ (Outline_closed o = 1 → 4 ≤ on o ∧ sd o (on o - 1) 0)
theorem okO_sd {o : t_Outline} (h : okO o) (hc : Outline_closed o = 1) {k : Nat} (hk : k < on o) : sd o k (nx (on o) k) := by
  obtain ⟨-, -, -, -, h5, h6⟩ := h
  unfold nx
  by_cases q : k + 1 < on o
  · rw [if_pos q]; exact h5 k q
  · rw [if_neg q, show k = on o - 1 from by omega]; exact (h6 hc).2
theorem nx_lt {n k : Nat} (h : k < n) : nx n k < n := by unfold nx; split <;> omega
def sA (o : t_Outline) (k : Nat) (y : Int) : Bool := decide ((Outline_ys o k).toInt ≤ y)
def crs (o : t_Outline) (k k' : Nat) (x y : Int) : Bool := decide ((Outline_xs o k).toInt ≤ x) && (sA o k y != sA o k' y)
def par (o : t_Outline) (x y : Int) : Nat → Bool
  | 0 => false
  | k + 1 => par o x y k != crs o k (nx (on o) k) x y
def hld (o : t_Outline) (x y : Int) : Bool := decide (Outline_closed o = 1) && par o x y (on o)
theorem par_all {o : t_Outline} {x y : Int} (h : ∀ k, k < on o → (Outline_xs o k).toInt ≤ x) : par o x y (on o) = false := by
  have key : ∀ k, k < on o → par o x y k = (sA o 0 y != sA o k y) := by
    intro k
    induction k with
    | zero => intro _; show false = _; cases sA o 0 y <;> rfl
    | succ k ih =>
      intro hk
      show (par o x y k != crs o k (nx (on o) k) x y) = _
      rw [ih (by omega)]
      unfold crs nx
      rw [if_pos hk, decide_eq_true (h k (by omega))]
      cases sA o 0 y <;> cases sA o k y <;> cases sA o (k + 1) y <;> rfl
  cases hn : on o with
  | zero => rfl
  | succ n =>
    show (par o x y n != crs o n (nx (on o) n) x y) = false
    rw [key n (by omega)]
    unfold crs nx
    rw [if_neg (by omega), decide_eq_true (h n (by omega))]
    cases sA o 0 y <;> cases sA o n y <;> rfl
theorem par_none {o : t_Outline} {x y : Int} (h : ∀ k, k < on o → crs o k (nx (on o) k) x y = false) : par o x y (on o) = false := by
  have key : ∀ k, k ≤ on o → par o x y k = false := by
    intro k
    induction k with
    | zero => intro _; rfl
    | succ k ih => intro hk; show (par o x y k != crs o k (nx (on o) k) x y) = _; rw [ih (by omega), h k (by omega)]; rfl
  exact key _ (Nat.le_refl _)
/-- beyond the grid nothing is in a polygon -/
theorem par_gr {o : t_Outline} (h : okO o) {x y : Int} (hg : gr x y = false) : par o x y (on o) = false := by
  obtain ⟨-, -, -, h4, -⟩ := h
  have hg := gr_f hg
  by_cases h1 : x < 0
  · exact par_none (fun k hk => by unfold crs; have := (h4 k hk).1; unfold c49 at this; rw [decide_eq_false (by omega)]; rfl)
  · by_cases h2 : 48 ≤ x
    · exact par_all (fun k hk => by have := (h4 k hk).1; unfold c49 at this; omega)
    · by_cases h3 : y < 0
      · exact par_none (fun k hk => by
          have a1 := (h4 k hk).2
          have a2 := (h4 _ (nx_lt hk)).2
          unfold c49 at a1 a2
          unfold crs sA
          rw [decide_eq_false (show ¬ (Outline_ys o k).toInt ≤ y by omega), decide_eq_false (show ¬ (Outline_ys o (nx (on o) k)).toInt ≤ y by omega)]
          simp)
      · exact par_none (fun k hk => by
          have a1 := (h4 k hk).2
          have a2 := (h4 _ (nx_lt hk)).2
          unfold c49 at a1 a2
          unfold crs sA
          rw [decide_eq_true (show (Outline_ys o k).toInt ≤ y by omega), decide_eq_true (show (Outline_ys o (nx (on o) k)).toInt ≤ y by omega)]
          simp)
theorem v_nextCorner {o : t_Outline} (h : okO o) {k : Nat} (hk : k < on o) : f_Outline_nextCorner o (nI k) = some (nI (nx (on o) k)) := by
  obtain ⟨h1, h2, -⟩ := h
  unfold f_Outline_nextCorner nx
  rw [nI_1, h1]
  by_cases q : k + 1 < on o
  · rw [if_neg (by rw [i_le, i_n (by omega), i_n (by omega)]; omega), if_pos q]
  · rw [if_pos (by rw [i_le, i_n (by omega), i_n (by omega)]; omega), if_neg q]; rfl
theorem v_isAlongX {o : t_Outline} (h : okO o) {k : Nat} (hk : k < on o) : f_Outline_isAlongX o (nI k) = some (b2 (decide (Outline_ys o k = Outline_ys o (nx (on o) k)))) := by
  have h2 := h.2.1
  have h3 := nx_lt hk
  unfold f_Outline_isAlongX
  rw [if_pos (xin_n (by omega) (by decide)), v_nextCorner h hk]
  show (if xin (nI (nx (on o) k)) 16 = true then _ else _) = _
  rw [if_pos (xin_n (by omega) (by decide)), nI_clamp (by omega), nI_clamp (by omega)]
  by_cases q : Outline_ys o k = Outline_ys o (nx (on o) k)
  · rw [if_pos q, decide_eq_true q]; rfl
  · rw [if_neg q, decide_eq_false q]; rfl
theorem v_holds {o : t_Outline} (h : okO o) (x y : Int32) : f_Outline_holds o x y = some (b2 (hld o x.toInt y.toInt)) := by
  have h1 := h.1
  have h2 := h.2.1
  unfold f_Outline_holds
  refine xgA (fun r => f_Outline_holds_5 o r (f_Outline_holds_85 o)) (fun _ _ _ _ => none) (fun q j (s : Int32) => q x y s (nI j)) (on o) 0 (fun j => b2 (par o x.toInt y.toInt j)) _ (fun rr => ?_) (fun rr j _ hj => Or.inr ?_) 100000 0 (Nat.le_refl _) (Nat.zero_le _) (by omega)
  · show f_Outline_holds_5 o rr (f_Outline_holds_85 o) x y _ (nI (on o)) = _
    unfold f_Outline_holds_5 f_Outline_holds_85 hld
    rw [h1, if_pos (Int32.le_refl _), b2_if]
    rcases h.2.2.1 with c | c
    · rw [c, if_pos rfl, decide_eq_false (by decide)]; rfl
    · rw [c, if_neg (by decide), decide_eq_true rfl, Bool.true_and]
      cases par o x.toInt y.toInt (on o) <;> rfl
  · show f_Outline_holds_5 o rr (f_Outline_holds_85 o) x y _ (nI j) = rr x y _ (nI (j + 1))
    have h3 := nx_lt hj
    unfold f_Outline_holds_5 f_Outline_holds_78 f_Outline_holds_79
    rw [h1, if_neg (by rw [i_le, i_n (by omega), i_n (by omega)]; omega), if_pos (xin_n (by omega) (by decide)), v_nextCorner h hj]
    show (if xin (nI (nx (on o) j)) 16 = true then _ else _) = _
    rw [if_pos (xin_n (by omega) (by decide)), if_pos (xin_n (by omega) (by decide)), nI_clamp (by omega), nI_clamp (by omega), nI_1]
    have e : par o x.toInt y.toInt (j + 1) = (par o x.toInt y.toInt j != crs o j (nx (on o) j) x.toInt y.toInt) := rfl
    simp only [e]
    unfold crs sA
    simp only [i_lt, i_le, b2_if]
    generalize (Outline_xs o j).toInt = X
    have mn : (if (Outline_ys o (nx (on o) j)).toInt < (Outline_ys o j).toInt then Outline_ys o (nx (on o) j) else Outline_ys o j).toInt = if (Outline_ys o (nx (on o) j)).toInt < (Outline_ys o j).toInt then (Outline_ys o (nx (on o) j)).toInt else (Outline_ys o j).toInt := by split <;> rfl
    have mx : (if (Outline_ys o j).toInt < (Outline_ys o (nx (on o) j)).toInt then Outline_ys o (nx (on o) j) else Outline_ys o j).toInt = if (Outline_ys o j).toInt < (Outline_ys o (nx (on o) j)).toInt then (Outline_ys o (nx (on o) j)).toInt else (Outline_ys o j).toInt := by split <;> rfl
    rw [mn, mx]
    generalize (Outline_ys o (nx (on o) j)).toInt = B
    generalize (Outline_ys o j).toInt = A
    by_cases q1 : x.toInt < X
    · rw [if_pos q1, decide_eq_false (by omega)]
      simp
    · rw [if_neg q1, decide_eq_true (show X ≤ x.toInt by omega), Bool.true_and]
      by_cases q2 : A ≤ y.toInt
      · by_cases q3 : B ≤ y.toInt
        · rw [decide_eq_true q2, decide_eq_true q3]
          by_cases q4 : y.toInt < (if B < A then B else A)
          · rw [if_pos q4]; simp
          · rw [if_neg q4, if_pos (by split <;> omega)]; simp
        · rw [decide_eq_true q2, decide_eq_false q3, if_neg (by split <;> omega), if_neg (by split <;> omega)]
          cases par o x.toInt y.toInt j <;> rfl
      · by_cases q3 : B ≤ y.toInt
        · rw [decide_eq_false q2, decide_eq_true q3, if_neg (by split <;> omega), if_neg (by split <;> omega)]
          cases par o x.toInt y.toInt j <;> rfl
        · rw [decide_eq_false q2, decide_eq_false q3, if_pos (by split <;> omega)]
          simp
