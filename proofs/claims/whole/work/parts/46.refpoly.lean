/-! The reference's polygons. -/
theorem lgc_lt {a b : Int64} : lg_cmp a b < 0 ↔ a.toInt < b.toInt := by
  unfold lg_cmp
  by_cases h1 : a > b
  · rw [if_pos h1]
    have : b.toInt < a.toInt := Int64.lt_iff_toInt_lt.mp h1
    exact ⟨fun h => absurd h (by decide), fun h => by omega⟩
  · rw [if_neg h1]
    by_cases h2 : a = b
    · rw [if_pos h2, h2]
      exact ⟨fun h => absurd h (by decide), fun h => by omega⟩
    · rw [if_neg h2]
      refine ⟨fun _ => ?_, fun _ => by decide⟩
      have h3 : ¬ b.toInt < a.toInt := fun z => h1 (Int64.lt_iff_toInt_lt.mpr z)
      have h4 : ¬ a.toInt = b.toInt := fun z => h2 (Int64.toInt_inj.mp z)
      omega
theorem lgc_gt {a b : Int64} : 0 < lg_cmp a b ↔ b.toInt < a.toInt := by
  unfold lg_cmp
  by_cases h1 : a > b
  · rw [if_pos h1]
    have : b.toInt < a.toInt := Int64.lt_iff_toInt_lt.mp h1
    exact ⟨fun _ => this, fun _ => by decide⟩
  · rw [if_neg h1]
    have h3 : ¬ b.toInt < a.toInt := fun z => h1 (Int64.lt_iff_toInt_lt.mpr z)
    by_cases h2 : a = b
    · rw [if_pos h2]
      exact ⟨fun h => absurd h (by decide), fun h => absurd h h3⟩
    · rw [if_neg h2]
      exact ⟨fun h => absurd h (by decide), fun h => absurd h h3⟩
theorem l_i (a : Int32) : a.toInt64.toInt = a.toInt := Int32.toInt_toInt64 a
theorem v_isBetween (a b c : Int64) : f_MaskEdgesModel_isBetween a b c = some (b2 (decide (b.toInt ≤ a.toInt ∧ a.toInt ≤ c.toInt))) := by
  unfold f_MaskEdgesModel_isBetween
  by_cases h1 : lg_cmp a b < 0
  · rw [if_pos h1]; rw [lgc_lt] at h1; rw [decide_eq_false (by omega)]; rfl
  · rw [if_neg h1]; rw [lgc_lt] at h1
    by_cases h2 : 0 < lg_cmp a c
    · rw [if_pos h2]; rw [lgc_gt] at h2; rw [decide_eq_false (by omega)]; rfl
    · rw [if_neg h2]; rw [lgc_gt] at h2; rw [decide_eq_true (by omega)]; rfl
theorem v_isCell (x y : Int32) : f_MaskEdgesModel_isCell x y = some (b2 (gr x.toInt y.toInt)) := by
  unfold f_MaskEdgesModel_isCell gr
  rw [v_isBetween, v_isBetween, l_i, l_i]
  show (if b2 _ = 0 then _ else _) = _
  rw [b2_if]
  show (if _ then (if b2 _ = 0 then _ else _) else _) = _
  rw [b2_if]
  have a1 : (0 : Int64).toInt = 0 := rfl
  have a2 : (47 : Int64).toInt = 47 := rfl
  rw [a1, a2]
  by_cases h1 : 0 ≤ x.toInt ∧ x.toInt ≤ 47
  · rw [decide_eq_true h1, if_pos rfl]
    by_cases h2 : 0 ≤ y.toInt ∧ y.toInt ≤ 47
    · rw [decide_eq_true h2, decide_eq_true (by omega)]; rfl
    · rw [decide_eq_false h2, decide_eq_false (by omega)]; rfl
  · rw [decide_eq_false h1, decide_eq_false (show ¬ (0 ≤ x.toInt ∧ x.toInt < 48 ∧ 0 ≤ y.toInt ∧ y.toInt < 48) by omega)]; rfl
/-- polygon p of the reference is the outline o -/
def relP (o : t_Outline) (y : ySt) (p : Nat) : Prop := Y_sizes y p = nI (on o) ∧ Y_isClosed y p = Outline_closed o ∧ ∀ k, k < 16 → Y_xs y (16 * p + k) = Outline_xs o k ∧ Y_ys y (16 * p + k) = Outline_ys o k
theorem ix16 {p k : Nat} : (16 : Int32) * nI p + nI k = nI (16 * p + k) := by
  rw [show (16 : Int32) = nI 16 from rfl, pk_mul, nI_add]
theorem rem_nx {n k : Nat} (h : k < n) (hn : n ≤ 16) : (nI k + 1) - (nI k + 1) / nI n * nI n = nI (nx n k) := by
  rw [nI_1, pk_rem (by omega) (by omega) (by omega)]
  congr 1
  unfold nx
  by_cases q : k + 1 < n
  · rw [if_pos q, Nat.mod_eq_of_lt q]
  · rw [if_neg q, show k + 1 = n from by omega, Nat.mod_self]
theorem n_ne0 {n : Nat} (h : 0 < n) (hn : n < 2147483648) : ¬ nI n = 0 := by rw [i_eq, i_n hn, c0]; omega
theorem v_isIn {o : t_Outline} (h : okO o) {y : ySt} {p : Nat} (hp : p < 4) (hr : relP o y p) (a b : Int32) : f_MaskEdgesModel_isIn y (nI p) a b = some (b2 (hld o a.toInt b.toInt)) := by
  have h1 := h.1
  have h2 := h.2.1
  obtain ⟨r1, r2, r3⟩ := hr
  have gp : xin (nI p) 4 = true := xin_n hp (by decide)
  unfold f_MaskEdgesModel_isIn
  have fin : ∀ v : Bool, (v = true → gr a.toInt b.toInt = true) → f_MaskEdgesModel_isIn_188 y a b (b2 v) = some (b2 v) := by
    intro v hv
    unfold f_MaskEdgesModel_isIn_188
    rw [b2_if, v_isCell]
    show (if _ then (if b2 _ = 0 then _ else _) else _) = _
    rw [b2_if]
    cases v with
    | false => rfl
    | true => rw [hv rfl]; rfl
  rcases h.2.2.1 with c | c
  · -- not closed
    have e : hld o a.toInt b.toInt = false := by unfold hld; rw [c]; rfl
    rw [e]
    show f_MaskEdgesModel_isIn_6 y _ _ (nI p) a b 0 0 = _
    unfold f_MaskEdgesModel_isIn_6
    rw [if_pos gp, nI_clamp (by omega)]
    by_cases q : Y_sizes y p ≤ 0
    · rw [if_pos q]; exact fin false (fun z => by cases z)
    · rw [if_neg q, if_pos gp, r2, if_pos c]; exact fin false (fun z => by cases z)
  · have e : hld o a.toInt b.toInt = par o a.toInt b.toInt (on o) := by unfold hld; rw [c]; rfl
    rw [e]
    refine xgA (fun r => f_MaskEdgesModel_isIn_6 y r (f_MaskEdgesModel_isIn_188 y)) (fun _ _ _ _ _ => none) (fun q j (s : Int32) => q (nI p) a b s (nI j)) (on o) 0 (fun j => b2 (par o a.toInt b.toInt j)) _ (fun rr => ?_) (fun rr j _ hj => Or.inr ?_) 100000 0 (Nat.le_refl _) (Nat.zero_le _) (by omega)
    · show f_MaskEdgesModel_isIn_6 y rr (f_MaskEdgesModel_isIn_188 y) (nI p) a b _ (nI (on o)) = _
      unfold f_MaskEdgesModel_isIn_6
      rw [if_pos gp, nI_clamp (by omega), r1, if_pos (Int32.le_refl _)]
      refine fin _ (fun z => ?_)
      cases hg : gr a.toInt b.toInt with
      | true => rfl
      | false => rw [par_gr h hg] at z; cases z
    · show f_MaskEdgesModel_isIn_6 y rr (f_MaskEdgesModel_isIn_188 y) (nI p) a b _ (nI j) = rr (nI p) a b _ (nI (j + 1))
      have h3 := nx_lt hj
      have i1 : xin (nI (16 * p + j)) 64 = true := xin_n (by omega) (by decide)
      have i2 : xin (nI (16 * p + nx (on o) j)) 64 = true := xin_n (by omega) (by decide)
      unfold f_MaskEdgesModel_isIn_6 f_MaskEdgesModel_isIn_87 f_MaskEdgesModel_isIn_123 f_MaskEdgesModel_isIn_178 f_MaskEdgesModel_isIn_180
      rw [if_pos gp, nI_clamp (by omega), r1, if_neg (by rw [i_le, i_n (by omega), i_n (by omega)]; omega), if_pos gp, r2, if_neg (by rw [c]; decide), if_pos gp, if_neg (n_ne0 (by omega) (by omega)), rem_nx hj h2, ix16, ix16]
      simp only [if_pos i1, if_pos i2, nI_clamp (show 16 * p + j < 2 ^ 31 by omega), nI_clamp (show 16 * p + nx (on o) j < 2 ^ 31 by omega), (r3 j (by omega)).1, (r3 j (by omega)).2, (r3 (nx (on o) j) (by omega)).1, (r3 (nx (on o) j) (by omega)).2, nI_1]
      have e : par o a.toInt b.toInt (j + 1) = (par o a.toInt b.toInt j != crs o j (nx (on o) j) a.toInt b.toInt) := rfl
      simp only [e]
      have hsd := okO_sd h c hj
      unfold crs sA
      simp only [i_lt, i_le, b2_if]
      unfold sd at hsd
      generalize Outline_xs o (nx (on o) j) = X2 at hsd ⊢
      generalize Outline_xs o j = X at hsd ⊢
      generalize Outline_ys o (nx (on o) j) = B at hsd ⊢
      generalize Outline_ys o j = A at hsd ⊢
      by_cases q0 : X = X2
      · simp only [if_pos q0]
        by_cases q1 : a.toInt < X.toInt
        · simp only [if_pos q1, decide_eq_false (show ¬ X.toInt ≤ a.toInt by omega)]
          simp
        · simp only [if_neg q1, decide_eq_true (show X.toInt ≤ a.toInt by omega), Bool.true_and]
          by_cases q5 : B.toInt ≤ A.toInt
          · simp only [if_pos q5]
            by_cases q2 : A.toInt ≤ b.toInt
            · rw [decide_eq_true q2, decide_eq_true (show B.toInt ≤ b.toInt by omega)]
              by_cases q6 : b.toInt < B.toInt
              · rw [if_pos q6]; simp
              · rw [if_neg q6, if_pos q2]; simp
            · rw [decide_eq_false q2]
              by_cases q3 : B.toInt ≤ b.toInt
              · rw [decide_eq_true q3, if_neg (by omega), if_neg q2]
                cases par o a.toInt b.toInt j <;> rfl
              · rw [decide_eq_false q3, if_pos (by omega)]; simp
          · simp only [if_neg q5]
            by_cases q2 : A.toInt ≤ b.toInt
            · rw [decide_eq_true q2, if_neg (by omega)]
              by_cases q3 : B.toInt ≤ b.toInt
              · rw [decide_eq_true q3, if_pos q3]; simp
              · rw [decide_eq_false q3, if_neg q3]
                cases par o a.toInt b.toInt j <;> rfl
            · rw [decide_eq_false q2, decide_eq_false (show ¬ B.toInt ≤ b.toInt by omega), if_pos (by omega)]; simp
      · have hy : A = B := by
          rcases hsd with z | z
          · exact absurd z.1 q0
          · exact z.1
        subst hy
        simp only [if_neg q0]
        simp
/-- the target by the polygons -/
def tgt (P : Nat → t_Outline) (x y : Int) : Nat → Bool
  | 0 => false
  | k + 1 => tgt P x y k || hld (P k) x y
def relO (P : Nat → t_Outline) (y : ySt) (c : Nat) : Prop := Y_polygons y = nI c ∧ c ≤ 4 ∧ ∀ p, p < 4 → okO (P p) ∧ relP (P p) y p
theorem v_isTarget {P : Nat → t_Outline} {y : ySt} {c : Nat} (h : relO P y c) (a b : Int32) : f_MaskEdgesModel_isTarget y a b = some (b2 (tgt P a.toInt b.toInt c)) := by
  obtain ⟨h1, h2, h3⟩ := h
  unfold f_MaskEdgesModel_isTarget
  refine xgA (fun r => f_MaskEdgesModel_isTarget_5 y r) (fun _ _ _ _ => none) (fun q j (s : Int32) => q a b s (nI j)) c 0 (fun j => b2 (tgt P a.toInt b.toInt j)) _ (fun rr => ?_) (fun rr j _ hj => Or.inr ?_) 100000 0 (Nat.le_refl _) (Nat.zero_le _) (by omega)
  · show f_MaskEdgesModel_isTarget_5 y rr a b _ (nI c) = _
    unfold f_MaskEdgesModel_isTarget_5
    rw [h1, if_pos (Int32.le_refl _), if_pos (b2_z _)]
  · show f_MaskEdgesModel_isTarget_5 y rr a b _ (nI j) = rr a b _ (nI (j + 1))
    unfold f_MaskEdgesModel_isTarget_5 f_MaskEdgesModel_isTarget_29 f_MaskEdgesModel_isTarget_34
    rw [h1, if_neg (by rw [i_le, i_n (by omega), i_n (by omega)]; omega), b2_if, v_isIn (h3 j (by omega)).1 (by omega) (h3 j (by omega)).2, nI_1]
    show (if _ then _ else (if b2 _ = 0 then _ else _)) = _
    rw [b2_if]
    have e : tgt P a.toInt b.toInt (j + 1) = (tgt P a.toInt b.toInt j || hld (P j) a.toInt b.toInt) := rfl
    rw [e]
    cases tgt P a.toInt b.toInt j <;> cases hld (P j) a.toInt b.toInt <;> rfl
