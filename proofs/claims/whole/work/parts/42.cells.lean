/-! Sets of cells: what the class's small methods answer. -/
theorem c0 : (0 : Int32).toInt = 0 := rfl
theorem c1 : (1 : Int32).toInt = 1 := rfl
theorem c2 : (2 : Int32).toInt = 2 := rfl
theorem c48 : (48 : Int32).toInt = 48 := rfl
theorem lgc0 {a b : Int64} : lg_cmp a b = 0 ↔ a = b := by
  unfold lg_cmp
  by_cases h1 : b < a
  · rw [if_pos h1]
    refine ⟨fun h => absurd h (by decide), fun h => ?_⟩
    subst h
    exact absurd h1 (Int64.lt_irrefl)
  · rw [if_neg h1]
    by_cases h2 : a = b
    · simp [h2]
    · simp [h2]
def gr (x y : Int) : Bool := decide (0 ≤ x ∧ x < 48 ∧ 0 ≤ y ∧ y < 48)
theorem gr_t {x y : Int} (h : gr x y = true) : 0 ≤ x ∧ x < 48 ∧ 0 ≤ y ∧ y < 48 := of_decide_eq_true h
theorem gr_f {x y : Int} (h : gr x y = false) : ¬ (0 ≤ x ∧ x < 48 ∧ 0 ≤ y ∧ y < 48) := of_decide_eq_false h
theorem v_within (a b c : Int32) : f_MaskEdges_within a b c = some (b2 (decide (b.toInt ≤ a.toInt ∧ a.toInt ≤ c.toInt))) := by
  unfold f_MaskEdges_within
  simp only [i_lt]
  repeat' split
  all_goals first | (rw [decide_eq_true (by omega)]; rfl) | (rw [decide_eq_false (by omega)]; rfl)
theorem v_onGrid (x y : Int32) : f_MaskEdges_onGrid x y = some (b2 (gr x.toInt y.toInt)) := by
  unfold f_MaskEdges_onGrid gr
  simp only [i_lt, i_le, c0, c48]
  repeat' split
  all_goals first | (rw [decide_eq_true (by omega)]; rfl) | (rw [decide_eq_false (by omega)]; rfl)
theorem v_clamp {v r : Int32} (h0 : 0 ≤ r.toInt) : ∃ z, f_MaskEdges_clamp v r = some z ∧ z.toInt = (if r.toInt < v.toInt then r.toInt else if v.toInt < -r.toInt then -r.toInt else v.toInt) := by
  have hn : (-r).toInt = -r.toInt := i_neg (by omega)
  refine ⟨_, rfl, ?_⟩
  simp only [i_lt, hn]
  repeat' split
  all_goals omega
theorem v_cols22 {f e : Int32} (h0 : 0 ≤ f.toInt) (h1 : e.toInt ≤ 48) : ∃ w, f_MaskEdges_columnBits_22 f e = some w ∧ ∀ j : Nat, tb w j = decide (f.toInt ≤ j ∧ (j : Int) < e.toInt) := by
  unfold f_MaskEdges_columnBits_22
  by_cases h : e ≤ f
  · rw [if_pos h]
    rw [i_le] at h
    refine ⟨_, rfl, fun j => ?_⟩
    rw [tb_0, decide_eq_false (by omega)]
  · rw [if_neg h]
    rw [i_le] at h
    refine ⟨_, rfl, fun j => ?_⟩
    rw [i_of h0, i_of (a := e) (by omega), tb_cols (by omega) (by omega), i_n (by omega), i_n (by omega)]
    rw [decide_eq_decide]
    omega
theorem v_columnBits (a b : Int32) : ∃ w, f_MaskEdges_columnBits a b = some w ∧ ∀ j : Nat, tb w j = decide (j < 48 ∧ a.toInt ≤ j ∧ (j : Int) < b.toInt) := by
  unfold f_MaskEdges_columnBits f_MaskEdges_columnBits_9
  simp only [i_le, c0, c48]
  repeat' split
  · obtain ⟨w, e, h⟩ := v_cols22 (f := 0) (e := 48) (by decide) (by decide)
    refine ⟨w, e, fun j => ?_⟩
    rw [h, c0, c48, decide_eq_decide]; omega
  · obtain ⟨w, e, h⟩ := v_cols22 (f := 0) (e := b) (by decide) (by omega)
    refine ⟨w, e, fun j => ?_⟩
    rw [h, c0, decide_eq_decide]; omega
  · obtain ⟨w, e, h⟩ := v_cols22 (f := a) (e := 48) (by omega) (by decide)
    refine ⟨w, e, fun j => ?_⟩
    rw [h, c48, decide_eq_decide]; omega
  · obtain ⟨w, e, h⟩ := v_cols22 (f := a) (e := b) (by omega) (by omega)
    refine ⟨w, e, fun j => ?_⟩
    rw [h, decide_eq_decide]; omega
def cs (r : t_CellSet) (x y : Nat) : Bool := tb (r y) x
def csI (r : t_CellSet) (x y : Int) : Bool := gr x y && cs r x.toNat y.toNat
theorem and_bit {w : Int64} {k : Nat} (hk : k < 64) : (w &&& ((1 : Int64) <<< ((nI k).toInt64 &&& 63))) = 0 ↔ tb w k = false := by
  constructor
  · intro h
    have h2 := tb_and w ((1 : Int64) <<< ((nI k).toInt64 &&& 63)) k
    rw [h, tb_0, tb_shl1 hk] at h2
    simpa using h2.symm
  · intro h
    apply Classical.byContradiction
    intro hc
    obtain ⟨j, hj, h2⟩ := tb_ne0.mp hc
    rw [tb_and, tb_shl1 hk] at h2
    simp only [Bool.and_eq_true, decide_eq_true_eq] at h2
    rw [← h2.2, h] at h2
    cases h2.1
theorem v_has (r : t_CellSet) (x y : Int32) : f_CellSet_has r x y = some (b2 (csI r x.toInt y.toInt)) := by
  unfold f_CellSet_has csI
  rw [v_onGrid]
  show (if b2 _ = 0 then _ else _) = _
  rw [b2_if]
  cases hg : gr x.toInt y.toInt with
  | false => rfl
  | true =>
    obtain ⟨h1, h2, h3, h4⟩ := gr_t hg
    rw [if_pos rfl, if_pos (xin_i h3 h4)]
    have e : (CellSet_rows r y.toNatClampNeg) = r y.toInt.toNat := rfl
    rw [e, i_of h1, i_n (by omega)]
    have key := and_bit (w := r y.toInt.toNat) (k := x.toInt.toNat) (by omega)
    rw [Bool.true_and]
    show _ = some (b2 (tb (r y.toInt.toNat) (x.toInt.toNat : Int).toNat))
    rw [Int.toNat_natCast]
    cases hb : tb (r y.toInt.toNat) x.toInt.toNat with
    | false => rw [if_pos (lgc0.mpr (key.mpr hb))]; rfl
    | true => rw [if_neg (fun z => by rw [key.mp (lgc0.mp z)] at hb; cases hb)]; rfl
theorem v_add (r : t_CellSet) (x y : Int32) : ∃ r', f_CellSet_add x y r = some r' ∧ ∀ a b : Nat, cs r' a b = (cs r a b || (gr x.toInt y.toInt && decide (x.toInt = a ∧ y.toInt = b))) := by
  unfold f_CellSet_add
  rw [v_onGrid]
  show ∃ r', (if b2 _ = 0 then _ else _) = _ ∧ _
  rw [b2_if]
  cases hg : gr x.toInt y.toInt with
  | false => exact ⟨r, rfl, fun a b => by simp⟩
  | true =>
    obtain ⟨h1, h2, h3, h4⟩ := gr_t hg
    rw [if_pos rfl, if_pos (xin_i h3 h4), if_pos (xin_i h3 h4)]
    refine ⟨_, rfl, fun a b => ?_⟩
    show tb (vp_updL r y.toInt.toNat (r y.toInt.toNat ||| _) b) a = _
    by_cases hb : b = y.toInt.toNat
    · subst hb
      rw [pk_uLs, tb_or, i_of h1, tb_shl1 (by omega), i_n (by omega), Bool.true_and]
      congr 1
      rw [decide_eq_decide]
      omega
    · rw [pk_uLn hb]
      rw [decide_eq_false (by omega)]
      simp [cs]
/-- a loop over rows, each changed by itself -/
theorem v_rows (W : Nat → Nat → t_CellSet → Option t_CellSet) (g : Nat → Int64 → Int64) (e : Nat) (he : e ≤ 48) (hx : ∀ n s, W (n + 1) e s = some s) (hs : ∀ n j s, j < e → W (n + 1) j s = W n (j + 1) (vp_updL s j (g j (s j)))) {lo : Nat} (hlo : lo ≤ e) (r : t_CellSet) : ∃ r', W 100000 lo r = some r' ∧ ∀ y, r' y = if lo ≤ y ∧ y < e then g y (r y) else r y := by
  refine xlp W e (fun j s => lo ≤ j ∧ ∀ y, s y = if lo ≤ y ∧ y < j then g y (r y) else r y) (fun o => ∃ r', o = some r' ∧ ∀ y, r' y = if lo ≤ y ∧ y < e then g y (r y) else r y) ?_ ?_ 100000 lo r hlo (by omega) ⟨Nat.le_refl _, ?_⟩
  · intro n s hI
    exact ⟨s, hx _ s, hI.2⟩
  · intro n j s hj hI
    refine Or.inr ⟨vp_updL s j (g j (s j)), ⟨by omega, fun y => ?_⟩, hs _ j s hj⟩
    by_cases hy : y = j
    · subst hy
      rw [pk_uLs, if_pos ⟨hI.1, by omega⟩, hI.2 y, if_neg (by omega)]
    · rw [pk_uLn hy, hI.2 y]
      by_cases h2 : lo ≤ y ∧ y < j
      · rw [if_pos h2, if_pos (by omega)]
      · rw [if_neg h2, if_neg (by omega)]
  · intro y
    rw [if_neg (by omega)]
theorem nlt48 {j : Nat} (h : j < 48) : ¬ (48 : Int32) ≤ nI j := by rw [i_le, c48, i_n (by omega)]; omega
theorem v_copyFrom (o r : t_CellSet) : ∃ r', f_CellSet_copyFrom o r = some r' ∧ ∀ y, y < 48 → r' y = o y := by
  obtain ⟨r', h1, h2⟩ := v_rows (fun n j s => xloop (fun r => f_CellSet_copyFrom_2 o r) (fun _ _ => none) n (nI j) s) (fun j _ => o j) 48 (Nat.le_refl _) (fun n s => rfl) (fun n j s hj => by
    show f_CellSet_copyFrom_2 o _ (nI j) s = _
    unfold f_CellSet_copyFrom_2
    rw [if_neg (nlt48 hj), if_pos (xin_n hj (by decide)), if_pos (xin_n hj (by decide)), nI_1, nI_clamp (by omega)]
    rfl) (Nat.zero_le 48) r
  refine ⟨r', h1, fun y hy => ?_⟩
  rw [h2 y, if_pos ⟨Nat.zero_le y, hy⟩]
theorem v_addAll (o r : t_CellSet) : ∃ r', f_CellSet_addAll o r = some r' ∧ ∀ x y, y < 48 → cs r' x y = (cs r x y || cs o x y) := by
  obtain ⟨r', h1, h2⟩ := v_rows (fun n j s => xloop (fun r => f_CellSet_addAll_2 o r) (fun _ _ => none) n (nI j) s) (fun j w => w ||| o j) 48 (Nat.le_refl _) (fun n s => rfl) (fun n j s hj => by
    show f_CellSet_addAll_2 o _ (nI j) s = _
    unfold f_CellSet_addAll_2
    rw [if_neg (nlt48 hj), if_pos (xin_n hj (by decide)), if_pos (xin_n hj (by decide)), if_pos (xin_n hj (by decide)), nI_1, nI_clamp (by omega)]
    rfl) (Nat.zero_le 48) r
  refine ⟨r', h1, fun x y hy => ?_⟩
  unfold cs
  rw [h2 y, if_pos ⟨Nat.zero_le y, hy⟩, tb_or]
def inb (b : t_Box) (x y : Nat) : Bool := decide ((Box_left b).toInt ≤ x ∧ (x : Int) < (Box_right b).toInt ∧ (Box_top b).toInt ≤ y ∧ (y : Int) < (Box_bottom b).toInt)
/-- the rows that a box reaches on the grid -/
theorem v_ends (t b : Int32) : ∃ lo e : Nat, e ≤ 48 ∧ (if (48 : Int32) < b then (48 : Int32) else b) ≤ nI e ∧ (lo < e → (if (48 : Int32) < b then (48 : Int32) else b) = nI e) ∧ (if t < (0 : Int32) then (0 : Int32) else t) = nI lo ∧ lo < 2147483648 ∧ ((if (48 : Int32) < b then (48 : Int32) else b) ≤ nI lo ∨ lo < e) ∧ ∀ y : Nat, y < 48 → ((lo ≤ y ∧ y < e) ↔ (t.toInt ≤ y ∧ (y : Int) < b.toInt)) := by
  have hb := i_b b
  have ht := i_b t
  have q1 : ∃ lo : Nat, (if t < (0 : Int32) then (0 : Int32) else t) = nI lo ∧ lo < 2147483648 ∧ (lo : Int) = if t.toInt < 0 then 0 else t.toInt := by
    by_cases h : t < 0
    · rw [if_pos h]; rw [i_lt, c0] at h
      exact ⟨0, rfl, by decide, by rw [if_pos h]; rfl⟩
    · rw [if_neg h]; rw [i_lt, c0] at h
      exact ⟨t.toInt.toNat, i_of (by omega), by omega, by rw [if_neg h]; omega⟩
  obtain ⟨lo, e1, e2, e3⟩ := q1
  by_cases h : (48 : Int32) < b
  · rw [if_pos h]; rw [i_lt, c48] at h
    refine ⟨lo, 48, Nat.le_refl _, by decide, fun _ => rfl, e1, e2, ?_, fun y hy => ?_⟩
    · by_cases q : lo < 48
      · exact Or.inr q
      · exact Or.inl (by rw [i_le, c48, i_n e2]; omega)
    · split at e3 <;> omega
  · rw [if_neg h]; rw [i_lt, c48] at h
    by_cases h0 : b.toInt < 0
    · refine ⟨lo, 0, by omega, by rw [i_le, i_n (by omega)]; omega, fun q => absurd q (by omega), e1, e2, Or.inl (by rw [i_le, i_n e2]; omega), fun y hy => ?_⟩
      omega
    · refine ⟨lo, b.toInt.toNat, by omega, by rw [← i_of (by omega)]; exact Int32.le_refl _, fun _ => i_of (by omega), e1, e2, ?_, fun y hy => ?_⟩
      · by_cases q : lo < b.toInt.toNat
        · exact Or.inr q
        · exact Or.inl (by rw [i_le, i_n e2]; omega)
      · split at e3 <;> omega
theorem nle_n {e j : Nat} (he : e ≤ 48) (h : j < e) : ¬ nI e ≤ nI j := by rw [i_le, i_n (by omega), i_n (by omega)]; omega
theorem v_addBox (b : t_Box) (r : t_CellSet) : ∃ r', f_CellSet_addBox b r = some r' ∧ ∀ x y, x < 48 → y < 48 → cs r' x y = (cs r x y || inb b x y) := by
  obtain ⟨w, hw, hwb⟩ := v_columnBits (Box_left b) (Box_right b)
  obtain ⟨lo, e, he, h1, h2, h3, h4, h5, h6⟩ := v_ends (Box_top b) (Box_bottom b)
  unfold f_CellSet_addBox
  rw [hw]
  show ∃ r', xloop (fun r => f_CellSet_addBox_33 b r) (fun _ _ _ _ => none) 100000 w _ _ r = some r' ∧ _
  rw [h3]
  rcases h5 with h5 | h5
  · refine ⟨r, ?_, fun x y hx hy => ?_⟩
    · show f_CellSet_addBox_33 b _ w _ (nI lo) r = some r
      unfold f_CellSet_addBox_33
      rw [if_pos h5]
    · have hn : ¬ (lo ≤ y ∧ y < e) := by
        rintro ⟨q1, q2⟩
        rw [h2 (by omega), i_le, i_n (by omega), i_n h4] at h5
        omega
      have : inb b x y = false := decide_eq_false (fun z => hn ((h6 y hy).mpr ⟨z.2.2.1, z.2.2.2⟩))
      rw [this, Bool.or_false]
  · rw [h2 h5]
    obtain ⟨r', e1, e2⟩ := v_rows (fun n j s => xloop (fun r => f_CellSet_addBox_33 b r) (fun _ _ _ _ => none) n w (nI e) (nI j) s) (fun _ v => v ||| w) e he (fun n s => by
      show f_CellSet_addBox_33 b _ w (nI e) (nI e) s = _
      unfold f_CellSet_addBox_33
      rw [if_pos (Int32.le_refl _)]) (fun n j s hj => by
      show f_CellSet_addBox_33 b _ w (nI e) (nI j) s = _
      unfold f_CellSet_addBox_33
      rw [if_neg (nle_n he hj), if_pos (xin_n (by omega) (by decide)), if_pos (xin_n (by omega) (by decide)), nI_1, nI_clamp (by omega)]
      rfl) (Nat.le_of_lt h5) r
    refine ⟨r', e1, fun x y hx hy => ?_⟩
    unfold cs
    rw [e2 y]
    by_cases q : lo ≤ y ∧ y < e
    · rw [if_pos q, tb_or, hwb]
      congr 1
      unfold inb
      rw [decide_eq_decide]
      have := (h6 y hy).mp q
      omega
    · rw [if_neg q]
      have : inb b x y = false := decide_eq_false (fun z => q ((h6 y hy).mpr ⟨z.2.2.1, z.2.2.2⟩))
      rw [this, Bool.or_false]
theorem v_removeBox (b : t_Box) (r : t_CellSet) : ∃ r', f_CellSet_removeBox b r = some r' ∧ ∀ x y, x < 48 → y < 48 → cs r' x y = (cs r x y && !inb b x y) := by
  obtain ⟨w, hw, hwb⟩ := v_columnBits (Box_left b) (Box_right b)
  obtain ⟨lo, e, he, h1, h2, h3, h4, h5, h6⟩ := v_ends (Box_top b) (Box_bottom b)
  unfold f_CellSet_removeBox
  rw [hw]
  show ∃ r', xloop (fun r => f_CellSet_removeBox_37 b r) (fun _ _ _ _ => none) 100000 (w ^^^ (-1 : Int64)) _ _ r = some r' ∧ _
  rw [h3]
  rcases h5 with h5 | h5
  · refine ⟨r, ?_, fun x y hx hy => ?_⟩
    · show f_CellSet_removeBox_37 b _ (w ^^^ (-1 : Int64)) _ (nI lo) r = some r
      unfold f_CellSet_removeBox_37
      rw [if_pos h5]
    · have hn : ¬ (lo ≤ y ∧ y < e) := by
        rintro ⟨q1, q2⟩
        rw [h2 (by omega), i_le, i_n (by omega), i_n h4] at h5
        omega
      have : inb b x y = false := decide_eq_false (fun z => hn ((h6 y hy).mpr ⟨z.2.2.1, z.2.2.2⟩))
      rw [this]; simp
  · rw [h2 h5]
    obtain ⟨r', e1, e2⟩ := v_rows (fun n j s => xloop (fun r => f_CellSet_removeBox_37 b r) (fun _ _ _ _ => none) n (w ^^^ (-1 : Int64)) (nI e) (nI j) s) (fun _ v => v &&& (w ^^^ (-1 : Int64))) e he (fun n s => by
      show f_CellSet_removeBox_37 b _ (w ^^^ (-1 : Int64)) (nI e) (nI e) s = _
      unfold f_CellSet_removeBox_37
      rw [if_pos (Int32.le_refl _)]) (fun n j s hj => by
      show f_CellSet_removeBox_37 b _ (w ^^^ (-1 : Int64)) (nI e) (nI j) s = _
      unfold f_CellSet_removeBox_37
      rw [if_neg (nle_n he hj), if_pos (xin_n (by omega) (by decide)), if_pos (xin_n (by omega) (by decide)), nI_1, nI_clamp (by omega)]
      rfl) (Nat.le_of_lt h5) r
    refine ⟨r', e1, fun x y hx hy => ?_⟩
    unfold cs
    rw [e2 y]
    by_cases q : lo ≤ y ∧ y < e
    · rw [if_pos q, tb_and, tb_not w (by omega), hwb]
      congr 2
      unfold inb
      rw [decide_eq_decide]
      have := (h6 y hy).mp q
      omega
    · rw [if_neg q]
      have : inb b x y = false := decide_eq_false (fun z => q ((h6 y hy).mpr ⟨z.2.2.1, z.2.2.2⟩))
      rw [this]; simp
theorem v_meets (r : t_CellSet) (b : t_Box) : ∃ m : Bool, f_CellSet_meets r b = some (b2 m) ∧ (m = true ↔ ∃ x y, x < 48 ∧ y < 48 ∧ cs r x y = true ∧ inb b x y = true) := by
  obtain ⟨w, hw, hwb⟩ := v_columnBits (Box_left b) (Box_right b)
  obtain ⟨lo, e, he, h1, h2, h3, h4, h5, h6⟩ := v_ends (Box_top b) (Box_bottom b)
  unfold f_CellSet_meets
  rw [hw]
  show ∃ m : Bool, xloop (fun q => f_CellSet_meets_33 r b q) (fun _ _ _ => none) 100000 w _ _ = some (b2 m) ∧ _
  rw [h3]
  rcases h5 with h5 | h5
  · refine ⟨false, ?_, ?_⟩
    · show f_CellSet_meets_33 r b _ w _ (nI lo) = some 0
      unfold f_CellSet_meets_33
      rw [if_pos h5]
    · refine ⟨fun h => (by cases h), fun ⟨x, y, hx, hy, q1, q2⟩ => ?_⟩
      have z := of_decide_eq_true q2
      have hn := (h6 y hy).mpr ⟨z.2.2.1, z.2.2.2⟩
      rw [h2 (by omega), i_le, i_n (by omega), i_n h4] at h5
      omega
  · rw [h2 h5]
    refine xlp (fun n j (_ : Unit) => xloop (fun q => f_CellSet_meets_33 r b q) (fun _ _ _ => none) n w (nI e) (nI j)) e (fun j _ => lo ≤ j ∧ ∀ x y, x < 48 → lo ≤ y → y < j → ¬ (cs r x y = true ∧ inb b x y = true)) (fun o => ∃ m : Bool, o = some (b2 m) ∧ (m = true ↔ ∃ x y, x < 48 ∧ y < 48 ∧ cs r x y = true ∧ inb b x y = true)) ?_ ?_ 100000 lo () (Nat.le_of_lt h5) (by omega) ⟨Nat.le_refl _, fun x y _ a c => absurd c (by omega)⟩
    · intro n _ hI
      refine ⟨false, ?_, ?_⟩
      · show f_CellSet_meets_33 r b _ w (nI e) (nI e) = some 0
        unfold f_CellSet_meets_33
        rw [if_pos (Int32.le_refl _)]
      · refine ⟨fun h => (by cases h), fun ⟨x, y, hx, hy, q1, q2⟩ => ?_⟩
        have z := of_decide_eq_true q2
        have hn := (h6 y hy).mpr ⟨z.2.2.1, z.2.2.2⟩
        exact absurd ⟨q1, q2⟩ (hI.2 x y hx hn.1 hn.2)
    · intro n j _ hj hI
      have ejj : f_CellSet_meets_33 r b (xloop (fun q => f_CellSet_meets_33 r b q) (fun _ _ _ => none) n) w (nI e) (nI j) = if (lg_cmp ((r j) &&& w) (0 : Int64)) = 0 then xloop (fun q => f_CellSet_meets_33 r b q) (fun _ _ _ => none) n w (nI e) (nI (j + 1)) else some 1 := by
        conv => lhs; unfold f_CellSet_meets_33
        rw [if_neg (nle_n he hj), if_pos (xin_n (by omega) (by decide)), nI_1, nI_clamp (by omega)]
        rfl
      show (∃ m : Bool, f_CellSet_meets_33 r b (xloop (fun q => f_CellSet_meets_33 r b q) (fun _ _ _ => none) n) w (nI e) (nI j) = some (b2 m) ∧ _) ∨ ∃ s', _ ∧ f_CellSet_meets_33 r b (xloop (fun q => f_CellSet_meets_33 r b q) (fun _ _ _ => none) n) w (nI e) (nI j) = _
      rw [ejj]
      by_cases hc : lg_cmp ((r j) &&& w) (0 : Int64) = 0
      · right
        rw [if_pos hc]
        refine ⟨(), ⟨by omega, fun x y hx hy1 hy2 => ?_⟩, rfl⟩
        by_cases hyj : y = j
        · subst hyj
          rintro ⟨q1, q2⟩
          have z := of_decide_eq_true q2
          have := lgc0.mp hc
          have h9 := tb_and (r y) w x
          rw [this, tb_0, hwb, show tb (r y) x = true from q1, decide_eq_true (by omega)] at h9
          cases h9
        · exact hI.2 x y hx hy1 (by omega)
      · left
        rw [if_neg hc]
        refine ⟨true, rfl, fun _ => ?_, fun _ => rfl⟩
        obtain ⟨x, hx, hb⟩ := tb_ne0.mp (fun z => hc (lgc0.mpr z))
        rw [tb_and, hwb, Bool.and_eq_true, decide_eq_true_eq] at hb
        have hy := (h6 j (by omega)).mp ⟨hI.1, hj⟩
        exact ⟨x, j, hb.2.1, by omega, hb.1, decide_eq_true ⟨hb.2.2.1, hb.2.2.2, hy.1, hy.2⟩⟩
