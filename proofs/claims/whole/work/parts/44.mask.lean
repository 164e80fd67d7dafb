/-! Boxes beside pieces; the mask as the moves make it. -/
def bx4 (p : t_Piece) (lo hi bg en : Int32) : t_Box := if Piece_alongX p = 0 then (bg, lo, en, hi) else (lo, bg, hi, en)
theorem v_layBeside (p : t_Piece) (lo hi way gap dep : Int32) (b : t_Box) : f_Box_layBeside p lo hi way gap dep b = some (bx4 p lo hi (if ((Piece_line p) + (way * gap)) + (way * dep) < (Piece_line p) + (way * gap) then ((Piece_line p) + (way * gap)) + (way * dep) else (Piece_line p) + (way * gap)) (if (Piece_line p) + (way * gap) < ((Piece_line p) + (way * gap)) + (way * dep) then ((Piece_line p) + (way * gap)) + (way * dep) else (Piece_line p) + (way * gap))) := by
  unfold f_Box_layBeside f_Box_layBeside_54 f_Box_layBeside_71 f_Box_layBeside_88 f_Box_layBeside_105 bx4
  by_cases h : Piece_alongX p = 0
  · simp only [if_pos h]; rfl
  · simp only [if_neg h]; rfl
/-- a piece as it may be -/
def okP (p : t_Piece) : Prop := (Piece_alongX p = 0 ∨ Piece_alongX p = 1) ∧ ((Piece_outward p).toInt = -1 ∨ (Piece_outward p).toInt = 0 ∨ (Piece_outward p).toInt = 1) ∧ (0 ≤ (Piece_line p).toInt ∧ (Piece_line p).toInt ≤ 48) ∧ (0 ≤ (Piece_low p).toInt ∧ (Piece_low p).toInt < (Piece_high p).toInt ∧ (Piece_high p).toInt ≤ 48) ∧ (-6 ≤ (Piece_move p).toInt ∧ (Piece_move p).toInt ≤ 6) ∧ ((Piece_outward p).toInt = 0 → (Piece_move p).toInt = 0)
/-- is a cell in the rows that the move takes -/
def pmB (p : t_Piece) (x y : Nat) : Bool :=
  decide ((Piece_move p).toInt ≠ 0 ∧ (Piece_low p).toInt ≤ (if Piece_alongX p = 0 then (y : Int) else x) ∧ (if Piece_alongX p = 0 then (y : Int) else x) < (Piece_high p).toInt ∧
    (if (0 < (Piece_outward p).toInt ↔ 0 < (Piece_move p).toInt) then (Piece_line p).toInt ≤ (if Piece_alongX p = 0 then (x : Int) else y) ∧ (if Piece_alongX p = 0 then (x : Int) else y) < (Piece_line p).toInt + (if 0 < (Piece_move p).toInt then (Piece_move p).toInt else -(Piece_move p).toInt)
      else (Piece_line p).toInt - (if 0 < (Piece_move p).toInt then (Piece_move p).toInt else -(Piece_move p).toInt) ≤ (if Piece_alongX p = 0 then (x : Int) else y) ∧ (if Piece_alongX p = 0 then (x : Int) else y) < (Piece_line p).toInt))
def pm (p : t_Piece) (M : Nat → Nat → Bool) (x y : Nat) : Bool := if pmB p x y then decide (0 < (Piece_move p).toInt) else M x y
theorem mul0 (a : Int32) : a * 0 = 0 := Int32.mul_zero
theorem add0 (a : Int32) : a + 0 = a := Int32.add_zero a
theorem inb_bx4 {p : t_Piece} {lo hi bg en : Int32} {x y : Nat} : inb (bx4 p lo hi bg en) x y = decide (lo.toInt ≤ (if Piece_alongX p = 0 then (y : Int) else x) ∧ (if Piece_alongX p = 0 then (y : Int) else x) < hi.toInt ∧ bg.toInt ≤ (if Piece_alongX p = 0 then (x : Int) else y) ∧ (if Piece_alongX p = 0 then (x : Int) else y) < en.toInt) := by
  unfold inb bx4
  by_cases h : Piece_alongX p = 0
  · simp only [if_pos h]
    show decide (bg.toInt ≤ _ ∧ _ < en.toInt ∧ lo.toInt ≤ _ ∧ _ < hi.toInt) = _
    rw [decide_eq_decide]; omega
  · simp only [if_neg h]
    show decide (lo.toInt ≤ _ ∧ _ < hi.toInt ∧ bg.toInt ≤ _ ∧ _ < en.toInt) = _
    rw [decide_eq_decide]
/-- one step of a way, so deep -/
theorem way1 {l w d : Int32} {L W D : Int} (hl : l.toInt = L) (hw : w.toInt = W) (hd : d.toInt = D) (h1 : 0 ≤ L ∧ L ≤ 64) (h2 : W = 1 ∨ W = -1) (h3 : 0 ≤ D ∧ D ≤ 64) : (l + w * d).toInt = L + W * D := by
  have m : (w * d).toInt = W * D := by
    rw [i_mul (by rw [hw, hd]; rcases h2 with rfl | rfl <;> omega) (by rw [hw, hd]; rcases h2 with rfl | rfl <;> omega), hw, hd]
  rw [i_add (by rw [m, hl]; rcases h2 with rfl | rfl <;> omega) (by rw [m, hl]; rcases h2 with rfl | rfl <;> omega), m, hl]
theorem v_lay {p : t_Piece} (lo hi : Int32) {way gap dep : Int32} (b : t_Box) {G D : Int} (hl : 0 ≤ (Piece_line p).toInt ∧ (Piece_line p).toInt ≤ 48) (hw : way.toInt = 1 ∨ way.toInt = -1) (hg : gap.toInt = G) (hd : dep.toInt = D) (h1 : 0 ≤ G ∧ G ≤ 8) (h2 : 0 ≤ D ∧ D ≤ 8) : ∃ bg en, f_Box_layBeside p lo hi way gap dep b = some (bx4 p lo hi bg en) ∧ bg.toInt = (if way.toInt = 1 then (Piece_line p).toInt + G else (Piece_line p).toInt - G - D) ∧ en.toInt = (if way.toInt = 1 then (Piece_line p).toInt + G + D else (Piece_line p).toInt - G) := by
  refine ⟨_, _, v_layBeside p lo hi way gap dep b, ?_⟩
  have m1 : (way * gap).toInt = way.toInt * G := by rw [i_mul (by rw [hg]; rcases hw with h | h <;> rw [h] <;> omega) (by rw [hg]; rcases hw with h | h <;> rw [h] <;> omega), hg]
  have m2 : (way * dep).toInt = way.toInt * D := by rw [i_mul (by rw [hd]; rcases hw with h | h <;> rw [h] <;> omega) (by rw [hd]; rcases hw with h | h <;> rw [h] <;> omega), hd]
  have a1 : (Piece_line p + way * gap).toInt = (Piece_line p).toInt + way.toInt * G := by rw [i_add (by rw [m1]; rcases hw with h | h <;> rw [h] <;> omega) (by rw [m1]; rcases hw with h | h <;> rw [h] <;> omega), m1]
  have a2 : (Piece_line p + way * gap + way * dep).toInt = (Piece_line p).toInt + way.toInt * G + way.toInt * D := by rw [i_add (by rw [a1, m2]; rcases hw with h | h <;> rw [h] <;> omega) (by rw [a1, m2]; rcases hw with h | h <;> rw [h] <;> omega), a1, m2]
  generalize Piece_line p + way * gap + way * dep = far at *
  generalize Piece_line p + way * gap = near at *
  simp only [i_lt]
  rcases hw with h | h
  · rw [h] at a1 a2 ⊢
    constructor <;> (split <;> simp <;> omega)
  · rw [h] at a1 a2 ⊢
    constructor <;> (split <;> simp <;> omega)
theorem v_applyMove {st : xSt} {k : Nat} (h : okP (X_pieces st k)) : ∃ b m, f_MaskEdges_applyMove k st = some (X_u_mask (X_u_box st b) m) ∧ ∀ x y, x < 48 → y < 48 → cs m x y = pm (X_pieces st k) (cs (X_mask st)) x y := by
  obtain ⟨h1, h2, h3, h4, h5, h6⟩ := h
  unfold f_MaskEdges_applyMove
  generalize X_pieces st k = p at *
  by_cases c1 : Piece_move p ≤ 0
  · rw [if_pos c1]
    by_cases c2 : 0 ≤ Piece_move p
    · rw [if_pos c2]
      rw [i_le, c0] at c1 c2
      refine ⟨X_box st, X_mask st, rfl, fun x y _ _ => ?_⟩
      unfold pm pmB
      rw [decide_eq_false (by omega)]
      simp
    · rw [if_neg c2]
      rw [i_le, c0] at c1 c2
      have q1 : (-Piece_outward p).toInt = -(Piece_outward p).toInt := i_neg (by omega)
      have q2 : (-Piece_move p).toInt = -(Piece_move p).toInt := i_neg (by omega)
      obtain ⟨bg, en, e0, b1, b2⟩ := v_lay (Piece_low p) (Piece_high p) (X_box st) (way := -Piece_outward p) (gap := 0) (dep := -Piece_move p) h3 (by omega) c0 q2 (by omega) (by omega)
      obtain ⟨m, e1, e2⟩ := v_removeBox (bx4 p (Piece_low p) (Piece_high p) bg en) (X_mask st)
      refine ⟨bx4 p (Piece_low p) (Piece_high p) bg en, m, ?_, fun x y hx hy => ?_⟩
      · rw [e0]
        show (f_CellSet_removeBox (bx4 p (Piece_low p) (Piece_high p) bg en) (X_mask st)).bind _ = _
        rw [e1]
        rfl
      · rw [e2 x y hx hy, inb_bx4, b1, b2, q1]
        unfold pm pmB
        rw [decide_eq_false (show ¬ 0 < (Piece_move p).toInt by omega), if_neg (show ¬ 0 < (Piece_move p).toInt by omega)]
        generalize (if Piece_alongX p = 0 then (y : Int) else x) = al
        generalize (if Piece_alongX p = 0 then (x : Int) else y) = ac
        rcases (show (Piece_outward p).toInt = 1 ∨ (Piece_outward p).toInt = -1 by omega) with o | o
        · rw [o, if_neg (show ¬ (-1 : Int) = 1 by decide), if_neg (show ¬ (-1 : Int) = 1 by decide)]
          simp only [if_neg (show ¬ (0 < (1 : Int) ↔ 0 < (Piece_move p).toInt) by omega)]
          by_cases z : (Piece_low p).toInt ≤ al ∧ al < (Piece_high p).toInt ∧ (Piece_line p).toInt - 0 - -(Piece_move p).toInt ≤ ac ∧ ac < (Piece_line p).toInt - 0
          · rw [decide_eq_true z, decide_eq_true (by omega)]; simp
          · rw [decide_eq_false z, decide_eq_false (by omega)]; simp
        · rw [o, if_pos (show - (-1 : Int) = 1 by decide), if_pos (show - (-1 : Int) = 1 by decide)]
          simp only [if_pos (show (0 < (-1 : Int) ↔ 0 < (Piece_move p).toInt) by omega)]
          by_cases z : (Piece_low p).toInt ≤ al ∧ al < (Piece_high p).toInt ∧ (Piece_line p).toInt + 0 ≤ ac ∧ ac < (Piece_line p).toInt + 0 + -(Piece_move p).toInt
          · rw [decide_eq_true z, decide_eq_true (by omega)]; simp
          · rw [decide_eq_false z, decide_eq_false (by omega)]; simp
  · rw [if_neg c1]
    rw [i_le, c0] at c1
    obtain ⟨bg, en, e0, b1, b2⟩ := v_lay (Piece_low p) (Piece_high p) (X_box st) (way := Piece_outward p) (gap := 0) (dep := Piece_move p) h3 (by omega) c0 rfl (by omega) (by omega)
    obtain ⟨m, e1, e2⟩ := v_addBox (bx4 p (Piece_low p) (Piece_high p) bg en) (X_mask st)
    refine ⟨bx4 p (Piece_low p) (Piece_high p) bg en, m, ?_, fun x y hx hy => ?_⟩
    · rw [e0]
      show (f_CellSet_addBox (bx4 p (Piece_low p) (Piece_high p) bg en) (X_mask st)).bind _ = _
      rw [e1]
      rfl
    · rw [e2 x y hx hy, inb_bx4, b1, b2]
      unfold pm pmB
      rw [decide_eq_true (show 0 < (Piece_move p).toInt by omega), if_pos (show 0 < (Piece_move p).toInt by omega)]
      generalize (if Piece_alongX p = 0 then (y : Int) else x) = al
      generalize (if Piece_alongX p = 0 then (x : Int) else y) = ac
      rcases (show (Piece_outward p).toInt = 1 ∨ (Piece_outward p).toInt = -1 by omega) with o | o
      · rw [o, if_pos rfl, if_pos rfl]
        simp only [if_pos (show (0 < (1 : Int) ↔ 0 < (Piece_move p).toInt) by omega)]
        by_cases z : (Piece_low p).toInt ≤ al ∧ al < (Piece_high p).toInt ∧ (Piece_line p).toInt + 0 ≤ ac ∧ ac < (Piece_line p).toInt + 0 + (Piece_move p).toInt
        · rw [decide_eq_true z, decide_eq_true (by omega)]; simp
        · rw [decide_eq_false z, decide_eq_false (by omega)]; simp
      · rw [o, if_neg (show ¬ (-1 : Int) = 1 by decide), if_neg (show ¬ (-1 : Int) = 1 by decide)]
        simp only [if_neg (show ¬ (0 < (-1 : Int) ↔ 0 < (Piece_move p).toInt) by omega)]
        by_cases z : (Piece_low p).toInt ≤ al ∧ al < (Piece_high p).toInt ∧ (Piece_line p).toInt - 0 - (Piece_move p).toInt ≤ ac ∧ ac < (Piece_line p).toInt - 0
        · rw [decide_eq_true z, decide_eq_true (by omega)]; simp
        · rw [decide_eq_false z, decide_eq_false (by omega)]; simp
/-- the mask behind the first n pieces' moves; the mask -/
def fm (P : Nat → t_Piece) (M : Nat → Nat → Bool) : Nat → Nat → Nat → Bool
  | 0 => M
  | k + 1 => pm (P k) (fm P M k)
def mkX (st : xSt) (n : Nat) (x y : Nat) : Bool := fm (X_pieces st) (cs (X_target st)) n x y || cs (X_barCells st) x y
theorem pm_congr {p : t_Piece} {M N : Nat → Nat → Bool} {x y : Nat} (h : M x y = N x y) : pm p M x y = pm p N x y := by unfold pm; rw [h]
theorem v_renewMask {st : xSt} {n : Nat} (hn : X_pieceCount st = nI n) (hn2 : n ≤ 120) (hp : ∀ k, k < n → okP (X_pieces st k)) : ∃ b m, f_MaskEdges_renewMask st = some (X_u_mask (X_u_box st b) m) ∧ ∀ x y, x < 48 → y < 48 → cs m x y = mkX st n x y := by
  unfold f_MaskEdges_renewMask
  obtain ⟨r0, e0, q0⟩ := v_copyFrom (X_target st) (X_mask st)
  rw [e0]
  refine xpA (fun r => f_MaskEdges_renewMask_13 r f_MaskEdges_renewMask_37) (fun _ _ => none) (fun q j (s : xSt) => q (nI j) s) n (fun j s => ∃ b m, s = X_u_mask (X_u_box st b) m ∧ ∀ x y, x < 48 → y < 48 → cs m x y = fm (X_pieces st) (cs (X_target st)) j x y) (fun o => ∃ b m, o = some (X_u_mask (X_u_box st b) m) ∧ ∀ x y, x < 48 → y < 48 → cs m x y = mkX st n x y) ?_ ?_ 100000 0 (X_u_mask st r0) (Nat.zero_le _) (by omega) ⟨X_box st, r0, rfl, fun x y _ hy => ?_⟩
  · rintro rr s ⟨b, m, rfl, hm⟩
    obtain ⟨r1, e1, q1⟩ := v_addAll (X_barCells st) m
    refine ⟨b, r1, ?_, fun x y hx hy => ?_⟩
    · show f_MaskEdges_renewMask_13 rr f_MaskEdges_renewMask_37 (nI n) _ = _
      unfold f_MaskEdges_renewMask_13
      rw [show X_pieceCount (X_u_mask (X_u_box st b) m) = nI n from hn, if_pos (Int32.le_refl _)]
      unfold f_MaskEdges_renewMask_37
      show (f_CellSet_addAll (X_barCells st) m).bind _ = _
      rw [e1]
      rfl
    · rw [q1 x y hy, hm x y hx hy]; rfl
  · rintro rr j s hj ⟨b, m, rfl, hm⟩
    right
    obtain ⟨b2', m2, e1, q1⟩ := v_applyMove (st := X_u_mask (X_u_box st b) m) (k := j) (hp j hj)
    refine ⟨_, ⟨b2', m2, rfl, fun x y hx hy => ?_⟩, ?_⟩
    · rw [q1 x y hx hy]
      exact pm_congr (hm x y hx hy)
    · show f_MaskEdges_renewMask_13 rr f_MaskEdges_renewMask_37 (nI j) _ = _
      unfold f_MaskEdges_renewMask_13
      rw [show X_pieceCount (X_u_mask (X_u_box st b) m) = nI n from hn, if_neg (by rw [i_le, i_n (by omega), i_n (by omega)]; omega), if_pos (xin_n (by omega) (by decide)), nI_clamp (by omega), e1]
      show rr (nI j + 1) _ = _
      rw [nI_1]
      rfl
  · show tb (r0 y) x = tb (X_target st y) x
    rw [q0 y hy]
