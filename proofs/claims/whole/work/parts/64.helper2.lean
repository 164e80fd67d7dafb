/-! helper, the loop. -/
/-- the box of a piece's bar -/
theorem v_barBox {Q : Nat → t_Piece} {y : ySt} {n k : Nat} (hQ : rQ Q y n) (hk : k < n) (hf1 : Piece_first (Q k) = 1) {sp wd : Int32} (hs : 1 ≤ sp.toInt ∧ sp.toInt ≤ 8) (hw : 1 ≤ wd.toInt ∧ wd.toInt ≤ 4) (h6 : ¬ ((Piece_sideHigh (Q k)) - (Piece_sideLow (Q k))) < (6 : Int32)) (ho : ¬ Piece_outward (Q k) = 0) (b : t_Box) : ∃ C low, f_Box_layBeside (Q k) ((Piece_sideLow (Q k)) + (1 : Int32)) ((Piece_sideHigh (Q k)) - (1 : Int32)) (Piece_outward (Q k)) sp wd b = some C ∧ nrB C ∧ (low = if Piece_outward (Q k) ≤ 0 then Piece_line (Q k) - sp - wd else Piece_line (Q k) + sp) ∧ (Box_left C = if Piece_alongX (Q k) = 0 then low else Piece_sideLow (Q k) + 1) ∧ (Box_top C = if Piece_alongX (Q k) = 0 then Piece_sideLow (Q k) + 1 else low) ∧ (Box_right C - 1 = if Piece_alongX (Q k) = 0 then low + wd - 1 else Piece_sideHigh (Q k) - 2) ∧ (Box_bottom C - 1 = if Piece_alongX (Q k) = 0 then Piece_sideHigh (Q k) - 2 else low + wd - 1) := by
  obtain ⟨l, l1, l2, l3, l4, l5, l6⟩ := (hQ.2 k hk).2.2 hf1
  obtain ⟨p1, p2, p3, p4, -⟩ := (hQ.2 k hk).1.1
  obtain ⟨-, -, -, t4, -⟩ := (hQ.2 l l2).1.1
  have c6 : (6 : Int32).toInt = 6 := rfl
  have sl : 0 ≤ (Piece_sideLow (Q k)).toInt ∧ (Piece_sideLow (Q k)).toInt ≤ 48 := by
    rw [l5]; split <;> omega
  have sh : 0 ≤ (Piece_sideHigh (Q k)).toInt ∧ (Piece_sideHigh (Q k)).toInt ≤ 48 := by
    rw [l6]; split <;> omega
  have s6 : (Piece_sideLow (Q k)).toInt + 6 ≤ (Piece_sideHigh (Q k)).toInt := by
    rw [i_lt, i_sub (by omega) (by omega), c6] at h6
    omega
  have way : (Piece_outward (Q k)).toInt = 1 ∨ (Piece_outward (Q k)).toInt = -1 := by
    rw [i_eq, c0] at ho
    rcases p2 with q | q | q
    · exact Or.inr q
    · exact absurd q ho
    · exact Or.inl q
  obtain ⟨bg, en, e, q1, q2⟩ := v_lay (p := Q k) ((Piece_sideLow (Q k)) + (1 : Int32)) ((Piece_sideHigh (Q k)) - (1 : Int32)) b p3 way rfl rfl (show 0 ≤ sp.toInt ∧ sp.toInt ≤ 8 by omega) (show 0 ≤ wd.toInt ∧ wd.toInt ≤ 8 by omega)
  have i1 : (Piece_sideLow (Q k) + 1).toInt = (Piece_sideLow (Q k)).toInt + 1 := by rw [i_add (by rw [c1]; omega) (by rw [c1]; omega), c1]
  have i2 : (Piece_sideHigh (Q k) - 1).toInt = (Piece_sideHigh (Q k)).toInt - 1 := by rw [i_sub (by rw [c1]; omega) (by rw [c1]; omega), c1]
  have i3 : Piece_sideHigh (Q k) - 1 - 1 = Piece_sideHigh (Q k) - 2 := by
    rw [i_eq, i_sub (by rw [i2, c1]; omega) (by rw [i2, c1]; omega), i2, c1, i_sub (by rw [c2]; omega) (by rw [c2]; omega), c2]
    omega
  have hbg : bg = if Piece_outward (Q k) ≤ 0 then Piece_line (Q k) - sp - wd else Piece_line (Q k) + sp := by
    rcases way with q | q
    · rw [if_neg (by rw [i_le, c0]; omega), i_eq, q1, if_pos q, i_add (by omega) (by omega)]
    · have a1 : (Piece_line (Q k) - sp).toInt = (Piece_line (Q k)).toInt - sp.toInt := i_sub (by omega) (by omega)
      rw [if_pos (by rw [i_le, c0]; omega), i_eq, q1, if_neg (by omega), i_sub (by omega) (by omega), a1]
  have hbb : -20 ≤ bg.toInt ∧ bg.toInt ≤ 60 ∧ en.toInt = bg.toInt + wd.toInt := by
    rw [q1, q2]
    rcases way with q | q
    · rw [if_pos q, if_pos q]; omega
    · rw [if_neg (by omega), if_neg (by omega)]; omega
  have hen : en - 1 = bg + wd - 1 := by
    have a1 : (bg + wd).toInt = bg.toInt + wd.toInt := i_add (by omega) (by omega)
    have : en = bg + wd := by rw [i_eq, a1]; exact hbb.2.2
    rw [this]
  refine ⟨_, bg, e, ?_, hbg, ?_⟩
  · unfold bx4 nrB
    by_cases q : Piece_alongX (Q k) = 0
    · rw [if_pos q]
      show (-1000 ≤ bg.toInt ∧ bg.toInt < en.toInt ∧ en.toInt ≤ 1000) ∧ (-1000 ≤ (Piece_sideLow (Q k) + 1).toInt ∧ (Piece_sideLow (Q k) + 1).toInt < (Piece_sideHigh (Q k) - 1).toInt ∧ (Piece_sideHigh (Q k) - 1).toInt ≤ 1000)
      omega
    · rw [if_neg q]
      show (-1000 ≤ (Piece_sideLow (Q k) + 1).toInt ∧ (Piece_sideLow (Q k) + 1).toInt < (Piece_sideHigh (Q k) - 1).toInt ∧ (Piece_sideHigh (Q k) - 1).toInt ≤ 1000) ∧ (-1000 ≤ bg.toInt ∧ bg.toInt < en.toInt ∧ en.toInt ≤ 1000)
      omega
  · unfold bx4
    by_cases q : Piece_alongX (Q k) = 0
    · simp only [if_pos q]
      exact ⟨rfl, rfl, hen, i3⟩
    · simp only [if_neg q]
      exact ⟨rfl, rfl, i3, hen⟩
theorem H_box {x : xSt} {y : ySt} {c nk n nb : Nat} (h : relH x y c nk n nb) (b : t_Box) : relH (X_u_box x b) y c nk n nb := by
  obtain ⟨hA, hE, hP, hB, hz⟩ := h
  exact ⟨hA, hE, hP, hB, hz⟩
def relG (x : xSt) (y : ySt) (c nk n : Nat) : Prop := (rA x y c ∧ nCl (X_outlines x) c) ∧ (okE (X_exposure x) nk ∧ relE (X_exposure x) y nk) ∧ (X_pieceCount x = nI n ∧ n ≤ 120 ∧ rQ (X_pieces x) y n) ∧ zS (Y_sums y)
theorem G_y_bars {x : xSt} {y : ySt} {c nk n : Nat} (h : relG x y c nk n) (v : Int32) : relG x (Y_u_bars y v) c nk n := by
  obtain ⟨hA, hE, hP, hz⟩ := h
  exact ⟨hA, hE, hP, hz⟩
theorem Wo_y_bars {x : xSt} {y : ySt} (h : rWo x y) (v : Int32) : rWo x (Y_u_bars y v) := by
  obtain ⟨nw, h1, h2, h3, h4⟩ := h
  exact ⟨nw, h1, h2, h3, h4⟩
theorem G_y_barX {x : xSt} {y : ySt} {c nk n : Nat} (h : relG x y c nk n) (v : (Nat → Int32)) : relG x (Y_u_barX y v) c nk n := by
  obtain ⟨hA, hE, hP, hz⟩ := h
  exact ⟨hA, hE, hP, hz⟩
theorem Wo_y_barX {x : xSt} {y : ySt} (h : rWo x y) (v : (Nat → Int32)) : rWo x (Y_u_barX y v) := by
  obtain ⟨nw, h1, h2, h3, h4⟩ := h
  exact ⟨nw, h1, h2, h3, h4⟩
theorem G_y_barY {x : xSt} {y : ySt} {c nk n : Nat} (h : relG x y c nk n) (v : (Nat → Int32)) : relG x (Y_u_barY y v) c nk n := by
  obtain ⟨hA, hE, hP, hz⟩ := h
  exact ⟨hA, hE, hP, hz⟩
theorem Wo_y_barY {x : xSt} {y : ySt} (h : rWo x y) (v : (Nat → Int32)) : rWo x (Y_u_barY y v) := by
  obtain ⟨nw, h1, h2, h3, h4⟩ := h
  exact ⟨nw, h1, h2, h3, h4⟩
theorem G_y_barFarX {x : xSt} {y : ySt} {c nk n : Nat} (h : relG x y c nk n) (v : (Nat → Int32)) : relG x (Y_u_barFarX y v) c nk n := by
  obtain ⟨hA, hE, hP, hz⟩ := h
  exact ⟨hA, hE, hP, hz⟩
theorem Wo_y_barFarX {x : xSt} {y : ySt} (h : rWo x y) (v : (Nat → Int32)) : rWo x (Y_u_barFarX y v) := by
  obtain ⟨nw, h1, h2, h3, h4⟩ := h
  exact ⟨nw, h1, h2, h3, h4⟩
theorem G_y_barFarY {x : xSt} {y : ySt} {c nk n : Nat} (h : relG x y c nk n) (v : (Nat → Int32)) : relG x (Y_u_barFarY y v) c nk n := by
  obtain ⟨hA, hE, hP, hz⟩ := h
  exact ⟨hA, hE, hP, hz⟩
theorem Wo_y_barFarY {x : xSt} {y : ySt} (h : rWo x y) (v : (Nat → Int32)) : rWo x (Y_u_barFarY y v) := by
  obtain ⟨nw, h1, h2, h3, h4⟩ := h
  exact ⟨nw, h1, h2, h3, h4⟩
theorem G_x_box {x : xSt} {y : ySt} {c nk n : Nat} (h : relG x y c nk n) (v : t_Box) : relG (X_u_box x v) y c nk n := by
  obtain ⟨hA, hE, hP, hz⟩ := h
  exact ⟨hA, hE, hP, hz⟩
theorem Wo_x_box {x : xSt} {y : ySt} (h : rWo x y) (v : t_Box) : rWo (X_u_box x v) y := by
  obtain ⟨nw, h1, h2, h3, h4⟩ := h
  exact ⟨nw, h1, h2, h3, h4⟩
theorem G_x_bars {x : xSt} {y : ySt} {c nk n : Nat} (h : relG x y c nk n) (v : (Nat → t_Box)) : relG (X_u_bars x v) y c nk n := by
  obtain ⟨hA, hE, hP, hz⟩ := h
  exact ⟨hA, hE, hP, hz⟩
theorem Wo_x_bars {x : xSt} {y : ySt} (h : rWo x y) (v : (Nat → t_Box)) : rWo (X_u_bars x v) y := by
  obtain ⟨nw, h1, h2, h3, h4⟩ := h
  exact ⟨nw, h1, h2, h3, h4⟩
theorem G_x_barCount {x : xSt} {y : ySt} {c nk n : Nat} (h : relG x y c nk n) (v : Int32) : relG (X_u_barCount x v) y c nk n := by
  obtain ⟨hA, hE, hP, hz⟩ := h
  exact ⟨hA, hE, hP, hz⟩
theorem Wo_x_barCount {x : xSt} {y : ySt} (h : rWo x y) (v : Int32) : rWo (X_u_barCount x v) y := by
  obtain ⟨nw, h1, h2, h3, h4⟩ := h
  exact ⟨nw, h1, h2, h3, h4⟩
theorem G_x_barCells {x : xSt} {y : ySt} {c nk n : Nat} (h : relG x y c nk n) (v : t_CellSet) : relG (X_u_barCells x v) y c nk n := by
  obtain ⟨hA, hE, hP, hz⟩ := h
  exact ⟨hA, hE, hP, hz⟩
theorem Wo_x_barCells {x : xSt} {y : ySt} (h : rWo x y) (v : t_CellSet) : rWo (X_u_barCells x v) y := by
  obtain ⟨nw, h1, h2, h3, h4⟩ := h
  exact ⟨nw, h1, h2, h3, h4⟩
theorem H_bar {x : xSt} {y : ySt} {c nk n nb : Nat} (h : relH x y c nk n nb) (h24 : nb < 24) {C : t_Box} (hC : okBx C) {t : t_CellSet} (ht : ∀ a b, a < 48 → b < 48 → cs t a b = (cs (X_barCells x) a b || inb C a b)) : relH (xBar x nb C t) (yBar y nb C) c nk n (nb + 1) := by
  obtain ⟨hA, hE, hP, ⟨hn, hn2, ⟨hY, hB, hcs⟩⟩, hz⟩ := h
  have hG : relG (xBar x nb C t) (yBar y nb C) c nk n := G_y_bars (G_y_barFarY (G_y_barFarX (G_y_barY (G_y_barX (G_x_barCells (G_x_barCount (G_x_bars (G_x_box ⟨hA, hE, hP, hz⟩ C) _) _) t) _) _) _) _) _
  have anyU : ∀ (a b : Nat) j, j ≤ nb → anyB (va_up (X_bars x) nb C) a b j = anyB (X_bars x) a b j := by
    intro a b j
    induction j with
    | zero => intro _; rfl
    | succ j ih =>
      intro hj
      show (anyB (va_up (X_bars x) nb C) a b j || inb (va_up (X_bars x) nb C j) a b) = _
      rw [ih (by omega), up_ne _ (by omega)]
      rfl
  obtain ⟨gA, gE, gP, gz⟩ := hG
  have y0 : Y_bars (yBar y nb C) = nI (nb + 1) := by unfold yBar; rw [ya_bars_bars]
  have y1 : Y_barX (yBar y nb C) = upd (Y_barX y) nb (Box_left C) := by unfold yBar; simp only [ya_bars_bars, ya_bars_barX, ya_bars_barY, ya_bars_barFarX, ya_bars_barFarY, ya_barX_bars, ya_barX_barX, ya_barX_barY, ya_barX_barFarX, ya_barX_barFarY, ya_barY_bars, ya_barY_barX, ya_barY_barY, ya_barY_barFarX, ya_barY_barFarY, ya_barFarX_bars, ya_barFarX_barX, ya_barFarX_barY, ya_barFarX_barFarX, ya_barFarX_barFarY, ya_barFarY_bars, ya_barFarY_barX, ya_barFarY_barY, ya_barFarY_barFarX, ya_barFarY_barFarY]
  have y2 : Y_barY (yBar y nb C) = upd (Y_barY y) nb (Box_top C) := by unfold yBar; simp only [ya_bars_bars, ya_bars_barX, ya_bars_barY, ya_bars_barFarX, ya_bars_barFarY, ya_barX_bars, ya_barX_barX, ya_barX_barY, ya_barX_barFarX, ya_barX_barFarY, ya_barY_bars, ya_barY_barX, ya_barY_barY, ya_barY_barFarX, ya_barY_barFarY, ya_barFarX_bars, ya_barFarX_barX, ya_barFarX_barY, ya_barFarX_barFarX, ya_barFarX_barFarY, ya_barFarY_bars, ya_barFarY_barX, ya_barFarY_barY, ya_barFarY_barFarX, ya_barFarY_barFarY]
  have y3 : Y_barFarX (yBar y nb C) = upd (Y_barFarX y) nb (Box_right C - 1) := by unfold yBar; simp only [ya_bars_bars, ya_bars_barX, ya_bars_barY, ya_bars_barFarX, ya_bars_barFarY, ya_barX_bars, ya_barX_barX, ya_barX_barY, ya_barX_barFarX, ya_barX_barFarY, ya_barY_bars, ya_barY_barX, ya_barY_barY, ya_barY_barFarX, ya_barY_barFarY, ya_barFarX_bars, ya_barFarX_barX, ya_barFarX_barY, ya_barFarX_barFarX, ya_barFarX_barFarY, ya_barFarY_bars, ya_barFarY_barX, ya_barFarY_barY, ya_barFarY_barFarX, ya_barFarY_barFarY]
  have y4 : Y_barFarY (yBar y nb C) = upd (Y_barFarY y) nb (Box_bottom C - 1) := by unfold yBar; simp only [ya_bars_bars, ya_bars_barX, ya_bars_barY, ya_bars_barFarX, ya_bars_barFarY, ya_barX_bars, ya_barX_barX, ya_barX_barY, ya_barX_barFarX, ya_barX_barFarY, ya_barY_bars, ya_barY_barX, ya_barY_barY, ya_barY_barFarX, ya_barY_barFarY, ya_barFarX_bars, ya_barFarX_barX, ya_barFarX_barY, ya_barFarX_barFarX, ya_barFarX_barFarY, ya_barFarY_bars, ya_barFarY_barX, ya_barFarY_barY, ya_barFarY_barFarX, ya_barFarY_barFarY]
  generalize yBar y nb C = y' at *
  have x0 : X_barCount (xBar x nb C t) = nI (nb + 1) := rfl
  have x1 : X_bars (xBar x nb C t) = va_up (X_bars x) nb C := rfl
  have x2 : X_barCells (xBar x nb C t) = t := rfl
  generalize xBar x nb C t = x' at *
  refine ⟨gA, gE, gP, ⟨x0, by omega, ⟨y0, fun k hk => ?_, fun a b ha hb => ?_⟩⟩, gz⟩
  · rw [x1]
    unfold relB
    rw [y1, y2, y3, y4]
    unfold upd
    by_cases e : k = nb
    · subst e
      rw [up_at]
      exact ⟨hC, if_pos rfl, if_pos rfl, if_pos rfl, if_pos rfl⟩
    · rw [up_ne _ e]
      obtain ⟨o, b1, b2', b3, b4⟩ := hB k (by omega)
      rw [if_neg e, if_neg e, if_neg e, if_neg e]
      exact ⟨o, b1, b2', b3, b4⟩
  · rw [x1, x2]
    show cs t a b = (anyB (va_up (X_bars x) nb C) a b nb || inb (va_up (X_bars x) nb C nb) a b)
    rw [ht a b ha hb, hcs a b ha hb, anyU a b nb (Nat.le_refl _), up_at]
theorem W_box {x : xSt} {y : ySt} (h : rWo x y) (b : t_Box) : rWo (X_u_box x b) y := Wo_x_box h b
theorem W_bar {x : xSt} {y : ySt} (h : rWo x y) (nb : Nat) (C : t_Box) (t : t_CellSet) : rWo (xBar x nb C t) (yBar y nb C) := Wo_y_bars (Wo_y_barFarY (Wo_y_barFarX (Wo_y_barY (Wo_y_barX (Wo_x_barCells (Wo_x_barCount (Wo_x_bars (Wo_x_box h C) _) _) t) _) _) _) _) _
theorem P_bar {x : xSt} (nb : Nat) (C : t_Box) (t : t_CellSet) : X_pieces (xBar x nb C t) = X_pieces x := rfl
theorem helper_loop {sp wd : Int32} (hs : 1 ≤ sp.toInt ∧ sp.toInt ≤ 8) (hw : 1 ≤ wd.toInt ∧ wd.toInt ≤ 4) {c nk n nb0 : Nat} : ∀ (f j fu1 fu2 nb : Nat) (x : xSt) (y : ySt), f + j = n → f + 1 ≤ fu1 → f + 1 ≤ fu2 → nb0 ≤ nb → relH x y c nk n nb → rWo x y → ∃ nb' x' y', xloop (fun r => f_MaskEdges_helper_40 r f_MaskEdges_helper_81) (fun _ _ _ _ _ => none) fu1 sp wd (nI nb0) (nI j) x = f_MaskEdges_helper_81 (nI nb0) x' ∧ xloop (fun r => f_MaskEdgesModel_helper_42 r) (fun _ _ _ _ _ => none) fu2 sp wd (nI (nb - nb0)) (nI j) y = some (nI (nb' - nb0), y') ∧ nb0 ≤ nb' ∧ relH x' y' c nk n nb' ∧ rWo x' y' := by
  intro f
  induction f with
  | zero =>
    intro j fu1 fu2 nb x y hj h1 h2 hnb h hW
    obtain ⟨g1, rfl⟩ : ∃ g1, fu1 = g1 + 1 := ⟨fu1 - 1, by omega⟩
    obtain ⟨g2, rfl⟩ : ∃ g2, fu2 = g2 + 1 := ⟨fu2 - 1, by omega⟩
    have hn := h.2.2.1.1
    have hn2 := h.2.2.1.2.1
    have hQ := h.2.2.1.2.2
    refine ⟨nb, x, y, ?_, ?_, hnb, h, hW⟩
    · show f_MaskEdges_helper_40 _ f_MaskEdges_helper_81 sp wd (nI nb0) (nI j) x = _
      unfold f_MaskEdges_helper_40
      rw [hn, if_pos (by rw [show j = n from by omega]; exact Int32.le_refl _)]
    · show f_MaskEdgesModel_helper_42 _ sp wd (nI (nb - nb0)) (nI j) y = _
      unfold f_MaskEdgesModel_helper_42
      rw [hQ.1, if_pos (by rw [show j = n from by omega]; exact Int32.le_refl _)]
  | succ f ih =>
    intro j fu1 fu2 nb x y hj h1 h2 hnb h hW
    obtain ⟨g1, rfl⟩ : ∃ g1, fu1 = g1 + 1 := ⟨fu1 - 1, by omega⟩
    obtain ⟨g2, rfl⟩ : ∃ g2, fu2 = g2 + 1 := ⟨fu2 - 1, by omega⟩
    have hn := h.2.2.1.1
    have hn2 := h.2.2.1.2.1
    have hQ := h.2.2.1.2.2
    have hk : j < n := by omega
    have gk := in120 hk hn2
    have ck := cl120 hk hn2
    have more := fun nb' x' y' => ih (j + 1) g1 g2 nb' x' y' (by omega) (by omega) (by omega)
    show ∃ nb' x' y', f_MaskEdges_helper_40 (xloop (fun r => f_MaskEdges_helper_40 r f_MaskEdges_helper_81) (fun _ _ _ _ _ => none) g1) f_MaskEdges_helper_81 sp wd (nI nb0) (nI j) x = f_MaskEdges_helper_81 (nI nb0) x' ∧ f_MaskEdgesModel_helper_42 (xloop (fun r => f_MaskEdgesModel_helper_42 r) (fun _ _ _ _ _ => none) g2) sp wd (nI (nb - nb0)) (nI j) y = some (nI (nb' - nb0), y') ∧ nb0 ≤ nb' ∧ relH x' y' c nk n nb' ∧ rWo x' y'
    generalize xloop (fun r => f_MaskEdges_helper_40 r f_MaskEdges_helper_81) (fun _ _ _ _ _ => none) g1 = r1 at more
    generalize xloop (fun r => f_MaskEdgesModel_helper_42 r) (fun _ _ _ _ _ => none) g2 = r2 at more
    have lt : ∀ m : Int32, m = nI n → ¬ m ≤ nI j := fun m e => by rw [e, i_le, i_n (by omega), i_n (by omega)]; omega
    unfold f_MaskEdges_helper_40 f_MaskEdgesModel_helper_42 f_MaskEdges_helper_75 f_MaskEdgesModel_helper_78 f_MaskEdgesModel_helper_79 f_Piece_mayHaveBar f_Piece_isFlat
    rw [if_neg (lt _ hn), if_neg (lt _ hQ.1), if_pos gk, if_pos gk, if_pos gk, ck, (hQ.2 j hk).2.1.2.2.2.2.1, nI_1]
    by_cases f0 : Piece_first (X_pieces x j) = 0
    · rw [if_pos f0, if_pos f0, Option.bind_some, if_pos (show (0 : Int32) = 0 from rfl)]
      exact more nb x y hnb h hW
    · have f1 : Piece_first (X_pieces x j) = 1 := by
        rcases (hQ.2 j hk).1.2.2.1 with q | q
        · exact absurd q f0
        · exact q
      rw [if_neg f0, if_neg f0]
      by_cases o0 : Piece_outward (X_pieces x j) = 0
      · rw [if_pos o0, Option.bind_some, if_neg (show ¬ (1 : Int32) = 0 by decide), Option.bind_some, if_pos (show (0 : Int32) = 0 from rfl), v_hasNot hQ hn2 hk f1 sp wd (Or.inr o0), Option.bind_some]
        exact more nb x y hnb h hW
      · rw [if_neg o0, Option.bind_some, if_pos (show (0 : Int32) = 0 from rfl)]
        by_cases s6 : (Piece_sideHigh (X_pieces x j)) - (Piece_sideLow (X_pieces x j)) < (6 : Int32)
        · rw [if_pos s6, Option.bind_some, if_pos (show (0 : Int32) = 0 from rfl), v_hasNot hQ hn2 hk f1 sp wd (Or.inl s6), Option.bind_some]
          exact more nb x y hnb h hW
        · rw [if_neg s6, Option.bind_some, if_neg (show ¬ (1 : Int32) = 0 by decide)]
          obtain ⟨C, low, eC, hC, q1, q2, q3, q4, q5⟩ := v_barBox hQ hk f1 hs hw s6 o0 (X_box x)
          obtain ⟨t, et, qt⟩ := v_placeBar h hC eC
          rw [et, Option.bind_some, v_hasCome h hk f1 hC s6 o0 q1 q2 q3 q4 q5, Option.bind_some]
          dsimp only
          cases cm : came x c nb C with
          | false =>
            exact more nb (X_u_box x C) y hnb (H_box h C) (W_box hW C)
          | true =>
            have c24 : nb < 24 ∧ onG C = true := by
              unfold came at cm
              rw [Bool.and_eq_true, Bool.and_eq_true, Bool.and_eq_true] at cm
              exact ⟨of_decide_eq_true cm.1, cm.2.1.1⟩
            rw [if_pos rfl, if_pos rfl, if_neg (show ¬ b2 true = 0 by decide)]
            have := more (nb + 1) (xBar x nb C t) (yBar y nb C) (by omega) (H_bar h c24.1 (nr_ok hC c24.2) qt) (W_bar hW nb C t)
            rw [show nb + 1 - nb0 = nb - nb0 + 1 from by omega, ← nI_1 (nb - nb0)] at this
            exact this
theorem op_helper {x : xSt} {y : ySt} (h : rel x y) (a b : Int32) : ∃ v x' y', f_MaskEdges_helper a b x = some (v, x') ∧ f_MaskEdgesModel_helper a b y = some (v, y') ∧ rel x' y' := by
  obtain ⟨c, nk, n, nb, nw, h⟩ := h
  have h0 := h
  obtain ⟨hA, hE, ⟨hn, hn2, hQ⟩, hB, hM, hW, hz⟩ := h
  unfold f_MaskEdges_helper f_MaskEdgesModel_helper
  rw [v_wi a (show (1 : Int32).toInt = 1 from rfl) (show (8 : Int32).toInt = 8 from rfl), Option.bind_some, b2_iff, v_isB a (show (1 : Int64).toInt = 1 from rfl) (show (8 : Int64).toInt = 8 from rfl), Option.bind_some, b2_iff]
  by_cases g : 1 ≤ a.toInt ∧ a.toInt ≤ 8
  · rw [if_pos g, if_pos g, v_wi b (show (1 : Int32).toInt = 1 from rfl) (show (4 : Int32).toInt = 4 from rfl), Option.bind_some, b2_iff, v_isB b (show (1 : Int64).toInt = 1 from rfl) (show (4 : Int64).toInt = 4 from rfl), Option.bind_some, b2_iff]
    by_cases d : 1 ≤ b.toInt ∧ b.toInt ≤ 4
    · rw [if_pos d, if_pos d, hn, hQ.1]
      by_cases z : nI n = 0
      · rw [if_pos z, if_pos z]
        exact ⟨_, _, _, rfl, rfl, c, nk, n, nb, nw, h0⟩
      · rw [if_neg z, if_neg z, hB.1]
        obtain ⟨nb', x', y', e1, e2, le, h1, hW1⟩ := helper_loop g d (c := c) (nk := nk) (n := n) (nb0 := nb) n 0 100000 100000 nb x y (by omega) (by omega) (by omega) (Nat.le_refl _) ⟨hA, hE, ⟨hn, hn2, hQ⟩, hB, hz⟩ ⟨nw, hW⟩
        rw [Nat.sub_self] at e2
        have e1' : xloop (fun r => f_MaskEdges_helper_40 r f_MaskEdges_helper_81) (fun _ _ _ _ _ => none) 100000 a b (nI nb) 0 x = _ := e1
        have e2' : xloop (fun r => f_MaskEdgesModel_helper_42 r) (fun _ _ _ _ _ => none) 100000 a b 0 0 y = _ := e2
        rw [e1', e2']
        unfold f_MaskEdges_helper_81
        obtain ⟨hA', hE', ⟨hn', hn2', hQ'⟩, hB', hz'⟩ := h1
        obtain ⟨nw', hW'⟩ := hW1
        obtain ⟨bb, m, e3, q3⟩ := v_renewMask (st := x') (n := n) hn' hn2' (fun k hk => (hQ'.2 k hk).1.1)
        rw [e3, Option.bind_some]
        refine ⟨nI (nb' - nb), X_u_mask (X_u_box x' bb) m, y', ?_, rfl, c, nk, n, nb', nw', ⟨hA', hE', ⟨hn', hn2', hQ'⟩, hB', q3, hW', hz'⟩⟩
        have eb : X_barCount (X_u_mask (X_u_box x' bb) m) = nI nb' := hB'.1
        rw [eb, n_sub le (nI nb) rfl]
    · rw [if_neg d, if_neg d]
      exact ⟨_, _, _, rfl, rfl, c, nk, n, nb, nw, h0⟩
  · rw [if_neg g, if_neg g]
    exact ⟨_, _, _, rfl, rfl, c, nk, n, nb, nw, h0⟩
