/-! The relation between class and reference, and the calls that only ask. -/
def sdG (Q : Nat → t_Piece) (n k : Nat) : Prop := Piece_first (Q k) = 1 → ∃ l, k ≤ l ∧ l < n ∧ Piece_last (Q l) = 1 ∧ (∀ j, k ≤ j → j < l → Piece_last (Q j) = 0) ∧ Piece_sideLow (Q k) = (if Piece_low (Q l) ≤ Piece_low (Q k) then Piece_low (Q l) else Piece_low (Q k)) ∧ Piece_sideHigh (Q k) = (if Piece_high (Q k) ≤ Piece_high (Q l) then Piece_high (Q l) else Piece_high (Q k))
def fl01 (p : t_Piece) : Prop := (Piece_first p = 0 ∨ Piece_first p = 1) ∧ (Piece_last p = 0 ∨ Piece_last p = 1)
def rQ (Q : Nat → t_Piece) (y : ySt) (n : Nat) : Prop := Y_pieces y = nI n ∧ ∀ k, k < n → (okP (Q k) ∧ okIn (Q k) ∧ fl01 (Q k)) ∧ relQ (Q k) y k ∧ sdG Q n k
def rB (B : Nat → t_Box) (t : t_CellSet) (y : ySt) (nb : Nat) : Prop := Y_bars y = nI nb ∧ (∀ k, k < nb → okBx (B k) ∧ relB (B k) y k) ∧ ∀ a b, a < 48 → b < 48 → cs t a b = anyB B a b nb
def rW (W : Nat → Int32) (y : ySt) (nw : Nat) : Prop := Y_kept y = nI nw - 1 ∧ ∀ k, k < nw → W k = Y_worsts y k
def rM (x : xSt) (n : Nat) : Prop := ∀ a b, a < 48 → b < 48 → cs (X_mask x) a b = mkX x n a b
def nCl (P : Nat → t_Outline) (c : Nat) : Prop := ∀ p, c ≤ p → p < 4 → Outline_closed (P p) = 0
def relN (x : xSt) (y : ySt) (c nk n nb nw : Nat) : Prop := (rA x y c ∧ nCl (X_outlines x) c) ∧ (okE (X_exposure x) nk ∧ relE (X_exposure x) y nk) ∧ (X_pieceCount x = nI n ∧ n ≤ 120 ∧ rQ (X_pieces x) y n) ∧ (X_barCount x = nI nb ∧ nb ≤ 24 ∧ rB (X_bars x) (X_barCells x) y nb) ∧ rM x n ∧ (X_worstCount x = nI nw ∧ nw ≤ 21 ∧ rW (X_worsts x) y nw) ∧ zS (Y_sums y)
def rel (x : xSt) (y : ySt) : Prop := ∃ c nk n nb nw, relN x y c nk n nb nw
theorem fm_congr {P : Nat → t_Piece} {M N : Nat → Nat → Bool} {a b : Nat} (h : M a b = N a b) : ∀ k, fm P M k a b = fm P N k a b := by
  intro k
  induction k with
  | zero => exact h
  | succ k ih => exact pm_congr ih
theorem gS_congr {t : Nat → Int32} {M N : Nat → Nat → Bool} (h : gS t M) (e : ∀ a b, a < 48 → b < 48 → M a b = N a b) : gS t N := fun i j hi hj => by rw [h i j hi hj, rS_congr e i hi j hj]
/-- the reference makes the mask that the class keeps -/
theorem v_makeM {x : xSt} {y : ySt} {c n nb : Nat} (hA : rA x y c) (hn2 : n ≤ 120) (hQ : rQ (X_pieces x) y n) (hb2 : nb ≤ 24) (hB : rB (X_bars x) (X_barCells x) y nb) (hz : zS (Y_sums y)) : ∃ m t, f_MaskEdgesModel_make y = some (Y_u_sums (Y_u_mask y m) t) ∧ gM m (mkX x n) ∧ gS t (mkX x n) := by
  obtain ⟨m1, e1, g1⟩ := v_make1 hA.2.1
  obtain ⟨m2, e2, g2⟩ := v_make2 (Q := X_pieces x) hQ.1 hn2 (fun k hk => ⟨(hQ.2 k hk).1.1, (hQ.2 k hk).2.1⟩) m1 _ g1
  obtain ⟨m3, e3, g3⟩ := v_make3 (B := X_bars x) hB.1 hb2 hB.2.1 m2 _ g2
  obtain ⟨t, e4, g4⟩ := v_make4 m3 _ g3 hz
  have ec : ∀ a b, a < 48 → b < 48 → (fm (X_pieces x) (fun a b => tgt (X_outlines x) a b c) n a b || anyB (X_bars x) a b nb) = mkX x n a b := by
    intro a b ha hb
    unfold mkX
    rw [hB.2.2 a b ha hb, fm_congr (N := cs (X_target x)) (hA.2.2 a b ha hb).symm]
  exact ⟨m3, t, by rw [e1, e2, e3, e4], gM_congr g3 ec, gS_congr g4 ec⟩
theorem rel_made {x : xSt} {y : ySt} {c nk n nb nw : Nat} (h : relN x y c nk n nb nw) {m t : Nat → Int32} (hz : zS t) : relN x (Y_u_sums (Y_u_mask y m) t) c nk n nb nw := by
  obtain ⟨hA, hE, hP, hB, hM, hW, -⟩ := h
  exact ⟨hA, hE, hP, hB, hM, hW, hz⟩
theorem v_make {x : xSt} {y : ySt} {c nk n nb nw : Nat} (h : relN x y c nk n nb nw) : ∃ m t, f_MaskEdgesModel_make y = some (Y_u_sums (Y_u_mask y m) t) ∧ gM m (cs (X_mask x)) ∧ gS t (cs (X_mask x)) ∧ relN x (Y_u_sums (Y_u_mask y m) t) c nk n nb nw := by
  have h0 := h
  obtain ⟨hA, -, ⟨-, hn2, hQ⟩, ⟨-, hb2, hB⟩, hM, -, hz⟩ := h
  obtain ⟨m, t, e, g1, g2⟩ := v_makeM hA.1 hn2 hQ hb2 hB hz
  exact ⟨m, t, e, gM_congr g1 (fun a b ha hb => (hM a b ha hb).symm), gS_congr g2 (fun a b ha hb => (hM a b ha hb).symm), rel_made h0 (gS_z g2)⟩
theorem v_isB (v : Int32) {lo hi : Int64} {L U : Int} (hl : lo.toInt = L) (hh : hi.toInt = U) : f_MaskEdgesModel_isBetween v.toInt64 lo hi = some (b2 (decide (L ≤ v.toInt ∧ v.toInt ≤ U))) := by
  rw [v_isBetween, l_i, hl, hh]
theorem v_wi (v : Int32) {lo hi : Int32} {L U : Int} (hl : lo.toInt = L) (hh : hi.toInt = U) : f_MaskEdges_within v lo hi = some (b2 (decide (L ≤ v.toInt ∧ v.toInt ≤ U))) := by
  rw [v_within, hl, hh]
theorem dec_t {p : Prop} [Decidable p] (h : p) : (decide p = true) = True := by simp [h]
theorem b2_iff {α : Type} {p : Prop} [Decidable p] {A B : α} : (if b2 (decide p) = 0 then A else B) = (if p then B else A) := by
  rw [b2_if]
  by_cases h : p
  · rw [if_pos h, if_pos (decide_eq_true h)]
  · rw [if_neg h, if_neg (by simp [h])]
theorem nm1 {n : Nat} (h : n ≤ 120) : (nI n - 1 : Int32).toInt64.toInt = (n : Int) - 1 := by
  rw [l_i, i_sub (by rw [i_n (by omega), c1]; omega) (by rw [i_n (by omega), c1]; omega), i_n (by omega), c1]
theorem v_xPiece {x : xSt} {n : Nat} (hn : X_pieceCount x = nI n) (hn2 : n ≤ 120) (v : Int32) : f_MaskEdges_isPiece x v = some (b2 (decide (0 ≤ v.toInt ∧ v.toInt ≤ (n : Int) - 1))) := by
  unfold f_MaskEdges_isPiece
  rw [hn]
  by_cases a : v < 0
  · rw [if_pos a, decide_eq_false (by rw [i_lt, c0] at a; omega)]; rfl
  · rw [if_neg a]
    by_cases b : nI n ≤ v
    · rw [if_pos b, decide_eq_false (by rw [i_le, i_n (by omega)] at b; omega)]; rfl
    · rw [if_neg b, decide_eq_true (by rw [i_le, i_n (by omega)] at b; rw [i_lt, c0] at a; omega)]; rfl
theorem v_yPiece {y : ySt} {n : Nat} (hn : Y_pieces y = nI n) (hn2 : n ≤ 120) (v : Int32) : f_MaskEdgesModel_isPiece y v = some (b2 (decide (0 ≤ v.toInt ∧ v.toInt ≤ (n : Int) - 1))) := by
  unfold f_MaskEdgesModel_isPiece
  rw [hn, v_isB v (show (0 : Int64).toInt = 0 from rfl) (nm1 hn2), Option.bind_some, if_pos (b2_z _)]
theorem isP {v : Int32} {n : Nat} (h : 0 ≤ v.toInt ∧ v.toInt ≤ (n : Int) - 1) : ∃ k, k < n ∧ v = nI k := ⟨v.toInt.toNat, by omega, i_of h.1⟩
/-- image -/
theorem op_image {x : xSt} {y : ySt} (h : rel x y) (a b : Int32) : ∃ v y', f_MaskEdges_image x a b = some v ∧ f_MaskEdgesModel_image a b y = some (v, y') ∧ rel x y' := by
  obtain ⟨c, nk, n, nb, nw, h⟩ := h
  unfold f_MaskEdges_image f_MaskEdgesModel_image
  rw [v_onGrid, Option.bind_some, b2_if, v_isCell, Option.bind_some, b2_if]
  by_cases g : gr a.toInt b.toInt = true
  · rw [if_pos g, if_pos g]
    obtain ⟨g1, g2, g3, g4⟩ := gr_t g
    obtain ⟨m, t, e, -, gs, hr⟩ := v_make h
    obtain ⟨hE, rE⟩ := h.2.1
    rw [e, Option.bind_some]
    have i1 := v_imageAt hE (X_mask x) (x := a.toInt.toNat) (y := b.toInt.toNat) (by omega) (by omega)
    have i2 := v_rimageAt hE hr.2.1.2 (M := cs (X_mask x)) gs (x := a.toInt.toNat) (z := b.toInt.toNat) (by omega) (by omega)
    rw [← i_of g1, ← i_of g3] at i1 i2
    rw [i1, i2, Option.bind_some, Option.bind_some]
    exact ⟨_, _, rfl, rfl, c, nk, n, nb, nw, hr⟩
  · rw [if_neg g, if_neg g]
    exact ⟨_, _, rfl, rfl, c, nk, n, nb, nw, h⟩
theorem in120 {k n : Nat} (h : k < n) (hn : n ≤ 120) : xin (nI k) 120 = true := xin_n (by omega) (by omega)
theorem cl120 {k n : Nat} (h : k < n) (hn : n ≤ 120) : (nI k).toNatClampNeg = k := nI_clamp (by omega)
theorem op_edge {x : xSt} {y : ySt} (h : rel x y) (a b : Int32) : ∃ v y', f_MaskEdges_edge x a b = some v ∧ f_MaskEdgesModel_edge a b y = some (v, y') ∧ rel x y' := by
  obtain ⟨c, nk, n, nb, nw, h⟩ := h
  obtain ⟨hn, hn2, hQ⟩ := h.2.2.1
  unfold f_MaskEdges_edge f_MaskEdgesModel_edge
  rw [v_xPiece hn hn2, Option.bind_some, b2_iff, v_yPiece hQ.1 hn2, Option.bind_some, b2_iff]
  by_cases g : 0 ≤ a.toInt ∧ a.toInt ≤ (n : Int) - 1
  · rw [if_pos g, if_pos g, v_wi b (show (1 : Int32).toInt = 1 from rfl) (show (1000 : Int32).toInt = 1000 from rfl), Option.bind_some, b2_iff, v_isB b (show (1 : Int64).toInt = 1 from rfl) (show (1000 : Int64).toInt = 1000 from rfl), Option.bind_some, b2_iff]
    by_cases d : 1 ≤ b.toInt ∧ b.toInt ≤ 1000
    · rw [if_pos d, if_pos d]
      obtain ⟨k, hk, rfl⟩ := isP g
      obtain ⟨m, t, e, -, gs, hr⟩ := v_make h
      obtain ⟨hE, rE⟩ := h.2.1
      rw [e, Option.bind_some, if_pos (in120 hk hn2), cl120 hk hn2, v_errorOf hE (hQ.2 k hk).1.1 (hQ.2 k hk).1.2.1 d, Option.bind_some]
      rw [v_errorAt hE hr.2.1.2 (M := cs (X_mask x)) gs (p := X_pieces x k) (by omega) (hr.2.2.1.2.2.2 k hk).2.1 d, Option.bind_some]
      exact ⟨_, _, rfl, rfl, c, nk, n, nb, nw, hr⟩
    · rw [if_neg d, if_neg d]
      exact ⟨_, _, rfl, rfl, c, nk, n, nb, nw, h⟩
  · rw [if_neg g, if_neg g]
    exact ⟨_, _, rfl, rfl, c, nk, n, nb, nw, h⟩
theorem op_error {x : xSt} {y : ySt} (h : rel x y) (a : Int32) : ∃ v y', f_MaskEdges_error x a = some v ∧ f_MaskEdgesModel_error a y = some (v, y') ∧ rel x y' := by
  obtain ⟨v, y', e1, e2, r⟩ := op_edge h a 100
  refine ⟨v, y', ?_, ?_, r⟩
  · rw [← e1]
    unfold f_MaskEdges_error f_MaskEdges_edge
    rw [v_wi 100 (show (1 : Int32).toInt = 1 from rfl) (show (1000 : Int32).toInt = 1000 from rfl), Option.bind_some, b2_iff, if_pos (show (1 : Int) ≤ (100 : Int32).toInt ∧ (100 : Int32).toInt ≤ 1000 by decide)]
  · unfold f_MaskEdgesModel_error
    rw [e2, Option.bind_some]
theorem op_moved {x : xSt} {y : ySt} (h : rel x y) (a : Int32) : ∃ v, f_MaskEdges_moved x a = some v ∧ f_MaskEdgesModel_moved y a = some v := by
  obtain ⟨c, nk, n, nb, nw, h⟩ := h
  obtain ⟨hn, hn2, hQ⟩ := h.2.2.1
  unfold f_MaskEdges_moved f_MaskEdgesModel_moved
  rw [v_xPiece hn hn2, Option.bind_some, b2_iff, v_yPiece hQ.1 hn2, Option.bind_some, b2_iff]
  by_cases g : 0 ≤ a.toInt ∧ a.toInt ≤ (n : Int) - 1
  · rw [if_pos g, if_pos g]
    obtain ⟨k, hk, rfl⟩ := isP g
    rw [if_pos (in120 hk hn2), if_pos (in120 hk hn2), cl120 hk hn2, (hQ.2 k hk).2.1.2.2.2.2.2.2.2]
    exact ⟨_, rfl, rfl⟩
  · rw [if_neg g, if_neg g]
    exact ⟨_, rfl, rfl⟩
theorem op_worst {x : xSt} {y : ySt} (h : rel x y) (a : Int32) : ∃ v, f_MaskEdges_worst x a = some v ∧ f_MaskEdgesModel_worst y a = some v := by
  obtain ⟨c, nk, n, nb, nw, h⟩ := h
  obtain ⟨hn, hn2, hk, hw⟩ := h.2.2.2.2.2.1
  unfold f_MaskEdges_worst f_MaskEdgesModel_worst
  rw [v_isB a (show (0 : Int64).toInt = 0 from rfl) (show (Y_kept y).toInt64.toInt = (nw : Int) - 1 by rw [hk]; exact nm1 (by omega)), Option.bind_some, b2_iff, hn]
  by_cases g : 0 ≤ a.toInt ∧ a.toInt ≤ (nw : Int) - 1
  · obtain ⟨k, hk, rfl⟩ := isP g
    have gk : xin (nI k) 21 = true := xin_n (by omega) (by omega)
    have ck : (nI k).toNatClampNeg = k := nI_clamp (by omega)
    have ik : (nI k).toInt = k := i_n (by omega)
    rw [if_pos g, if_neg (by rw [i_lt, c0]; omega), if_neg (by rw [i_le, i_n (by omega)]; omega), if_pos gk, if_pos gk, ck, hw k hk]
    exact ⟨_, rfl, rfl⟩
  · rw [if_neg g]
    by_cases d : a < 0
    · rw [if_pos d]; exact ⟨_, rfl, rfl⟩
    · rw [if_neg d, if_pos (by rw [i_lt, c0] at d; rw [i_le, i_n (by omega)]; omega)]
      exact ⟨_, rfl, rfl⟩
theorem op_polygon {x : xSt} {y : ySt} (h : rel x y) : ∃ v x' y', f_MaskEdges_polygon x = some (v, x') ∧ f_MaskEdgesModel_polygon y = some (v, y') ∧ rel x' y' := by
  obtain ⟨c, nk, n, nb, nw, h⟩ := h
  have h0 := h
  obtain ⟨⟨⟨hc, ⟨hp, hc4, hO⟩, hT⟩, hC⟩, hE, ⟨hn, hn2, hQ⟩, hB, hM, hW, hz⟩ := h
  unfold f_MaskEdges_polygon f_MaskEdgesModel_polygon
  rw [hn, hQ.1, hc, hp]
  by_cases a : nI n ≤ 0
  · rw [if_pos a, if_pos a]
    by_cases b : nI c = 4
    · rw [if_pos b, if_neg (by rw [b]; decide)]
      exact ⟨_, _, _, rfl, rfl, c, nk, n, nb, nw, h0⟩
    · have c3 : c < 4 := by
        rcases Nat.lt_or_ge c 4 with q | q
        · exact q
        · exact absurd (by rw [show c = 4 from by omega]; rfl) b
      rw [if_neg b, if_pos (by rw [i_lt, i_n (by omega)]; show (c : Int) < 4; omega)]
      refine ⟨_, _, _, rfl, rfl, c + 1, nk, n, nb, nw, ⟨⟨?_, ⟨?_, by omega, hO⟩, fun a b ha hb => ?_⟩, fun p h1 h2 => hC p (by omega) h2⟩, hE, ⟨hn, hn2, hQ⟩, hB, hM, hW, hz⟩
      · exact nI_1 c
      · exact nI_1 c
      · show cs (X_target x) a b = tgt (X_outlines x) a b (c + 1)
        rw [hT a b ha hb]
        show _ = (tgt (X_outlines x) a b c || hld (X_outlines x c) a b)
        have hz : hld (X_outlines x c) a b = false := by
          unfold hld
          rw [hC c (Nat.le_refl _) (by omega)]
          rfl
        rw [hz, Bool.or_false]
  · rw [if_neg a, if_neg a]
    exact ⟨_, _, _, rfl, rfl, c, nk, n, nb, nw, h0⟩
