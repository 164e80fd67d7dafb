/-! helper. -/
def relH (x : xSt) (y : ySt) (c nk n nb : Nat) : Prop := (rA x y c ∧ nCl (X_outlines x) c) ∧ (okE (X_exposure x) nk ∧ relE (X_exposure x) y nk) ∧ (X_pieceCount x = nI n ∧ n ≤ 120 ∧ rQ (X_pieces x) y n) ∧ (X_barCount x = nI nb ∧ nb ≤ 24 ∧ rB (X_bars x) (X_barCells x) y nb) ∧ zS (Y_sums y)
def rWo (x : xSt) (y : ySt) : Prop := ∃ nw, X_worstCount x = nI nw ∧ nw ≤ 21 ∧ rW (X_worsts x) y nw
theorem copyB (a b : t_Box) : f_Box_copyFrom a b = some a := rfl
/-- may the bar of a box come? -/
def came (x : xSt) (c nb : Nat) (C : t_Box) : Bool := decide (nb < 24) && (onG C && nob (X_bars x) C nb && !pAny (fun a z => tgt (X_outlines x) a z c) (Box_left C).toInt.toNat (Box_right C).toInt.toNat ((Box_bottom C).toInt.toNat - (Box_top C).toInt.toNat) (Box_top C).toInt.toNat)
def xBar (x : xSt) (nb : Nat) (C : t_Box) (t : t_CellSet) : xSt := X_u_barCells (X_u_barCount (X_u_bars (X_u_box x C) (va_up (X_bars x) nb C)) (nI (nb + 1))) t
theorem v_placeBar {x : xSt} {y : ySt} {c nk n nb k : Nat} (h : relH x y c nk n nb) {sp wd : Int32} {C : t_Box} (hC : nrB C) (hl : f_Box_layBeside (X_pieces x k) ((Piece_sideLow (X_pieces x k)) + (1 : Int32)) ((Piece_sideHigh (X_pieces x k)) - (1 : Int32)) (Piece_outward (X_pieces x k)) sp wd (X_box x) = some C) : ∃ t, f_MaskEdges_placeBar k sp wd x = some (if came x c nb C = true then xBar x nb C t else X_u_box x C) ∧ ∀ a b, a < 48 → b < 48 → cs t a b = (cs (X_barCells x) a b || inb C a b) := by
  obtain ⟨⟨⟨hc, ⟨hpl, hc4, hO⟩, hT⟩, hC'⟩, hE, hP, ⟨hn, hn2, ⟨hY, hB, hcs⟩⟩, hz⟩ := h
  obtain ⟨t, et, qt⟩ := v_addBox C (X_barCells x)
  refine ⟨t, ?_, qt⟩
  unfold f_MaskEdges_placeBar
  rw [hl, Option.bind_some]
  have e1 : X_barCount (X_u_box x C) = nI nb := hn
  have e2 : X_box (X_u_box x C) = C := rfl
  have e3 : X_target (X_u_box x C) = X_target x := rfl
  have e4 : X_barCells (X_u_box x C) = X_barCells x := rfl
  have e5 : X_bars (X_u_box x C) = X_bars x := rfl
  rw [e1, e2, e3, e4, e5]
  by_cases b24 : (24 : Int32) ≤ nI nb
  · rw [if_pos b24]
    have : came x c nb C = false := by
      unfold came
      rw [decide_eq_false (by rw [i_le, i_n (by omega)] at b24; have e : (24 : Int32).toInt = 24 := rfl; omega)]
      rfl
    rw [this]
    rfl
  · rw [if_neg b24]
    have b24' : nb < 24 := by rw [i_le, i_n (by omega)] at b24; have e : (24 : Int32).toInt = 24 := rfl; omega
    rw [v_isOnGrid, Option.bind_some, b2_if]
    by_cases g : onG C = true
    · rw [if_pos g]
      have okc := nr_ok hC g
      obtain ⟨⟨o1, o2, o3⟩, ⟨o4, o5, o6⟩⟩ := okc
      obtain ⟨mT, em, qm⟩ := v_meets (X_target x) C
      obtain ⟨mB, em2, qm2⟩ := v_meets (X_barCells x) C
      have hmT : mT = pAny (fun a z => tgt (X_outlines x) a z c) (Box_left C).toInt.toNat (Box_right C).toInt.toNat ((Box_bottom C).toInt.toNat - (Box_top C).toInt.toNat) (Box_top C).toInt.toNat := by
        rw [Bool.eq_iff_iff, qm, pAny_iff (by omega)]
        constructor
        · rintro ⟨a, b, h1, h2, h3, h4⟩
          have := of_decide_eq_true h4
          rw [hT a b h1 h2] at h3
          exact ⟨a, b, by omega, by omega, by omega, by omega, h3⟩
        · rintro ⟨a, b, h1, h2, h3, h4, h5⟩
          refine ⟨a, b, by omega, by omega, ?_, decide_eq_true (by omega)⟩
          rw [hT a b (by omega) (by omega)]
          exact h5
      have hmB : mB = !nob (X_bars x) C nb := by
        rw [Bool.eq_iff_iff, qm2, Bool.not_eq_true', nob_iff]
        constructor
        · rintro ⟨a, b, h1, h2, h3, h4⟩
          rw [hcs a b h1 h2, anyB_iff] at h3
          obtain ⟨i, i1, i2⟩ := h3
          exact ⟨i, i1, (clr_iff (hB i i1).1 (nr_ok hC g)).mpr ⟨a, b, h1, h2, i2, h4⟩⟩
        · rintro ⟨i, i1, i2⟩
          obtain ⟨a, b, h1, h2, h3, h4⟩ := (clr_iff (hB i i1).1 (nr_ok hC g)).mp i2
          refine ⟨a, b, h1, h2, ?_, h4⟩
          rw [hcs a b h1 h2, anyB_iff]
          exact ⟨i, i1, h3⟩
      have gb : xin (nI nb) 24 = true := xin_n b24' (by omega)
      have cb : (nI nb).toNatClampNeg = nb := nI_clamp (by omega)
      rw [em, Option.bind_some, b2_if, em2, Option.bind_some, b2_if, if_pos gb, cb, copyB, Option.bind_some]
      have e6 : X_box (X_u_barCount (X_u_bars (X_u_box x C) (va_up (X_bars x) nb C)) ((X_barCount (X_u_bars (X_u_box x C) (va_up (X_bars x) nb C))) + (1 : Int32))) = C := rfl
      have e7 : X_barCells (X_u_barCount (X_u_bars (X_u_box x C) (va_up (X_bars x) nb C)) ((X_barCount (X_u_bars (X_u_box x C) (va_up (X_bars x) nb C))) + (1 : Int32))) = X_barCells x := rfl
      have e8 : X_barCount (X_u_bars (X_u_box x C) (va_up (X_bars x) nb C)) = nI nb := hn
      rw [e6, e7, et, Option.bind_some, e8, nI_1]
      unfold came xBar
      rw [decide_eq_true b24', g, ← hmT, hmB]
      cases mT <;> cases nob (X_bars x) C nb <;> rfl
    · rw [if_neg g]
      rw [Bool.not_eq_true] at g
      have : came x c nb C = false := by
        unfold came
        rw [g, Bool.false_and, Bool.false_and, Bool.and_false]
      rw [this]
      rfl
def yBar (y : ySt) (nb : Nat) (C : t_Box) : ySt := Y_u_bars (Y_u_barFarY (Y_u_barFarX (Y_u_barY (Y_u_barX y (upd (Y_barX y) nb (Box_left C))) (upd (Y_barY y) nb (Box_top C))) (upd (Y_barFarX y) nb (Box_right C - 1))) (upd (Y_barFarY y) nb (Box_bottom C - 1))) (nI (nb + 1))
theorem h1a (y : ySt) (a : Nat → Int32) : Y_bars (Y_u_barX y a) = Y_bars y := rfl
theorem h1b (y : ySt) (a : Nat → Int32) : Y_bars (Y_u_barY y a) = Y_bars y := rfl
theorem h1c (y : ySt) (a : Nat → Int32) : Y_bars (Y_u_barFarX y a) = Y_bars y := rfl
theorem h1d (y : ySt) (a : Nat → Int32) : Y_bars (Y_u_barFarY y a) = Y_bars y := rfl
theorem h2a (y : ySt) (a : Nat → Int32) : Y_barY (Y_u_barX y a) = Y_barY y := rfl
theorem h3a (y : ySt) (a : Nat → Int32) : Y_barFarX (Y_u_barX y a) = Y_barFarX y := rfl
theorem h3b (y : ySt) (a : Nat → Int32) : Y_barFarX (Y_u_barY y a) = Y_barFarX y := rfl
theorem h4a (y : ySt) (a : Nat → Int32) : Y_barFarY (Y_u_barX y a) = Y_barFarY y := rfl
theorem h4b (y : ySt) (a : Nat → Int32) : Y_barFarY (Y_u_barY y a) = Y_barFarY y := rfl
theorem h4c (y : ySt) (a : Nat → Int32) : Y_barFarY (Y_u_barFarX y a) = Y_barFarY y := rfl
theorem v_235 {y : ySt} {nb : Nat} (hb : Y_bars y = nI nb) (h24 : nb < 24) {C : t_Box} {f : Bool} (hf : f_MaskEdgesModel_isFree y (Box_left C) (Box_top C) (Box_right C - 1) (Box_bottom C - 1) = some (b2 f)) : f_MaskEdgesModel_hasCome_235 (Box_left C) (Box_top C) (Box_right C - 1) (Box_bottom C - 1) y = some (b2 f, if f = true then yBar y nb C else y) := by
  have gb : xin (nI nb) 24 = true := xin_n h24 (by omega)
  have cb : (nI nb).toNatClampNeg = nb := nI_clamp (by omega)
  unfold f_MaskEdgesModel_hasCome_235
  rw [hf, Option.bind_some, b2_if]
  cases f with
  | false => rfl
  | true =>
    rw [if_pos rfl, if_pos rfl]
    simp only [h1a, h1b, h1c, h1d, h2a, h3a, h3b, h4a, h4b, h4c, hb, gb, cb, if_true, nI_1]
    rfl
theorem v_side {Q : Nat → t_Piece} {y : ySt} {n k : Nat} (hQ : rQ Q y n) (hn2 : n ≤ 120) (hk : k < n) (hf1 : Piece_first (Q k) = 1) (sp wd : Int32) : f_MaskEdgesModel_hasCome (nI k) sp wd y = f_MaskEdgesModel_hasCome_85 (nI k) sp wd (Piece_sideLow (Q k)) (Piece_sideHigh (Q k)) y := by
  obtain ⟨l, l1, l2, l3, l4, l5, l6⟩ := (hQ.2 k hk).2.2 hf1
  have gk := in120 hk hn2
  have ck := cl120 hk hn2
  have gl := in120 l2 hn2
  have ckl := cl120 l2 hn2
  obtain ⟨r1, r2, r3, r4, r5, r6, r7, r8⟩ := (hQ.2 k hk).2.1
  obtain ⟨s1, s2, s3, s4, s5, s6, s7, s8⟩ := (hQ.2 l l2).2.1
  have k19 : f_MaskEdgesModel_hasCome_19 (nI k) sp wd (nI l) y = f_MaskEdgesModel_hasCome_85 (nI k) sp wd (Piece_sideLow (Q k)) (Piece_sideHigh (Q k)) y := by
    unfold f_MaskEdgesModel_hasCome_19 f_MaskEdgesModel_hasCome_51
    simp only [gk, gl, ck, ckl, if_true, r3, r4, s3, s4]
    rw [l5, l6]
    by_cases a : Piece_low (Q l) ≤ Piece_low (Q k)
    · rw [if_pos a, if_pos a]
      by_cases b : Piece_high (Q k) ≤ Piece_high (Q l)
      · rw [if_pos b, if_pos b]
      · rw [if_neg b, if_neg b]
    · rw [if_neg a, if_neg a]
      by_cases b : Piece_high (Q k) ≤ Piece_high (Q l)
      · rw [if_pos b, if_pos b]
      · rw [if_neg b, if_neg b]
  rw [← k19]
  unfold f_MaskEdgesModel_hasCome
  refine xgA (fun r => f_MaskEdgesModel_hasCome_3 r f_MaskEdgesModel_hasCome_19) (fun _ _ _ _ _ => none) (fun rr j (s : ySt) => rr (nI k) sp wd (nI j) s) l k (fun _ => y) (f_MaskEdgesModel_hasCome_19 (nI k) sp wd (nI l) y) ?_ ?_ 100000 k (Nat.le_refl _) l1 (by omega)
  · intro rr
    try dsimp only
    unfold f_MaskEdgesModel_hasCome_3
    rw [if_pos gl, ckl, s6, l3, if_neg (show ¬ (1 : Int32) = 0 by decide)]
  · intro rr j j1 j2
    right
    try dsimp only
    have gj := in120 (show j < n by omega) hn2
    have cj := cl120 (show j < n by omega) hn2
    have e6 : Y_isLast y j = Piece_last (Q j) := (hQ.2 j (by omega)).2.1.2.2.2.2.2.1
    unfold f_MaskEdgesModel_hasCome_3
    rw [if_pos gj, cj, e6, l4 j j1 j2, if_pos (show (0 : Int32) = 0 from rfl), nI_1]
theorem v_hasCome {x : xSt} {y : ySt} {c nk n nb k : Nat} (h : relH x y c nk n nb) (hk : k < n) (hf1 : Piece_first (X_pieces x k) = 1) {sp wd : Int32} {C : t_Box} (hC : nrB C) (h6 : ¬ ((Piece_sideHigh (X_pieces x k)) - (Piece_sideLow (X_pieces x k))) < (6 : Int32)) (ho : ¬ Piece_outward (X_pieces x k) = 0) {low : Int32} (hlow : low = if Piece_outward (X_pieces x k) ≤ 0 then Piece_line (X_pieces x k) - sp - wd else Piece_line (X_pieces x k) + sp) (cl : Box_left C = if Piece_alongX (X_pieces x k) = 0 then low else Piece_sideLow (X_pieces x k) + 1) (ct : Box_top C = if Piece_alongX (X_pieces x k) = 0 then Piece_sideLow (X_pieces x k) + 1 else low) (cr : Box_right C - 1 = if Piece_alongX (X_pieces x k) = 0 then low + wd - 1 else Piece_sideHigh (X_pieces x k) - 2) (cb : Box_bottom C - 1 = if Piece_alongX (X_pieces x k) = 0 then Piece_sideHigh (X_pieces x k) - 2 else low + wd - 1) : f_MaskEdgesModel_hasCome (nI k) sp wd y = some (b2 (came x c nb C), if came x c nb C = true then yBar y nb C else y) := by
  obtain ⟨hA, hE, ⟨hn, hn2, hQ⟩, ⟨hnb, hb2, ⟨hY, hB, hcs⟩⟩, hz⟩ := h
  have gk := in120 hk hn2
  have ck := cl120 hk hn2
  obtain ⟨r1, r2, r3, r4, r5, r6, r7, r8⟩ := (hQ.2 k hk).2.1
  rw [v_side hQ hn2 hk hf1]
  unfold f_MaskEdgesModel_hasCome_85
  rw [if_neg h6, if_pos gk, ck, r7, if_neg ho, hY]
  by_cases b24 : nI nb = 24
  · have : came x c nb C = false := by
      unfold came
      rw [decide_eq_false (by rw [i_eq, i_n (by omega)] at b24; have e : (24 : Int32).toInt = 24 := rfl; omega)]
      rfl
    rw [if_pos b24, this]
    rfl
  · have b24' : nb < 24 := by
      rcases Nat.lt_or_ge nb 24 with q | q
      · exact q
      · exact absurd (by rw [show nb = 24 from by omega]; rfl) b24
    rw [if_neg b24, if_pos gk, if_pos gk, if_pos gk, r2]
    have ec : came x c nb C = (onG C && nob (X_bars x) C nb && !pAny (fun a z => tgt (X_outlines x) a z c) (Box_left C).toInt.toNat (Box_right C).toInt.toNat ((Box_bottom C).toInt.toNat - (Box_top C).toInt.toNat) (Box_top C).toInt.toNat) := by
      unfold came
      rw [decide_eq_true b24', Bool.true_and]
    have v5 := v_235 hY b24' (v_isFree hA.1.2.1 hb2 hY hB hC)
    rw [← ec] at v5
    have k147 : f_MaskEdgesModel_hasCome_147 (nI k) wd (Piece_sideLow (X_pieces x k)) (Piece_sideHigh (X_pieces x k)) low y = some (b2 (came x c nb C), if came x c nb C = true then yBar y nb C else y) := by
      rw [← v5]
      unfold f_MaskEdgesModel_hasCome_147 f_MaskEdgesModel_hasCome_167 f_MaskEdgesModel_hasCome_187 f_MaskEdgesModel_hasCome_211
      simp only [gk, ck, if_true, r1]
      rw [cl, ct, cr, cb]
      by_cases q : Piece_alongX (X_pieces x k) = 0
      · simp only [if_pos q]
      · simp only [if_neg q]
    by_cases q : Piece_outward (X_pieces x k) ≤ 0
    · rw [if_pos q] at hlow ⊢
      rw [← hlow]
      exact k147
    · rw [if_neg q] at hlow ⊢
      rw [← hlow]
      exact k147
theorem v_hasNot {Q : Nat → t_Piece} {y : ySt} {n k : Nat} (hQ : rQ Q y n) (hn2 : n ≤ 120) (hk : k < n) (hf1 : Piece_first (Q k) = 1) (sp wd : Int32) (h6 : ((Piece_sideHigh (Q k)) - (Piece_sideLow (Q k))) < (6 : Int32) ∨ Piece_outward (Q k) = 0) : f_MaskEdgesModel_hasCome (nI k) sp wd y = some (0, y) := by
  rw [v_side hQ hn2 hk hf1]
  unfold f_MaskEdgesModel_hasCome_85
  by_cases a : ((Piece_sideHigh (Q k)) - (Piece_sideLow (Q k))) < (6 : Int32)
  · rw [if_pos a]
  · rw [if_neg a, if_pos (in120 hk hn2), cl120 hk hn2, (hQ.2 k hk).2.1.2.2.2.2.2.2.1]
    rcases h6 with q | q
    · exact absurd q a
    · rw [if_pos q]
