/-! run. -/
theorem ybb (y : ySt) (a b : Nat → Int32) : Y_u_before (Y_u_before y a) b = Y_u_before y b := rfl
theorem ybg (y : ySt) (a : Nat → Int32) : Y_before (Y_u_before y a) = a := rfl
theorem ybm (y : ySt) (a : Nat → Int32) : Y_moves (Y_u_before y a) = Y_moves y := rfl
theorem ybp (y : ySt) (a : Nat → Int32) : Y_pieces (Y_u_before y a) = Y_pieces y := rfl
theorem ybo (y : ySt) (a : Nat → Int32) : Y_out (Y_u_before y a) = Y_out y := rfl
theorem yvv (y : ySt) (a b : Nat → Int32) : Y_u_moves (Y_u_moves y a) b = Y_u_moves y b := rfl
theorem yvg (y : ySt) (a : Nat → Int32) : Y_moves (Y_u_moves y a) = a := rfl
theorem yvb (y : ySt) (a : Nat → Int32) : Y_before (Y_u_moves y a) = Y_before y := rfl
theorem yvp (y : ySt) (a : Nat → Int32) : Y_pieces (Y_u_moves y a) = Y_pieces y := rfl
theorem yvo (y : ySt) (a : Nat → Int32) : Y_out (Y_u_moves y a) = Y_out y := rfl
theorem yve (y : ySt) : Y_u_moves y (Y_moves y) = y := rfl
theorem ybe (y : ySt) : Y_u_before y (Y_before y) = y := rfl
theorem ybve (y : ySt) (a : Nat → Int32) : Y_u_moves (Y_u_before y a) (Y_moves y) = Y_u_before y a := rfl
def absI (e : Int32) : Int32 := if 0 ≤ e then e else -e
def wst (E : Nat → Int32) : Nat → Int32
  | 0 => 0
  | k + 1 => if wst E k < absI (E k) then absI (E k) else wst E k
theorem v_xworst {x : xSt} {n : Nat} (hn : X_pieceCount x = nI n) (hn2 : n ≤ 120) {E : Nat → Int32} (he : ∀ k, k < n → f_MaskEdges_errorOf x k 100 = some (E k)) : f_MaskEdges_worstError x = some (wst E n) := by
  unfold f_MaskEdges_worstError
  refine xgA (fun q => f_MaskEdges_worstError_4 x q) (fun _ _ => none) (fun rr j (s : Int32) => rr s (nI j)) n 0 (fun j => wst E j) (some (wst E n)) ?_ ?_ 100000 0 (Nat.le_refl _) (Nat.zero_le _) (by omega)
  · intro rr
    try dsimp only
    unfold f_MaskEdges_worstError_4
    rw [if_pos (by rw [hn]; exact Int32.le_refl _)]
  · intro rr j _ hj
    right
    try dsimp only
    unfold f_MaskEdges_worstError_4
    rw [if_neg (by rw [hn, i_le, i_n (by omega), i_n (by omega)]; omega), if_pos (in120 hj hn2), cl120 hj hn2, he j hj, Option.bind_some, nI_1, Int32.zero_sub]
    rfl
theorem v_yworst {y : ySt} {n : Nat} (hn : Y_pieces y = nI n) (hn2 : n ≤ 120) {E : Nat → Int32} (he : ∀ k, k < n → f_MaskEdgesModel_errorAt y (nI k) 100 = some (E k)) : f_MaskEdgesModel_worstNow y = some (wst E n) := by
  unfold f_MaskEdgesModel_worstNow
  refine xgA (fun q => f_MaskEdgesModel_worstNow_4 y q) (fun _ _ => none) (fun rr j (s : Int32) => rr s (nI j)) n 0 (fun j => wst E j) (some (wst E n)) ?_ ?_ 100000 0 (Nat.le_refl _) (Nat.zero_le _) (by omega)
  · intro rr
    try dsimp only
    unfold f_MaskEdgesModel_worstNow_4
    rw [if_pos (by rw [hn]; exact Int32.le_refl _)]
  · intro rr j _ hj
    right
    try dsimp only
    unfold f_MaskEdgesModel_worstNow_4 f_MaskEdgesModel_worstNow_30 f_MaskEdgesModel_worstNow_41
    rw [if_neg (by rw [hn, i_le, i_n (by omega), i_n (by omega)]; omega), he j hj, Option.bind_some, nI_1]
    show _ = rr (if wst E j < absI (E j) then absI (E j) else wst E j) (nI (j + 1))
    have k : ∀ a : Int32, (if a ≤ wst E j then rr (wst E j) (nI (j + 1)) else rr a (nI (j + 1))) = rr (if wst E j < a then a else wst E j) (nI (j + 1)) := by
      intro a
      by_cases q : a ≤ wst E j
      · rw [if_pos q, if_neg (by rw [i_lt]; rw [i_le] at q; omega)]
      · rw [if_neg q, if_pos (by rw [i_lt]; rw [i_le] at q; omega)]
    rw [k, k]
    unfold absI
    by_cases q : 0 ≤ E j
    · rw [if_pos q, if_pos q]
    · rw [if_neg q, if_neg q]
def chg (Q : Nat → t_Piece) (mv : Nat → Int32) : Nat → Bool
  | 0 => false
  | j + 1 => chg Q mv j || decide (¬ mv j = Piece_move (Q j))
theorem chg_f {Q : Nat → t_Piece} {mv : Nat → Int32} : ∀ n, chg Q mv n = false → ∀ k, k < n → mv k = Piece_move (Q k) := by
  intro n
  induction n with
  | zero => intro _ k hk; omega
  | succ n ih =>
    intro h k hk
    have h' : (chg Q mv n || decide (¬ mv n = Piece_move (Q n))) = false := h
    rw [Bool.or_eq_false_iff] at h'
    rcases Nat.lt_or_ge k n with q | q
    · exact ih h'.1 k q
    · rw [show k = n from by omega]
      exact Decidable.not_not.mp (of_decide_eq_false h'.2)
def mvE (Q : Nat → t_Piece) (E : Nat → Int32) (st li : Int32) (k : Nat) : Int32 := if Piece_outward (Q k) = 0 then Piece_move (Q k) else clI (Piece_move (Q k) - clI (E k) st) li
def bfF (x : xSt) (j : Nat) : Nat → Int32 := mvM (X_movesBefore x) (fun k => Piece_move (X_pieces x k)) j
theorem v_xmove {x : xSt} {n : Nat} (hn : X_pieceCount x = nI n) (hn2 : n ≤ 120) {E : Nat → Int32} {st li : Int32} (hs : 0 ≤ st.toInt) (hl : 0 ≤ li.toInt) (he : ∀ k s, k < n → X_exposure s = X_exposure x → X_mask s = X_mask x → X_pieces s k = X_pieces x k → f_MaskEdges_errorOf s k 100 = some (E k)) : f_MaskEdges_moveAgainstErrors st li x = some (b2 (chg (X_pieces x) (mvE (X_pieces x) E st li) n), X_u_pieces (X_u_movesBefore x (bfF x n)) (mvP (X_pieces x) (mvE (X_pieces x) E st li) n)) := by
  unfold f_MaskEdges_moveAgainstErrors
  generalize hmv : mvE (X_pieces x) E st li = mv
  have key := xgA (fun q => f_MaskEdges_moveAgainstErrors_5 q) (fun _ _ _ _ _ => none) (fun rr j (s : Int32 × xSt) => rr st li s.1 (nI j) s.2) n 0 (fun j => (b2 (chg (X_pieces x) mv j), X_u_pieces (X_u_movesBefore x (bfF x j)) (mvP (X_pieces x) mv j))) (some (b2 (chg (X_pieces x) mv n), X_u_pieces (X_u_movesBefore x (bfF x n)) (mvP (X_pieces x) mv n))) ?_ ?_ 100000 0 (Nat.le_refl _) (Nat.zero_le _) (by omega)
  · try dsimp only at key
    rw [mvP_0, show bfF x 0 = X_movesBefore x from mvM_0 _ _] at key
    exact key
  · intro rr
    try dsimp only
    unfold f_MaskEdges_moveAgainstErrors_5
    rw [if_pos (by show X_pieceCount x ≤ nI n; rw [hn]; exact Int32.le_refl _), if_pos (b2_z _)]
  · intro rr j _ hj
    right
    try dsimp only
    have gj := in120 hj hn2
    have cj := cl120 hj hn2
    have ej : X_pieces (X_u_pieces (X_u_movesBefore x (bfF x j)) (mvP (X_pieces x) mv j)) j = X_pieces x j := mvP_at _ _ _
    have es : X_u_movesBefore (X_u_pieces (X_u_movesBefore x (bfF x j)) (mvP (X_pieces x) mv j)) (upd (X_movesBefore (X_u_pieces (X_u_movesBefore x (bfF x j)) (mvP (X_pieces x) mv j))) j (Piece_move (X_pieces x j))) = X_u_pieces (X_u_movesBefore x (bfF x (j + 1))) (mvP (X_pieces x) mv j) := by
      show X_u_pieces (X_u_movesBefore x (upd (bfF x j) j (Piece_move (X_pieces x j)))) (mvP (X_pieces x) mv j) = _
      rw [show upd (bfF x j) j (Piece_move (X_pieces x j)) = bfF x (j + 1) from mvM_s _ (fun k => Piece_move (X_pieces x k)) j]
    have ej' : X_pieces (X_u_pieces (X_u_movesBefore x (bfF x (j + 1))) (mvP (X_pieces x) mv j)) j = X_pieces x j := mvP_at _ _ _
    unfold f_MaskEdges_moveAgainstErrors_5 f_MaskEdges_moveAgainstErrors_68
    rw [if_neg (by show ¬ X_pieceCount x ≤ nI j; rw [hn, i_le, i_n (by omega), i_n (by omega)]; omega), if_pos gj, if_pos gj, cj, ej, es, ej', he j (X_u_pieces (X_u_movesBefore x (bfF x (j + 1))) (mvP (X_pieces x) mv j)) hj rfl rfl ej', Option.bind_some, v_xcl hs, Option.bind_some, v_moveTo hl, nI_1]
    have eu : ∀ q, X_u_pieces (X_u_pieces (X_u_movesBefore x (bfF x (j + 1))) (mvP (X_pieces x) mv j)) q = X_u_pieces (X_u_movesBefore x (bfF x (j + 1))) q := fun q => rfl
    have exx : X_pieces (X_u_pieces (X_u_movesBefore x (bfF x (j + 1))) (mvP (X_pieces x) mv j)) = mvP (X_pieces x) mv j := rfl
    rw [exx]
    show _ = rr st li (b2 (chg (X_pieces x) mv j || decide (¬ mv j = Piece_move (X_pieces x j)))) (nI (j + 1)) _
    by_cases z : Piece_outward (X_pieces x j) = 0
    · have em : mv j = Piece_move (X_pieces x j) := by rw [← hmv]; unfold mvE; rw [if_pos z]
      rw [if_pos z, Option.bind_some]
      dsimp only
      rw [if_pos rfl, eu, decide_eq_false (fun q => q em), Bool.or_false, ← mvP_k em]
      congr 2
      exact (congrArg (va_up (mvP (X_pieces x) mv j) j) (mvP_at (X_pieces x) mv j).symm).trans (up_same _ _)
    · have em : mv j = clI (Piece_move (X_pieces x j) - clI (E j) st) li := by rw [← hmv]; unfold mvE; rw [if_neg z]
      rw [if_neg z, Option.bind_some]
      dsimp only
      rw [eu, ← em, mvP_s]
      by_cases e : mv j = Piece_move (X_pieces x j)
      · rw [decide_eq_false (fun q => q e), Bool.or_false, if_pos (show b2 false = 0 from rfl)]
      · rw [decide_eq_true e, Bool.or_true, if_neg (show ¬ b2 true = 0 by decide)]
        rfl
def bfY (y : ySt) (j : Nat) : Nat → Int32 := mvM (Y_before y) (Y_moves y) j
theorem v_ymove {Q : Nat → t_Piece} {y : ySt} {n : Nat} (hQ : rQ Q y n) (hn2 : n ≤ 120) {E : Nat → Int32} {st li : Int32} (he : ∀ k s, k < n → (∃ b m, s = Y_u_moves (Y_u_before y b) m) → Y_moves s k = Y_moves y k → f_MaskEdgesModel_errorAt s (nI k) 100 = some (E k)) : f_MaskEdgesModel_moveAll st li y = some (b2 (chg Q (mvE Q E st li) n), Y_u_moves (Y_u_before y (bfY y n)) (mvM (Y_moves y) (mvE Q E st li) n)) := by
  generalize hmv : mvE Q E st li = mv
  have l2 : f_MaskEdgesModel_moveAll_34 st li 0 (Y_u_before y (bfY y n)) = some (b2 (chg Q mv n), Y_u_moves (Y_u_before y (bfY y n)) (mvM (Y_moves y) mv n)) := by
    unfold f_MaskEdgesModel_moveAll_34
    have key := xgA (fun q => f_MaskEdgesModel_moveAll_37 q) (fun _ _ _ _ _ => none) (fun rr j (s : Int32 × ySt) => rr st li s.1 (nI j) s.2) n 0 (fun j => (b2 (chg Q mv j), Y_u_moves (Y_u_before y (bfY y n)) (mvM (Y_moves y) mv j))) (some (b2 (chg Q mv n), Y_u_moves (Y_u_before y (bfY y n)) (mvM (Y_moves y) mv n))) ?_ ?_ 100000 0 (Nat.le_refl _) (Nat.zero_le _) (by omega)
    · try dsimp only at key
      rw [mvM_0, ybve] at key
      exact key
    · intro rr
      dsimp only
      unfold f_MaskEdgesModel_moveAll_37
      rw [if_pos (by rw [yvp, ybp, hQ.1]; exact Int32.le_refl _), if_pos (b2_z _)]
    · intro rr j _ hj
      right
      dsimp only
      have gj := in120 hj hn2
      have cj := cl120 hj hn2
      obtain ⟨r1, r2, r3, r4, r5, r6, r7, r8⟩ := (hQ.2 j hj).2.1
      have ej : Y_moves (Y_u_moves (Y_u_before y (bfY y n)) (mvM (Y_moves y) mv j)) j = Piece_move (Q j) := by rw [yvg, mvM_at]; exact r8
      have eb : Y_before (Y_u_moves (Y_u_before y (bfY y n)) (mvM (Y_moves y) mv j)) j = Piece_move (Q j) := by
        rw [yvb, ybg]
        unfold bfY mvM
        rw [if_pos hj]
        exact r8
      have eo : Y_out (Y_u_moves (Y_u_before y (bfY y n)) (mvM (Y_moves y) mv j)) j = Piece_outward (Q j) := by rw [yvo, ybo]; exact r7
      have eE := he j (Y_u_moves (Y_u_before y (bfY y n)) (mvM (Y_moves y) mv j)) hj ⟨_, _, rfl⟩ (by rw [yvg, mvM_at])
      have hpc : ¬ Y_pieces (Y_u_moves (Y_u_before y (bfY y n)) (mvM (Y_moves y) mv j)) ≤ nI j := by rw [yvp, ybp, hQ.1, i_le, i_n (by omega), i_n (by omega)]; omega
      have e1 : Y_moves (Y_u_moves (Y_u_before y (bfY y n)) (mvM (Y_moves y) mv (j + 1))) j = mv j := by
        rw [yvg]
        unfold mvM
        rw [if_pos (by omega)]
      have e2 : Y_before (Y_u_moves (Y_u_before y (bfY y n)) (mvM (Y_moves y) mv (j + 1))) j = Piece_move (Q j) := by rw [yvb] at eb ⊢; exact eb
      have eu : Y_u_moves (Y_u_moves (Y_u_before y (bfY y n)) (mvM (Y_moves y) mv j)) (upd (Y_moves (Y_u_moves (Y_u_before y (bfY y n)) (mvM (Y_moves y) mv j))) j (mv j)) = Y_u_moves (Y_u_before y (bfY y n)) (mvM (Y_moves y) mv (j + 1)) := by rw [yvv, yvg, mvM_s]
      generalize Y_u_moves (Y_u_before y (bfY y n)) (mvM (Y_moves y) mv j) = S at ej eb eo eE hpc eu
      generalize Y_u_moves (Y_u_before y (bfY y n)) (mvM (Y_moves y) mv (j + 1)) = S' at e1 e2 eu
      have k114 : f_MaskEdgesModel_moveAll_114 rr st li (b2 (chg Q mv j)) (nI j) (mv j) (nI j) S = rr st li (b2 (chg Q mv (j + 1))) (nI (j + 1)) S' := by
        unfold f_MaskEdgesModel_moveAll_114 f_MaskEdgesModel_moveAll_136 f_MaskEdgesModel_moveAll_141
        rw [cj, eu, e1, e2, nI_1, b2_if]
        simp only [gj, if_true]
        show _ = rr st li (b2 (chg Q mv j || decide (¬ mv j = Piece_move (Q j)))) (nI (j + 1)) _
        cases chg Q mv j with
        | true => rfl
        | false =>
          rw [if_neg (show ¬ false = true by decide), Bool.false_or]
          by_cases e : mv j = Piece_move (Q j)
          · rw [if_pos e, decide_eq_false (fun q => q e)]; rfl
          · rw [if_neg e, decide_eq_true e]; rfl
      have k72 : ∀ s0 : Int32, f_MaskEdgesModel_moveAll_72 rr st li (b2 (chg Q mv j)) (nI j) s0 S = (if Piece_outward (Q j) = 0 then f_MaskEdgesModel_moveAll_114 rr st li (b2 (chg Q mv j)) (nI j) (Piece_move (Q j)) (nI j) S else f_MaskEdgesModel_moveAll_114 rr st li (b2 (chg Q mv j)) (nI j) (clI (Piece_move (Q j) - s0) li) (nI j) S) := by
        intro s0
        unfold f_MaskEdgesModel_moveAll_72
        rw [cj, eo, ej, eb, v_ycl, Option.bind_some]
        simp only [gj, if_true]
      unfold f_MaskEdgesModel_moveAll_37
      rw [if_neg hpc, cj, eo, eE, Option.bind_some, v_ycl, Option.bind_some, k72, k72, if_pos gj]
      by_cases z : Piece_outward (Q j) = 0
      · have em : mv j = Piece_move (Q j) := by rw [← hmv]; unfold mvE; rw [if_pos z]
        rw [if_pos z, if_pos z, ← em]
        exact k114
      · have em : mv j = clI (Piece_move (Q j) - clI (E j) st) li := by rw [← hmv]; unfold mvE; rw [if_neg z]
        rw [if_neg z, if_neg z, ← em]
        exact k114
  unfold f_MaskEdgesModel_moveAll
  have key := xgA (fun q => f_MaskEdgesModel_moveAll_5 q f_MaskEdgesModel_moveAll_34) (fun _ _ _ _ _ => none) (fun rr j (s : ySt) => rr st li 0 (nI j) s) n 0 (fun j => Y_u_before y (bfY y j)) (some (b2 (chg Q mv n), Y_u_moves (Y_u_before y (bfY y n)) (mvM (Y_moves y) mv n))) ?_ ?_ 100000 0 (Nat.le_refl _) (Nat.zero_le _) (by omega)
  · try dsimp only at key
    rw [show bfY y 0 = Y_before y from mvM_0 _ _, ybe] at key
    exact key
  · intro rr
    try dsimp only
    unfold f_MaskEdgesModel_moveAll_5
    rw [if_pos (by rw [ybp, hQ.1]; exact Int32.le_refl _)]
    exact l2
  · intro rr j _ hj
    right
    try dsimp only
    unfold f_MaskEdgesModel_moveAll_5
    rw [if_neg (by rw [ybp, hQ.1, i_le, i_n (by omega), i_n (by omega)]; omega), if_pos (in120 hj hn2), if_pos (in120 hj hn2), cl120 hj hn2, nI_1, ybb, ybg, ybm, show upd (bfY y j) j (Y_moves y j) = bfY y (j + 1) from mvM_s _ _ j]
theorem v_xback {x : xSt} {n : Nat} (hn : X_pieceCount x = nI n) (hn2 : n ≤ 120) : f_MaskEdges_takeMovesBack x = f_MaskEdges_takeMovesBack_31 (X_u_pieces x (mvP (X_pieces x) (X_movesBefore x) n)) := by
  unfold f_MaskEdges_takeMovesBack
  have key := xgA (fun q => f_MaskEdges_takeMovesBack_2 q f_MaskEdges_takeMovesBack_31) (fun _ _ => none) (fun rr j (s : xSt) => rr (nI j) s) n 0 (fun j => X_u_pieces x (mvP (X_pieces x) (X_movesBefore x) j)) (f_MaskEdges_takeMovesBack_31 (X_u_pieces x (mvP (X_pieces x) (X_movesBefore x) n))) ?_ ?_ 100000 0 (Nat.le_refl _) (Nat.zero_le _) (by omega)
  · try dsimp only at key
    rw [mvP_0] at key
    exact key
  · intro rr
    try dsimp only
    unfold f_MaskEdges_takeMovesBack_2
    rw [if_pos (by show X_pieceCount x ≤ nI n; rw [hn]; exact Int32.le_refl _)]
  · intro rr j _ hj
    right
    try dsimp only
    have ej : X_pieces (X_u_pieces x (mvP (X_pieces x) (X_movesBefore x) j)) j = X_pieces x j := mvP_at _ _ _
    unfold f_MaskEdges_takeMovesBack_2
    rw [if_neg (by show ¬ X_pieceCount x ≤ nI j; rw [hn, i_le, i_n (by omega), i_n (by omega)]; omega), if_pos (in120 hj hn2), if_pos (in120 hj hn2), cl120 hj hn2, nI_1, ej]
    show rr (nI (j + 1)) (X_u_pieces x (va_up (mvP (X_pieces x) (X_movesBefore x) j) j (Piece_u_move (X_pieces x j) (X_movesBefore x j)))) = _
    rw [mvP_s]
theorem v_yback {y : ySt} {n : Nat} (hn : Y_pieces y = nI n) (hn2 : n ≤ 120) : f_MaskEdgesModel_moveBack y = some (Y_u_moves y (mvM (Y_moves y) (Y_before y) n)) := by
  unfold f_MaskEdgesModel_moveBack
  have key := xgA (fun q => f_MaskEdgesModel_moveBack_2 q) (fun _ _ => none) (fun rr j (s : ySt) => rr (nI j) s) n 0 (fun j => Y_u_moves y (mvM (Y_moves y) (Y_before y) j)) (some (Y_u_moves y (mvM (Y_moves y) (Y_before y) n))) ?_ ?_ 100000 0 (Nat.le_refl _) (Nat.zero_le _) (by omega)
  · try dsimp only at key
    rw [mvM_0, yve] at key
    exact key
  · intro rr
    try dsimp only
    unfold f_MaskEdgesModel_moveBack_2
    rw [if_pos (by rw [yvp, hn]; exact Int32.le_refl _)]
  · intro rr j _ hj
    right
    try dsimp only
    unfold f_MaskEdgesModel_moveBack_2
    rw [if_neg (by rw [yvp, hn, i_le, i_n (by omega), i_n (by omega)]; omega), if_pos (in120 hj hn2), if_pos (in120 hj hn2), cl120 hj hn2, nI_1, yvv, yvg, yvb, mvM_s]
