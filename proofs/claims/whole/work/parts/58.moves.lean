/-! Moves of pieces: shift. -/
def clI (v r : Int32) : Int32 := if r < v then r else if v < -r then -r else v
theorem v_xcl {v r : Int32} (h : 0 ≤ r.toInt) : f_MaskEdges_clamp v r = some (clI v r) := by
  obtain ⟨z, e, q⟩ := v_clamp (v := v) h
  have hr := i_b r
  have hn : (-r).toInt = -r.toInt := i_neg (by omega)
  rw [e]
  congr 1
  unfold clI
  rw [i_eq, q]
  by_cases a : r < v
  · rw [if_pos a, if_pos (i_lt.mp a)]
  · rw [if_neg a, if_neg (fun w => a (i_lt.mpr w))]
    by_cases b : v < -r
    · rw [if_pos b, if_pos (by rw [i_lt, hn] at b; exact b), hn]
    · rw [if_neg b, if_neg (by rw [i_lt, hn] at b; exact b)]
theorem v_ycl {v r : Int32} : f_MaskEdgesModel_clamp v r = some (clI v r) := by
  unfold f_MaskEdgesModel_clamp clI
  by_cases a : r < v
  · rw [if_pos a, if_neg (by rw [i_le]; rw [i_lt] at a; omega)]
  · rw [if_neg a, if_pos (by rw [i_le]; rw [i_lt] at a; omega)]
    by_cases b : v < -r
    · rw [if_pos b, if_neg (by rw [i_le]; rw [i_lt] at b; omega)]
    · rw [if_neg b, if_pos (by rw [i_le]; rw [i_lt] at b; omega)]
theorem clI_b {v r : Int32} (h : 0 ≤ r.toInt) : -r.toInt ≤ (clI v r).toInt ∧ (clI v r).toInt ≤ r.toInt := by
  have hr := i_b r
  have hn : (-r).toInt = -r.toInt := i_neg (by omega)
  unfold clI
  by_cases a : r < v
  · rw [if_pos a]; omega
  · rw [if_neg a]
    by_cases b : v < -r
    · rw [if_pos b, hn]; omega
    · rw [if_neg b]; rw [i_lt] at a; rw [i_lt, hn] at b; omega
theorem v_moveTo {p : t_Piece} {w r : Int32} (h : 0 ≤ r.toInt) : f_Piece_moveTo w r p = (if Piece_outward p = 0 then some (0, p) else some (b2 (decide (¬ clI w r = Piece_move p)), Piece_u_move p (clI w r))) := by
  unfold f_Piece_moveTo f_Piece_isFlat
  by_cases z : Piece_outward p = 0
  · rw [if_pos z, if_pos z]; rfl
  · rw [if_neg z, if_neg z, Option.bind_some, if_pos rfl, v_xcl h, Option.bind_some]
    show (if clI w r = Piece_move p then _ else _) = _
    by_cases e : clI w r = Piece_move p
    · rw [if_pos e, decide_eq_false (fun q => q e)]; rfl
    · rw [if_neg e, decide_eq_true e]; rfl
def mvP (Q : Nat → t_Piece) (mv : Nat → Int32) (j : Nat) : Nat → t_Piece := fun k => if k < j then Piece_u_move (Q k) (mv k) else Q k
def mvM (m mv : Nat → Int32) (j : Nat) : Nat → Int32 := fun k => if k < j then mv k else m k
theorem pum (p : t_Piece) : Piece_u_move p (Piece_move p) = p := rfl
theorem mvP_0 (Q : Nat → t_Piece) (mv : Nat → Int32) : mvP Q mv 0 = Q := by funext k; unfold mvP; rw [if_neg (by omega)]
theorem mvM_0 (m mv : Nat → Int32) : mvM m mv 0 = m := by funext k; unfold mvM; rw [if_neg (by omega)]
theorem mvP_at (Q : Nat → t_Piece) (mv : Nat → Int32) (j : Nat) : mvP Q mv j j = Q j := by unfold mvP; rw [if_neg (by omega)]
theorem mvM_at (m mv : Nat → Int32) (j : Nat) : mvM m mv j j = m j := by unfold mvM; rw [if_neg (by omega)]
theorem mvP_s (Q : Nat → t_Piece) (mv : Nat → Int32) (j : Nat) : va_up (mvP Q mv j) j (Piece_u_move (Q j) (mv j)) = mvP Q mv (j + 1) := by
  funext k
  unfold va_up mvP
  by_cases e : k = j
  · rw [if_pos e, if_pos (by omega), e]
  · rw [if_neg e]
    by_cases l : k < j
    · rw [if_pos l, if_pos (by omega)]
    · rw [if_neg l, if_neg (by omega)]
theorem mvM_s (m mv : Nat → Int32) (j : Nat) : upd (mvM m mv j) j (mv j) = mvM m mv (j + 1) := by
  funext k
  unfold upd mvM
  by_cases e : k = j
  · rw [if_pos e, if_pos (by omega), e]
  · rw [if_neg e]
    by_cases l : k < j
    · rw [if_pos l, if_pos (by omega)]
    · rw [if_neg l, if_neg (by omega)]
theorem mvP_k {Q : Nat → t_Piece} {mv : Nat → Int32} {j : Nat} (h : mv j = Piece_move (Q j)) : mvP Q mv j = mvP Q mv (j + 1) := by
  rw [← mvP_s, h, pum, ← mvP_at Q mv j, up_same]
theorem mvP_id {Q : Nat → t_Piece} {mv : Nat → Int32} {n : Nat} (h : ∀ k, k < n → mv k = Piece_move (Q k)) : mvP Q mv n = Q := by
  funext k
  unfold mvP
  by_cases l : k < n
  · rw [if_pos l, h k l, pum]
  · rw [if_neg l]
theorem rQ_mv {Q : Nat → t_Piece} {y : ySt} {n : Nat} (h : rQ Q y n) {mv : Nat → Int32} (hb : ∀ k, k < n → (-6 ≤ (mv k).toInt ∧ (mv k).toInt ≤ 6) ∧ ((Piece_outward (Q k)).toInt = 0 → (mv k).toInt = 0)) : rQ (mvP Q mv n) (Y_u_moves y (mvM (Y_moves y) mv n)) n := by
  refine ⟨h.1, fun k hk => ?_⟩
  obtain ⟨⟨⟨p1, p2, p3, p4, p5, p6⟩, i, f⟩, ⟨r1, r2, r3, r4, r5, r6, r7, r8⟩, s⟩ := h.2 k hk
  have e : ∀ j, j < n → mvP Q mv n j = Piece_u_move (Q j) (mv j) := fun j hj => by unfold mvP; rw [if_pos hj]
  have em : mvM (Y_moves y) mv n k = mv k := by unfold mvM; rw [if_pos hk]
  rw [e k hk]
  refine ⟨⟨⟨p1, p2, p3, p4, (hb k hk).1, (hb k hk).2⟩, i, f⟩, ⟨r1, r2, r3, r4, r5, r6, r7, em⟩, ?_⟩
  intro hf
  rw [e k hk] at hf
  obtain ⟨l, l1, l2, l3, l4, l5, l6⟩ := s hf
  refine ⟨l, l1, l2, ?_, fun j j1 j2 => ?_, ?_, ?_⟩
  · rw [e l l2]; exact l3
  · rw [e j (by omega)]; exact l4 j j1 j2
  · rw [e k hk, e l l2]; exact l5
  · rw [e k hk, e l l2]; exact l6
def relC (x : xSt) (y : ySt) (c nk n nb : Nat) : Prop := (rA x y c ∧ nCl (X_outlines x) c) ∧ (okE (X_exposure x) nk ∧ relE (X_exposure x) y nk) ∧ (X_pieceCount x = nI n ∧ n ≤ 120 ∧ rQ (X_pieces x) y n) ∧ (X_barCount x = nI nb ∧ nb ≤ 24 ∧ rB (X_bars x) (X_barCells x) y nb) ∧ rM x n ∧ zS (Y_sums y)
theorem rel_C {x : xSt} {y : ySt} {c nk n nb nw : Nat} (h : relN x y c nk n nb nw) : relC x y c nk n nb := by
  obtain ⟨hA, hE, hP, hB, hM, hW, hz⟩ := h
  exact ⟨hA, hE, hP, hB, hM, hz⟩
theorem C_rel {x : xSt} {y : ySt} {c nk n nb nw : Nat} (h : relC x y c nk n nb) (hW : X_worstCount x = nI nw ∧ nw ≤ 21 ∧ rW (X_worsts x) y nw) : relN x y c nk n nb nw := by
  obtain ⟨hA, hE, hP, hB, hM, hz⟩ := h
  exact ⟨hA, hE, hP, hB, hM, hW, hz⟩
/-- new moves, and the mask made anew -/
theorem C_moved {x : xSt} {y : ySt} {c nk n nb : Nat} (h : relC x y c nk n nb) {mv : Nat → Int32} (hb : ∀ k, k < n → (-6 ≤ (mv k).toInt ∧ (mv k).toInt ≤ 6) ∧ ((Piece_outward (X_pieces x k)).toInt = 0 → (mv k).toInt = 0)) (bf : Nat → Int32) : ∃ b m, f_MaskEdges_renewMask (X_u_pieces (X_u_movesBefore x bf) (mvP (X_pieces x) mv n)) = some (X_u_mask (X_u_box (X_u_pieces (X_u_movesBefore x bf) (mvP (X_pieces x) mv n)) b) m) ∧ relC (X_u_mask (X_u_box (X_u_pieces (X_u_movesBefore x bf) (mvP (X_pieces x) mv n)) b) m) (Y_u_moves y (mvM (Y_moves y) mv n)) c nk n nb := by
  obtain ⟨hA, hE, ⟨hn, hn2, hQ⟩, hB, hM, hz⟩ := h
  have hQ' := rQ_mv hQ hb
  obtain ⟨b, m, e, q⟩ := v_renewMask (st := X_u_pieces (X_u_movesBefore x bf) (mvP (X_pieces x) mv n)) (n := n) hn hn2 (fun k hk => (hQ'.2 k hk).1.1)
  exact ⟨b, m, e, hA, hE, ⟨hn, hn2, hQ'⟩, hB, q, hz⟩
def fitB (p : t_Piece) (r : Int32) : Bool := if r = 0 then true else if r = 1 then decide (¬ Piece_alongX p = 0) else if r = 2 then decide (Piece_alongX p = 0) else if r = 3 then decide (¬ (Piece_first p = 0 ∧ Piece_last p = 0)) else false
theorem v_fits {p : t_Piece} (h : okP p) (r : Int32) : f_Piece_fitsRule p r = some (b2 (fitB p r)) := by
  unfold f_Piece_fitsRule fitB
  by_cases r0 : r = 0
  · rw [if_pos r0, if_pos r0]; rfl
  · rw [if_neg r0, if_neg r0]
    by_cases r1 : r = 1
    · rw [if_pos r1, if_pos r1]
      rcases h.1 with q | q <;> rw [q] <;> rfl
    · rw [if_neg r1, if_neg r1]
      by_cases r2 : r = 2
      · rw [if_pos r2, if_pos r2]
        by_cases q : Piece_alongX p = 0
        · rw [if_pos q, decide_eq_true q]; rfl
        · rw [if_neg q, decide_eq_false q]; rfl
      · rw [if_neg r2, if_neg r2]
        by_cases r3 : r = 3
        · rw [if_pos r3, if_pos r3]
          by_cases q : Piece_first p = 0
          · rw [if_pos q]
            by_cases q' : Piece_last p = 0
            · rw [if_pos q', decide_eq_false (fun w => w ⟨q, q'⟩)]; rfl
            · rw [if_neg q', decide_eq_true (show ¬ (Piece_first p = 0 ∧ Piece_last p = 0) from fun w => q' w.2)]; rfl
          · rw [if_neg q, decide_eq_true (show ¬ (Piece_first p = 0 ∧ Piece_last p = 0) from fun w => q w.1)]; rfl
        · rw [if_neg r3, if_neg r3]; rfl
/-- how many moves are new -/
def cntM (Q : Nat → t_Piece) (mv : Nat → Int32) : Nat → Nat
  | 0 => 0
  | j + 1 => cntM Q mv j + (if mv j = Piece_move (Q j) then 0 else 1)
def mvS (Q : Nat → t_Piece) (r v : Int32) (k : Nat) : Int32 := if fitB (Q k) r = true ∧ ¬ Piece_outward (Q k) = 0 then clI (Piece_move (Q k) + v) 6 else Piece_move (Q k)
theorem v_xshift {x : xSt} {n : Nat} (hn : X_pieceCount x = nI n) (hn2 : n ≤ 120) (hp : ∀ k, k < n → okP (X_pieces x k)) (r v : Int32) : (xloop (fun q => f_MaskEdges_shift_38 q f_MaskEdges_shift_91) (fun _ _ _ _ _ => none) 100000) r v (0 : Int32) (0 : Int32) x = f_MaskEdges_shift_91 (nI (cntM (X_pieces x) (mvS (X_pieces x) r v) n)) (X_u_pieces x (mvP (X_pieces x) (mvS (X_pieces x) r v) n)) := by
  have key := xgA (fun q => f_MaskEdges_shift_38 q f_MaskEdges_shift_91) (fun _ _ _ _ _ => none) (fun rr j (s : Int32 × xSt) => rr r v s.1 (nI j) s.2) n 0 (fun j => (nI (cntM (X_pieces x) (mvS (X_pieces x) r v) j), X_u_pieces x (mvP (X_pieces x) (mvS (X_pieces x) r v) j))) (f_MaskEdges_shift_91 (nI (cntM (X_pieces x) (mvS (X_pieces x) r v) n)) (X_u_pieces x (mvP (X_pieces x) (mvS (X_pieces x) r v) n))) ?_ ?_ 100000 0 (Nat.le_refl _) (Nat.zero_le _) (by omega)
  · dsimp only at key
    rw [mvP_0] at key
    exact key
  · intro rr
    dsimp only
    unfold f_MaskEdges_shift_38
    rw [if_pos (by show X_pieceCount x ≤ nI n; rw [hn]; exact Int32.le_refl _)]
  · intro rr j _ hj
    right
    dsimp only
    have gj := in120 hj hn2
    have cj := cl120 hj hn2
    have ej : X_pieces (X_u_pieces x (mvP (X_pieces x) (mvS (X_pieces x) r v) j)) j = X_pieces x j := mvP_at _ _ _
    unfold f_MaskEdges_shift_38 f_MaskEdges_shift_85
    rw [if_neg (by show ¬ X_pieceCount x ≤ nI j; rw [hn, i_le, i_n (by omega), i_n (by omega)]; omega), if_pos gj, cj, ej, v_fits (hp j hj), Option.bind_some, b2_if, v_moveTo (by decide), nI_1]
    have eu : ∀ q, X_u_pieces (X_u_pieces x (mvP (X_pieces x) (mvS (X_pieces x) r v) j)) q = X_u_pieces x q := fun q => rfl
    have exx : X_pieces (X_u_pieces x (mvP (X_pieces x) (mvS (X_pieces x) r v) j)) = mvP (X_pieces x) (mvS (X_pieces x) r v) j := rfl
    rw [exx]
    by_cases f : fitB (X_pieces x j) r = true
    · rw [if_pos f]
      by_cases z : Piece_outward (X_pieces x j) = 0
      · have em : mvS (X_pieces x) r v j = Piece_move (X_pieces x j) := by unfold mvS; rw [if_neg (fun q => q.2 z)]
        rw [if_pos z, Option.bind_some]
        dsimp only
        rw [if_pos rfl, eu]
        show rr r v (nI (cntM (X_pieces x) (mvS (X_pieces x) r v) j)) (nI (j + 1)) _ = rr r v (nI (cntM (X_pieces x) (mvS (X_pieces x) r v) j + (if mvS (X_pieces x) r v j = Piece_move (X_pieces x j) then 0 else 1))) (nI (j + 1)) _
        rw [if_pos em, ← mvP_k em]
        congr 2
        exact (congrArg (va_up (mvP (X_pieces x) (mvS (X_pieces x) r v) j) j) (mvP_at (X_pieces x) (mvS (X_pieces x) r v) j).symm).trans (up_same _ _)
      · have em : mvS (X_pieces x) r v j = clI (Piece_move (X_pieces x j) + v) 6 := by unfold mvS; rw [if_pos ⟨f, z⟩]
        rw [if_neg z, Option.bind_some]
        dsimp only
        rw [eu, ← em, mvP_s]
        show _ = rr r v (nI (cntM (X_pieces x) (mvS (X_pieces x) r v) j + (if mvS (X_pieces x) r v j = Piece_move (X_pieces x j) then 0 else 1))) (nI (j + 1)) _
        by_cases e : mvS (X_pieces x) r v j = Piece_move (X_pieces x j)
        · rw [if_pos e, decide_eq_false (fun q => q e), if_pos (show b2 false = 0 from rfl)]; rfl
        · rw [if_neg e, decide_eq_true e, if_neg (show ¬ b2 true = 0 by decide), nI_1]
    · have em : mvS (X_pieces x) r v j = Piece_move (X_pieces x j) := by unfold mvS; rw [if_neg (fun q => f q.1)]
      rw [if_neg f]
      show _ = rr r v (nI (cntM (X_pieces x) (mvS (X_pieces x) r v) j + (if mvS (X_pieces x) r v j = Piece_move (X_pieces x j) then 0 else 1))) (nI (j + 1)) _
      rw [if_pos em, ← mvP_k em]
      rfl
theorem v_yfits {y : ySt} {p : t_Piece} {k : Nat} (hk : k < 120) (h : relQ p y k) (rr : Int32 → Int32 → Int32 → Int32 → ySt → Option (Int32 × ySt)) (r v c : Int32) (hp : ¬ Y_pieces y ≤ nI k) : f_MaskEdgesModel_shift_44 rr r v c (nI k) y = f_MaskEdgesModel_shift_117 rr r v c (nI k) (b2 (fitB p r)) y := by
  have gk : xin (nI k) 120 = true := xin_n hk (by omega)
  have ck : (nI k).toNatClampNeg = k := nI_clamp (by omega)
  obtain ⟨r1, r2, r3, r4, r5, r6, -⟩ := h
  unfold f_MaskEdgesModel_shift_44 f_MaskEdgesModel_shift_72 f_MaskEdgesModel_shift_87 f_MaskEdgesModel_shift_112 f_MaskEdgesModel_shift_116 fitB
  simp only [gk, ck, if_true, r1, r5, r6]
  rw [if_neg hp]
  by_cases r0 : r = 0
  · rw [if_pos r0, if_pos r0]; rfl
  · rw [if_neg r0, if_neg r0]
    by_cases r1 : r = 1
    · subst r1
      rw [if_pos (show (1 : Int32) = 1 from rfl), if_pos (show (1 : Int32) = 1 from rfl), if_neg (show ¬ (1 : Int32) = 2 by decide), if_neg (show ¬ (1 : Int32) = 3 by decide)]
      by_cases q : Piece_alongX p = 0
      · rw [if_pos q, decide_eq_false (fun w => w q)]; rfl
      · rw [if_neg q, decide_eq_true q]; rfl
    · rw [if_neg r1, if_neg r1]
      by_cases r2 : r = 2
      · subst r2
        rw [if_pos (show (2 : Int32) = 2 from rfl), if_pos (show (2 : Int32) = 2 from rfl), if_neg (show ¬ (2 : Int32) = 3 by decide)]
        by_cases q : Piece_alongX p = 0
        · rw [if_pos q, decide_eq_true q]; rfl
        · rw [if_neg q, decide_eq_false q]; rfl
      · rw [if_neg r2, if_neg r2]
        by_cases r3 : r = 3
        · rw [if_pos r3, if_pos r3]
          by_cases q : Piece_first p = 0
          · rw [if_pos q]
            by_cases q' : Piece_last p = 0
            · rw [if_pos q', decide_eq_false (fun w => w ⟨q, q'⟩)]; rfl
            · rw [if_neg q', decide_eq_true (show ¬ (Piece_first p = 0 ∧ Piece_last p = 0) from fun w => q' w.2)]; rfl
          · rw [if_neg q, decide_eq_true (show ¬ (Piece_first p = 0 ∧ Piece_last p = 0) from fun w => q w.1)]; rfl
        · rw [if_neg r3, if_neg r3]; rfl
theorem v_yshift {Q : Nat → t_Piece} {y : ySt} {n : Nat} (hQ : rQ Q y n) (hn2 : n ≤ 120) (r v : Int32) : (xloop (fun q => f_MaskEdgesModel_shift_44 q) (fun _ _ _ _ _ => none) 100000) r v (0 : Int32) (0 : Int32) y = some (nI (cntM Q (mvS Q r v) n), Y_u_moves y (mvM (Y_moves y) (mvS Q r v) n)) := by
  have key := xgA (fun q => f_MaskEdgesModel_shift_44 q) (fun _ _ _ _ _ => none) (fun rr j (s : Int32 × ySt) => rr r v s.1 (nI j) s.2) n 0 (fun j => (nI (cntM Q (mvS Q r v) j), Y_u_moves y (mvM (Y_moves y) (mvS Q r v) j))) (some (nI (cntM Q (mvS Q r v) n), Y_u_moves y (mvM (Y_moves y) (mvS Q r v) n))) ?_ ?_ 100000 0 (Nat.le_refl _) (Nat.zero_le _) (by omega)
  · dsimp only at key
    rw [mvM_0] at key
    exact key
  · intro rr
    dsimp only
    unfold f_MaskEdgesModel_shift_44
    rw [if_pos (by show Y_pieces y ≤ nI n; rw [hQ.1]; exact Int32.le_refl _)]
  · intro rr j _ hj
    right
    dsimp only
    have gj := in120 hj hn2
    have cj := cl120 hj hn2
    obtain ⟨r1, r2, r3, r4, r5, r6, r7, r8⟩ := (hQ.2 j hj).2.1
    have ej : Y_moves (Y_u_moves y (mvM (Y_moves y) (mvS Q r v) j)) j = Piece_move (Q j) := (mvM_at _ _ _).trans r8
    have hr : relQ (Q j) (Y_u_moves y (mvM (Y_moves y) (mvS Q r v) j)) j := ⟨r1, r2, r3, r4, r5, r6, r7, ej⟩
    have eo : Y_out (Y_u_moves y (mvM (Y_moves y) (mvS Q r v) j)) j = Piece_outward (Q j) := r7
    rw [v_yfits (by omega) hr rr r v _ (by show ¬ Y_pieces y ≤ nI j; rw [hQ.1, i_le, i_n (by omega), i_n (by omega)]; omega)]
    have k158 : ∀ m : Int32, m = mvS Q r v j → f_MaskEdgesModel_shift_158 rr r v (nI (cntM Q (mvS Q r v) j)) (nI j) m (Y_u_moves y (mvM (Y_moves y) (mvS Q r v) j)) = rr r v (nI (cntM Q (mvS Q r v) (j + 1))) (nI (j + 1)) (Y_u_moves y (mvM (Y_moves y) (mvS Q r v) (j + 1))) := by
      intro m hm
      unfold f_MaskEdgesModel_shift_158 f_MaskEdgesModel_shift_179
      have eu : Y_u_moves (Y_u_moves y (mvM (Y_moves y) (mvS Q r v) j)) (upd (Y_moves (Y_u_moves y (mvM (Y_moves y) (mvS Q r v) j))) j m) = Y_u_moves y (mvM (Y_moves y) (mvS Q r v) (j + 1)) := by
        rw [hm]
        exact congrArg (Y_u_moves y) (mvM_s (Y_moves y) (mvS Q r v) j)
      rw [if_pos gj, if_pos gj, if_pos gj, cj, ej, eu, nI_1]
      show _ = rr r v (nI (cntM Q (mvS Q r v) j + (if mvS Q r v j = Piece_move (Q j) then 0 else 1))) (nI (j + 1)) _
      rw [← hm]
      by_cases e : m = Piece_move (Q j)
      · rw [if_pos e, if_pos e]; rfl
      · rw [if_neg e, if_neg e, nI_1]
    unfold f_MaskEdgesModel_shift_117 f_MaskEdgesModel_shift_151
    rw [if_pos gj, if_pos gj, if_pos gj, cj, ej, eo, v_ycl, Option.bind_some, b2_if]
    by_cases f : fitB (Q j) r = true
    · rw [if_pos f]
      by_cases z : Piece_outward (Q j) = 0
      · rw [if_pos z]
        exact k158 _ (by unfold mvS; rw [if_neg (fun q => q.2 z)])
      · rw [if_neg z]
        exact k158 _ (by unfold mvS; rw [if_pos ⟨f, z⟩])
    · rw [if_neg f]
      exact k158 _ (by unfold mvS; rw [if_neg (fun q => f q.1)])
theorem op_shift {x : xSt} {y : ySt} (h : rel x y) (a b : Int32) : ∃ v x' y', f_MaskEdges_shift a b x = some (v, x') ∧ f_MaskEdgesModel_shift a b y = some (v, y') ∧ rel x' y' := by
  obtain ⟨c, nk, n, nb, nw, h⟩ := h
  have h0 := h
  obtain ⟨hA, hE, ⟨hn, hn2, hQ⟩, hB, hM, hW, hz⟩ := h
  unfold f_MaskEdges_shift f_MaskEdgesModel_shift
  rw [v_wi a (show (0 : Int32).toInt = 0 from rfl) (show (3 : Int32).toInt = 3 from rfl), Option.bind_some, b2_iff, v_isB a (show (0 : Int64).toInt = 0 from rfl) (show (3 : Int64).toInt = 3 from rfl), Option.bind_some, b2_iff]
  by_cases g : 0 ≤ a.toInt ∧ a.toInt ≤ 3
  · rw [if_pos g, if_pos g, v_wi b (show (-6 : Int32).toInt = -6 from rfl) (show (6 : Int32).toInt = 6 from rfl), Option.bind_some, b2_iff, v_isB b (show (-6 : Int64).toInt = -6 from rfl) (show (6 : Int64).toInt = 6 from rfl), Option.bind_some, b2_iff]
    by_cases d : -6 ≤ b.toInt ∧ b.toInt ≤ 6
    · rw [if_pos d, if_pos d, hn, hQ.1]
      by_cases z : nI n = 0
      · rw [if_pos z, if_pos z]
        exact ⟨_, _, _, rfl, rfl, c, nk, n, nb, nw, h0⟩
      · rw [if_neg z, if_neg z, v_xshift hn hn2 (fun k hk => (hQ.2 k hk).1.1), v_yshift hQ hn2]
        have hb : ∀ k, k < n → (-6 ≤ (mvS (X_pieces x) a b k).toInt ∧ (mvS (X_pieces x) a b k).toInt ≤ 6) ∧ ((Piece_outward (X_pieces x k)).toInt = 0 → (mvS (X_pieces x) a b k).toInt = 0) := by
          intro k hk
          obtain ⟨p1, p2, p3, p4, p5, p6⟩ := (hQ.2 k hk).1.1
          unfold mvS
          by_cases q : fitB (X_pieces x k) a = true ∧ ¬ Piece_outward (X_pieces x k) = 0
          · rw [if_pos q]
            exact ⟨clI_b (r := 6) (by decide), fun w => absurd (by rw [i_eq, w]; rfl) q.2⟩
          · rw [if_neg q]
            exact ⟨p5, p6⟩
        obtain ⟨bb, m, e, r⟩ := C_moved (rel_C h0) hb (X_movesBefore x)
        unfold f_MaskEdges_shift_91
        have e' : f_MaskEdges_renewMask (X_u_pieces x (mvP (X_pieces x) (mvS (X_pieces x) a b) n)) = _ := e
        rw [e', Option.bind_some]
        exact ⟨_, _, _, rfl, rfl, c, nk, n, nb, nw, C_rel r hW⟩
    · rw [if_neg d, if_neg d]
      exact ⟨_, _, _, rfl, rfl, c, nk, n, nb, nw, h0⟩
  · rw [if_neg g, if_neg g]
    exact ⟨_, _, _, rfl, rfl, c, nk, n, nb, nw, h0⟩
