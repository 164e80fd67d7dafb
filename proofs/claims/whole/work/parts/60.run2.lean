/-! run, the rounds. -/
theorem y_mg (y : ySt) (a m t : Nat → Int32) : Y_moves (Y_u_sums (Y_u_mask (Y_u_moves y a) m) t) = a := rfl
theorem y_bg (y : ySt) (a m t : Nat → Int32) : Y_before (Y_u_sums (Y_u_mask (Y_u_moves y a) m) t) = Y_before y := rfl
theorem y_kg (y : ySt) (a m t : Nat → Int32) : Y_kept (Y_u_sums (Y_u_mask (Y_u_moves y a) m) t) = Y_kept y := rfl
theorem y_wg (y : ySt) (a m t : Nat → Int32) : Y_worsts (Y_u_sums (Y_u_mask (Y_u_moves y a) m) t) = Y_worsts y := rfl
theorem y_kg2 (y : ySt) (m t : Nat → Int32) : Y_kept (Y_u_sums (Y_u_mask y m) t) = Y_kept y := rfl
theorem y_wg2 (y : ySt) (m t : Nat → Int32) : Y_worsts (Y_u_sums (Y_u_mask y m) t) = Y_worsts y := rfl
theorem y_kb (y : ySt) (a : Nat → Int32) : Y_kept (Y_u_before y a) = Y_kept y := rfl
theorem y_wb (y : ySt) (a : Nat → Int32) : Y_worsts (Y_u_before y a) = Y_worsts y := rfl
theorem y_sg2 (y : ySt) (m t : Nat → Int32) : Y_sums (Y_u_sums (Y_u_mask y m) t) = t := rfl
theorem C_bf {x : xSt} {y : ySt} {c nk n nb : Nat} (h : relC x y c nk n nb) (bf : Nat → Int32) : relC x (Y_u_before y bf) c nk n nb := by
  obtain ⟨hA, hE, hP, hB, hM, hz⟩ := h
  exact ⟨hA, hE, hP, hB, hM, hz⟩
theorem C_xb {x : xSt} {y : ySt} {c nk n nb : Nat} (h : relC x y c nk n nb) (bf : Nat → Int32) : relC (X_u_movesBefore x bf) y c nk n nb := by
  obtain ⟨hA, hE, hP, hB, hM, hz⟩ := h
  exact ⟨hA, hE, hP, hB, hM, hz⟩
theorem C_xw {x : xSt} {y : ySt} {c nk n nb : Nat} (h : relC x y c nk n nb) (w : Nat → Int32) : relC (X_u_worsts x w) y c nk n nb := by
  obtain ⟨hA, hE, hP, hB, hM, hz⟩ := h
  exact ⟨hA, hE, hP, hB, hM, hz⟩
theorem C_xc {x : xSt} {y : ySt} {c nk n nb : Nat} (h : relC x y c nk n nb) (w : Int32) : relC (X_u_worstCount x w) y c nk n nb := by
  obtain ⟨hA, hE, hP, hB, hM, hz⟩ := h
  exact ⟨hA, hE, hP, hB, hM, hz⟩
theorem C_yk {x : xSt} {y : ySt} {c nk n nb : Nat} (h : relC x y c nk n nb) (w : Int32) : relC x (Y_u_kept y w) c nk n nb := by
  obtain ⟨hA, hE, hP, hB, hM, hz⟩ := h
  exact ⟨hA, hE, hP, hB, hM, hz⟩
theorem C_yw {x : xSt} {y : ySt} {c nk n nb : Nat} (h : relC x y c nk n nb) (w : Nat → Int32) : relC x (Y_u_worsts y w) c nk n nb := by
  obtain ⟨hA, hE, hP, hB, hM, hz⟩ := h
  exact ⟨hA, hE, hP, hB, hM, hz⟩
theorem C_made {x : xSt} {y : ySt} {c nk n nb : Nat} (h : relC x y c nk n nb) (m : Nat → Int32) {t : Nat → Int32} (hz : zS t) : relC x (Y_u_sums (Y_u_mask y m) t) c nk n nb := by
  obtain ⟨hA, hE, hP, hB, hM, -⟩ := h
  exact ⟨hA, hE, hP, hB, hM, hz⟩
theorem v_makeC {x : xSt} {y : ySt} {c nk n nb : Nat} (h : relC x y c nk n nb) : ∃ m t, f_MaskEdgesModel_make y = some (Y_u_sums (Y_u_mask y m) t) ∧ gS t (cs (X_mask x)) := by
  obtain ⟨hA, -, ⟨-, hn2, hQ⟩, ⟨-, hb2, hB⟩, hM, hz⟩ := h
  obtain ⟨m, t, e, g1, g2⟩ := v_makeM hA.1 hn2 hQ hb2 hB hz
  exact ⟨m, t, e, gS_congr g2 (fun a b ha hb => (hM a b ha hb).symm)⟩
def EX (x : xSt) (nk k : Nat) : Int32 := erV (X_exposure x) nk (cs (X_mask x)) (X_pieces x k) (100 : Int32).toInt
theorem d100 : 1 ≤ (100 : Int32).toInt ∧ (100 : Int32).toInt ≤ 1000 := by decide
theorem C_worst {x : xSt} {y : ySt} {c nk n nb : Nat} (h : relC x y c nk n nb) (hS : gS (Y_sums y) (cs (X_mask x))) : f_MaskEdges_worstError x = some (wst (EX x nk) n) ∧ f_MaskEdgesModel_worstNow y = some (wst (EX x nk) n) := by
  obtain ⟨hA, ⟨hE, rE⟩, ⟨hn, hn2, hQ⟩, hB, hM, hz⟩ := h
  exact ⟨v_xworst hn hn2 (fun k hk => v_errorOf hE (hQ.2 k hk).1.1 (hQ.2 k hk).1.2.1 d100), v_yworst hQ.1 hn2 (fun k hk => v_errorAt hE rE hS (by omega) (hQ.2 k hk).2.1 d100)⟩
theorem C_moves {x : xSt} {y : ySt} {c nk n nb : Nat} (h : relC x y c nk n nb) (hS : gS (Y_sums y) (cs (X_mask x))) {st li : Int32} (hs : 0 ≤ st.toInt) (hl : 0 ≤ li.toInt) : f_MaskEdges_moveAgainstErrors st li x = some (b2 (chg (X_pieces x) (mvE (X_pieces x) (EX x nk) st li) n), X_u_pieces (X_u_movesBefore x (bfF x n)) (mvP (X_pieces x) (mvE (X_pieces x) (EX x nk) st li) n)) ∧ f_MaskEdgesModel_moveAll st li y = some (b2 (chg (X_pieces x) (mvE (X_pieces x) (EX x nk) st li) n), Y_u_moves (Y_u_before y (bfY y n)) (mvM (Y_moves y) (mvE (X_pieces x) (EX x nk) st li) n)) := by
  obtain ⟨hA, ⟨hE, rE⟩, ⟨hn, hn2, hQ⟩, hB, hM, hz⟩ := h
  refine ⟨v_xmove hn hn2 hs hl (fun k s hk h1 h2 h3 => ?_), v_ymove hQ hn2 (fun k s hk h1 h2 => ?_)⟩
  · have := v_errorOf (st := s) (k := k) (nk := nk) (by rw [h1]; exact hE) (by rw [h3]; exact (hQ.2 k hk).1.1) (by rw [h3]; exact (hQ.2 k hk).1.2.1) d100
    rw [h1, h2, h3] at this
    exact this
  · obtain ⟨b, m, e⟩ := h1
    obtain ⟨r1, r2, r3, r4, r5, r6, r7, r8⟩ := (hQ.2 k hk).2.1
    have rE' : relE (X_exposure x) s nk := by rw [e]; exact rE
    have hS' : gS (Y_sums s) (cs (X_mask x)) := by rw [e]; exact hS
    have rQ' : relQ (X_pieces x k) s k := by
      refine ⟨?_, ?_, ?_, ?_, ?_, ?_, ?_, h2.trans r8⟩
      · rw [e]; exact r1
      · rw [e]; exact r2
      · rw [e]; exact r3
      · rw [e]; exact r4
      · rw [e]; exact r5
      · rw [e]; exact r6
      · rw [e]; exact r7
    exact v_errorAt hE rE' hS' (by omega) rQ' d100
theorem mvE_b {x : xSt} {y : ySt} {n : Nat} (hQ : rQ (X_pieces x) y n) {E : Nat → Int32} {st li : Int32} (hl : 1 ≤ li.toInt ∧ li.toInt ≤ 6) : ∀ k, k < n → (-6 ≤ (mvE (X_pieces x) E st li k).toInt ∧ (mvE (X_pieces x) E st li k).toInt ≤ 6) ∧ ((Piece_outward (X_pieces x k)).toInt = 0 → (mvE (X_pieces x) E st li k).toInt = 0) := by
  intro k hk
  obtain ⟨p1, p2, p3, p4, p5, p6⟩ := (hQ.2 k hk).1.1
  unfold mvE
  by_cases q : Piece_outward (X_pieces x k) = 0
  · rw [if_pos q]; exact ⟨p5, p6⟩
  · rw [if_neg q]
    have := clI_b (v := Piece_move (X_pieces x k) - clI (E k) st) (r := li) (by omega)
    exact ⟨by omega, fun w => absurd (by rw [i_eq, w]; rfl) q⟩
theorem mvP_back {x : xSt} {mv : Nat → Int32} {n : Nat} : mvP (mvP (X_pieces x) mv n) (bfF x n) n = X_pieces x := by
  funext k
  unfold mvP bfF mvM
  by_cases q : k < n
  · rw [if_pos q, if_pos q, if_pos q]; rfl
  · rw [if_neg q, if_neg q]
theorem mvM_back {y : ySt} {mv : Nat → Int32} {n : Nat} : mvM (mvM (Y_moves y) mv n) (bfY y n) n = Y_moves y := by
  funext k
  unfold bfY mvM
  by_cases q : k < n
  · rw [if_pos q, if_pos q]
  · rw [if_neg q, if_neg q]
def rnI (j : Nat) (x : xSt) (y : ySt) : Prop := Y_kept y = nI j ∧ ∀ k, k < j + 1 → X_worsts x k = Y_worsts y k
theorem run_end {x : xSt} {y : ySt} {c nk n nb j : Nat} (h : relC x y c nk n nb) (hj : j ≤ 20) (hr : rnI j x y) : rel (X_u_worstCount x (nI j + 1)) y := by
  refine ⟨c, nk, n, nb, j + 1, C_rel (C_xc h _) ⟨nI_1 j, by omega, ?_, hr.2⟩⟩
  rw [hr.1, n_sub (show 1 ≤ j + 1 by omega) 1 rfl]
  rfl
theorem mvP_backY {Q : Nat → t_Piece} {y : ySt} {mv : Nat → Int32} {n : Nat} (h : ∀ k, k < n → Y_moves y k = Piece_move (Q k)) : mvP (mvP Q mv n) (bfY y n) n = Q := by
  funext k
  unfold mvP bfY mvM
  by_cases q : k < n
  · rw [if_pos q, if_pos q, if_pos q, h k q]; rfl
  · rw [if_neg q, if_neg q]
theorem C_back {x : xSt} {y y2 : ySt} {c nk n nb : Nat} {bf a : Nat → Int32} {Q' : Nat → t_Piece} {bb : t_Box} {mm : t_CellSet} (h : relC x y c nk n nb) (h2 : relC (X_u_mask (X_u_box (X_u_pieces (X_u_movesBefore x bf) Q') bb) mm) y2 c nk n nb) (hq : rQ (X_pieces x) (Y_u_moves y2 a) n) : relC (X_u_movesBefore x bf) (Y_u_moves y2 a) c nk n nb := by
  obtain ⟨-, -, ⟨hn, hn2, -⟩, -, hM, -⟩ := h
  obtain ⟨hA, hE, -, hB, -, hz⟩ := h2
  exact ⟨hA, hE, ⟨hn, hn2, hq⟩, hB, hM, hz⟩
theorem C_back2 {x2 : xSt} {y2 : ySt} {c nk n nb : Nat} {a : Nat → Int32} {Q : Nat → t_Piece} (h2 : relC x2 y2 c nk n nb) (hq : rQ Q (Y_u_moves y2 a) n) : ∃ x3, f_MaskEdges_renewMask (X_u_pieces x2 Q) = some x3 ∧ relC x3 (Y_u_moves y2 a) c nk n nb ∧ X_worsts x3 = X_worsts x2 := by
  obtain ⟨hA, hE, ⟨hn, hn2, -⟩, hB, -, hz⟩ := h2
  obtain ⟨b, m, e, q⟩ := v_renewMask (st := X_u_pieces x2 Q) (n := n) hn hn2 (fun k hk => (hq.2 k hk).1.1)
  exact ⟨_, e, ⟨hA, hE, ⟨hn, hn2, hq⟩, hB, q, hz⟩, rfl⟩
theorem y_kv (y : ySt) (a : Nat → Int32) : Y_kept (Y_u_moves y a) = Y_kept y := rfl
theorem y_wv (y : ySt) (a : Nat → Int32) : Y_worsts (Y_u_moves y a) = Y_worsts y := rfl
theorem y_kk (y : ySt) (a : Int32) : Y_kept (Y_u_kept y a) = a := rfl
theorem y_wk (y : ySt) (a : Int32) : Y_worsts (Y_u_kept y a) = Y_worsts y := rfl
theorem y_sk (y : ySt) (a : Int32) : Y_sums (Y_u_kept y a) = Y_sums y := rfl
theorem y_kw (y : ySt) (a : Nat → Int32) : Y_kept (Y_u_worsts y a) = Y_kept y := rfl
theorem y_ww (y : ySt) (a : Nat → Int32) : Y_worsts (Y_u_worsts y a) = a := rfl
theorem y_sw (y : ySt) (a : Nat → Int32) : Y_sums (Y_u_worsts y a) = Y_sums y := rfl
theorem x_mw (x : xSt) (a : Nat → Int32) : X_mask (X_u_worsts x a) = X_mask x := rfl
theorem x_ww (x : xSt) (a : Nat → Int32) : X_worsts (X_u_worsts x a) = a := rfl
theorem x_wb (x : xSt) (a : Nat → Int32) : X_worsts (X_u_movesBefore x a) = X_worsts x := rfl
theorem x_pe (x : xSt) (a : Nat → Int32) : X_u_pieces (X_u_movesBefore x a) (X_pieces x) = X_u_movesBefore x a := rfl
theorem run_loop {rounds : Nat} (hr20 : rounds ≤ 20) {st li : Int32} (hs : 0 ≤ st.toInt) (hl : 1 ≤ li.toInt ∧ li.toInt ≤ 6) {c nk n nb : Nat} : ∀ (f j fu1 fu2 : Nat) (x : xSt) (y : ySt), f + j = rounds → f + 1 ≤ fu1 → f + 2 ≤ fu2 → relC x y c nk n nb → gS (Y_sums y) (cs (X_mask x)) → rnI j x y → ∃ v x' y', xloop (fun r => f_MaskEdges_run_77 r f_MaskEdges_run_147) (fun _ _ _ _ _ => none) fu1 (nI rounds) st li (nI j) x = some (v, x') ∧ xloop (fun r => f_MaskEdgesModel_run_89 r) (fun _ _ _ _ _ => none) fu2 (nI rounds) st li 1 y = some (v, y') ∧ rel x' y' := by
  intro f
  induction f with
  | zero =>
    intro j fu1 fu2 x y hj h1 h2 h hS hr
    obtain ⟨g1, rfl⟩ : ∃ g1, fu1 = g1 + 1 := ⟨fu1 - 1, by omega⟩
    obtain ⟨g2, rfl⟩ : ∃ g2, fu2 = g2 + 1 := ⟨fu2 - 1, by omega⟩
    refine ⟨nI j, X_u_worstCount x (nI j + 1), y, ?_, ?_, run_end h (by omega) hr⟩
    · show f_MaskEdges_run_77 _ f_MaskEdges_run_147 (nI rounds) st li (nI j) x = _
      unfold f_MaskEdges_run_77
      rw [if_pos (by rw [i_le, i_n (by omega), i_n (by omega)]; omega)]
      rfl
    · show f_MaskEdgesModel_run_89 _ (nI rounds) st li 1 y = _
      unfold f_MaskEdgesModel_run_89
      rw [if_neg (show ¬ (1 : Int32) = 0 by decide), hr.1, if_pos (by rw [i_le, i_n (by omega), i_n (by omega)]; omega)]
  | succ f ih =>
    intro j fu1 fu2 x y hj h1 h2 h hS hr
    obtain ⟨g1, rfl⟩ : ∃ g1, fu1 = g1 + 1 := ⟨fu1 - 1, by omega⟩
    obtain ⟨g2, rfl⟩ : ∃ g2, fu2 = g2 + 1 := ⟨fu2 - 1, by omega⟩
    have gj : xin (nI j) 21 = true := xin_n (by omega) (by omega)
    have cj : (nI j).toNatClampNeg = j := nI_clamp (by omega)
    have gj1 : xin (nI (j + 1)) 21 = true := xin_n (by omega) (by omega)
    have cj1 : (nI (j + 1)).toNatClampNeg = j + 1 := nI_clamp (by omega)
    have lt : ¬ nI rounds ≤ nI j := by rw [i_le, i_n (by omega), i_n (by omega)]; omega
    have wj : X_worsts x j = Y_worsts y j := hr.2 j (by omega)
    have more0 : ∀ s, xloop (fun r => f_MaskEdgesModel_run_89 r) (fun _ _ _ _ _ => none) g2 (nI rounds) st li 0 s = some (Y_kept s, s) := by
      intro s
      obtain ⟨g3, rfl⟩ : ∃ g3, g2 = g3 + 1 := ⟨g2 - 1, by omega⟩
      show f_MaskEdgesModel_run_89 _ (nI rounds) st li 0 s = _
      unfold f_MaskEdgesModel_run_89
      rw [if_pos rfl]
    have more1 := fun x' y' => ih (j + 1) g1 g2 x' y' (by omega) (by omega) (by omega)
    show ∃ v x' y', f_MaskEdges_run_77 (xloop (fun r => f_MaskEdges_run_77 r f_MaskEdges_run_147) (fun _ _ _ _ _ => none) g1) f_MaskEdges_run_147 (nI rounds) st li (nI j) x = some (v, x') ∧ f_MaskEdgesModel_run_89 (xloop (fun r => f_MaskEdgesModel_run_89 r) (fun _ _ _ _ _ => none) g2) (nI rounds) st li 1 y = some (v, y') ∧ rel x' y'
    generalize xloop (fun r => f_MaskEdges_run_77 r f_MaskEdges_run_147) (fun _ _ _ _ _ => none) g1 = r1 at more1
    generalize xloop (fun r => f_MaskEdgesModel_run_89 r) (fun _ _ _ _ _ => none) g2 = r2 at more0 more1
    unfold f_MaskEdges_run_77 f_MaskEdgesModel_run_89
    rw [if_neg lt, if_pos gj, cj, if_neg (show ¬ (1 : Int32) = 0 by decide), hr.1, if_neg lt, if_pos gj, cj, wj]
    by_cases w0 : Y_worsts y j ≤ 0
    · rw [if_pos w0, if_pos w0]
      exact ⟨_, _, _, rfl, rfl, run_end h (by omega) hr⟩
    · rw [if_neg w0, if_neg w0]
      obtain ⟨em1, em2⟩ := C_moves h hS hs (by omega : 0 ≤ li.toInt)
      have hQ := h.2.2.1.2.2
      have hn2 := h.2.2.1.2.1
      have hmb := mvE_b (x := x) hQ (E := EX x nk) (st := st) hl
      generalize mvE (X_pieces x) (EX x nk) st li = mv at em1 em2 hmb
      obtain ⟨bb, mm, er, h2r⟩ := C_moved (C_bf h (bfY y n)) hmb (bfF x n)
      rw [ybm] at h2r
      obtain ⟨m, t, ek, gk⟩ := v_makeC h2r
      rw [em1, em2, Option.bind_some, Option.bind_some]
      dsimp only
      rw [ek, Option.bind_some]
      have h2m := C_made h2r m (gS_z gk)
      obtain ⟨ew1, ew2⟩ := C_worst h2m (by rw [y_sg2]; exact gk)
      rw [ew2, Option.bind_some, er, Option.bind_some, ew1, Option.bind_some]
      have r8 : ∀ k, k < n → Y_moves y k = Piece_move (X_pieces x k) := fun k hk => (hQ.2 k hk).2.1.2.2.2.2.2.2.2
      have pc2 : Y_pieces (Y_u_sums (Y_u_mask (Y_u_moves (Y_u_before y (bfY y n)) (mvM (Y_moves y) mv n)) m) t) = nI n := h2m.2.2.1.2.2.1
      have eky : Y_kept (Y_u_sums (Y_u_mask (Y_u_moves (Y_u_before y (bfY y n)) (mvM (Y_moves y) mv n)) m) t) = nI j := by rw [y_kg, y_kb]; exact hr.1
      have ewy : Y_worsts (Y_u_sums (Y_u_mask (Y_u_moves (Y_u_before y (bfY y n)) (mvM (Y_moves y) mv n)) m) t) = Y_worsts y := by rw [y_wg, y_wb]
      have eby : Y_before (Y_u_sums (Y_u_mask (Y_u_moves (Y_u_before y (bfY y n)) (mvM (Y_moves y) mv n)) m) t) = bfY y n := by rw [y_bg, ybg]
      have esy : Y_sums (Y_u_sums (Y_u_mask (Y_u_moves (Y_u_before y (bfY y n)) (mvM (Y_moves y) mv n)) m) t) = t := y_sg2 _ _ _
      have hQ2 : rQ (mvP (X_pieces x) mv n) (Y_u_sums (Y_u_mask (Y_u_moves (Y_u_before y (bfY y n)) (mvM (Y_moves y) mv n)) m) t) n := h2m.2.2.1.2.2
      generalize Y_u_sums (Y_u_mask (Y_u_moves (Y_u_before y (bfY y n)) (mvM (Y_moves y) mv n)) m) t = y2 at h2m ew1 ew2 pc2 eky ewy eby esy hQ2 ⊢
      have hQ3 := rQ_mv hQ2 (mv := bfY y n) (fun k hk => by
        have e1 : bfY y n k = Piece_move (X_pieces x k) := by unfold bfY mvM; rw [if_pos hk, r8 k hk]
        have e2 : Piece_outward (mvP (X_pieces x) mv n k) = Piece_outward (X_pieces x k) := by unfold mvP; rw [if_pos hk]; rfl
        obtain ⟨p1, p2, p3, p4, p5, p6⟩ := (hQ.2 k hk).1.1
        rw [e1, e2]
        exact ⟨p5, p6⟩)
      rw [mvP_backY r8] at hQ3
      have yback : f_MaskEdgesModel_moveBack y2 = some (Y_u_moves y2 (mvM (Y_moves y2) (bfY y n) n)) := by
        rw [v_yback pc2 hn2, eby]
      generalize mvM (Y_moves y2) (bfY y n) n = a3 at hQ3 yback
      have hrb : ∀ x', X_worsts x' = X_worsts x → rnI j x' (Y_u_moves y2 a3) := by
        intro x' ex
        unfold rnI
        rw [y_kv, y_wv, eky, ewy, ex]
        exact ⟨rfl, hr.2⟩
      have yend : ∀ w, f_MaskEdgesModel_run_156 r2 (nI rounds) st li w y2 = some (nI j, Y_u_moves y2 a3) := by
        intro w
        unfold f_MaskEdgesModel_run_156 f_MaskEdgesModel_run_157 f_MaskEdgesModel_run_192
        rw [if_pos (show (0 : Int32) = 0 from rfl), yback, Option.bind_some, more0, y_kv, eky]
      by_cases ch : chg (X_pieces x) mv n = false
      · have eid : mvP (X_pieces x) mv n = X_pieces x := mvP_id (chg_f n ch)
        have hb := C_back h h2m hQ3
        rw [ch, if_pos (show b2 false = 0 from rfl), if_pos (show b2 false = 0 from rfl), yend, eid, x_pe]
        exact ⟨_, _, _, rfl, rfl, run_end hb (by omega) (hrb _ (x_wb _ _))⟩
      · have ch' : chg (X_pieces x) mv n = true := by
          cases q : chg (X_pieces x) mv n with
          | true => rfl
          | false => exact absurd q ch
        rw [ch', if_neg (show ¬ b2 true = 0 by decide), if_neg (show ¬ b2 true = 0 by decide)]
        have ewx : X_worsts (X_u_mask (X_u_box (X_u_pieces (X_u_movesBefore x (bfF x n)) (mvP (X_pieces x) mv n)) bb) mm) = X_worsts x := rfl
        have pcx : X_pieceCount (X_u_mask (X_u_box (X_u_pieces (X_u_movesBefore x (bfF x n)) (mvP (X_pieces x) mv n)) bb) mm) = nI n := h2m.2.2.1.1
        have ep2 : X_pieces (X_u_mask (X_u_box (X_u_pieces (X_u_movesBefore x (bfF x n)) (mvP (X_pieces x) mv n)) bb) mm) = mvP (X_pieces x) mv n := rfl
        have eb2 : X_movesBefore (X_u_mask (X_u_box (X_u_pieces (X_u_movesBefore x (bfF x n)) (mvP (X_pieces x) mv n)) bb) mm) = bfF x n := rfl
        generalize X_u_mask (X_u_box (X_u_pieces (X_u_movesBefore x (bfF x n)) (mvP (X_pieces x) mv n)) bb) mm = x2 at h2m ew1 ew2 h2r gk ewx pcx ep2 eb2 ⊢
        have xbk := v_xback pcx hn2
        rw [ep2, eb2, mvP_back] at xbk
        rw [if_pos gj, ewx, wj, nI_1, if_pos gj1, cj1, eky, if_pos gj, cj, ewy]
        generalize wst (EX x2 nk) n = w
        by_cases le : w ≤ Y_worsts y j
        · rw [if_pos le, if_neg (by rw [i_lt]; rw [i_le] at le; omega)]
          unfold f_MaskEdgesModel_run_157 f_MaskEdgesModel_run_192
          rw [if_neg (show ¬ (1 : Int32) = 0 by decide), y_kk, y_wk, eky, nI_1, if_pos gj1, cj1, ewy]
          refine more1 _ _ (C_yw (C_yk (C_xw h2m _) _) _) ?_ ⟨?_, fun k hk => ?_⟩
          · rw [y_sw, y_sk, x_mw, esy]
            exact gk
          · rw [y_kw, y_kk]
          · rw [x_ww, y_ww]
            unfold upd
            by_cases q : k = j + 1
            · rw [if_pos q, if_pos q]
            · rw [if_neg q, if_neg q]
              exact hr.2 k (by omega)
        · obtain ⟨x3, e3, h3, w3⟩ := C_back2 h2m hQ3
          rw [if_neg le, if_pos (by rw [i_lt]; rw [i_le] at le; omega), yend, xbk]
          unfold f_MaskEdges_takeMovesBack_31
          rw [e3, Option.bind_some, Option.bind_some]
          exact ⟨_, _, _, rfl, rfl, run_end h3 (by omega) (hrb _ (w3.trans ewx))⟩
