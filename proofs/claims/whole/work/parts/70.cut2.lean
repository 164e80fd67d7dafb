/-! cut. -/
def xR (x : xSt) (Q : Nat → t_Piece) (m : Nat) (s : xSt) : Prop := (X_outlines s = X_outlines x ∧ X_outlineCount s = X_outlineCount x ∧ X_target s = X_target x ∧ X_barCells s = X_barCells x ∧ X_bars s = X_bars x ∧ X_barCount s = X_barCount x ∧ X_exposure s = X_exposure x ∧ X_worsts s = X_worsts x ∧ X_worstCount s = X_worstCount x) ∧ X_pieces s = Q ∧ X_pieceCount s = nI m
theorem xR_s {x s : xSt} {Q : Nat → t_Piece} {m : Nat} (h : xR x Q m s) (p : t_Piece) : xR x (va_up Q m p) (m + 1) (X_u_pieceCount (X_u_pieces s (va_up (X_pieces s) m p)) ((X_pieceCount (X_u_pieces s (va_up (X_pieces s) m p))) + (1 : Int32))) := by
  obtain ⟨h1, h2, h3⟩ := h
  refine ⟨h1, ?_, ?_⟩
  · show va_up (X_pieces s) m p = _
    rw [h2]
  · show X_pieceCount s + 1 = _
    rw [h3, nI_1]
theorem v_cutOutline {x : xSt} {L m k : Nat} {Q : Nat → t_Piece} (ho : okO (X_outlines x k)) (hL : 1 ≤ L) (hL2 : L ≤ 48) (hc : Outline_closed (X_outlines x k) = 1) (hm : m + sumO (X_outlines x k) L (on (X_outlines x k)) ≤ 120) {s0 : xSt} (hx : xR x Q m s0) : ∃ s', f_MaskEdges_cutOutline k (nI L) s0 = some s' ∧ xR x (outQ (X_outlines x k) L m Q (on (X_outlines x k))) (m + sumO (X_outlines x k) L (on (X_outlines x k))) s' := by
  have hn16 := ho.2.1
  have inner : ∀ (kk : Nat → Int32 → Int32 → xSt → Option xSt) (t n : Nat) (M : Nat) (R : Nat → t_Piece) (s : xSt), t < on (X_outlines x k) → 1 ≤ n → n ≤ lenN (X_outlines x k) t → n ≤ 48 → M + n ≤ 120 → xR x R M s → ∃ s', xR x (partQ (X_outlines x k) t n M n R) (M + n) s' ∧ (xloop (fun r => f_MaskEdges_cutOutline_28 r kk) (fun _ _ _ _ _ _ => none) 100000) k (nI L) (nI t) (nI n) (nI 0) s = kk k (nI L) (nI t) s' := by
    intro kk t n M R s ht hn hd h48 hM hs
    refine xpA (fun r => f_MaskEdges_cutOutline_28 r kk) (fun _ _ _ _ _ _ => none) (fun rr j (s : xSt) => rr k (nI L) (nI t) (nI n) (nI j) s) n (fun j s => xR x (partQ (X_outlines x k) t n M j R) (M + j) s) (fun r => ∃ s', xR x (partQ (X_outlines x k) t n M n R) (M + n) s' ∧ r = kk k (nI L) (nI t) s') ?_ ?_ 100000 0 s (Nat.zero_le _) (by omega) (by rw [partQ_0]; exact hs)
    · intro rr s hs
      refine ⟨s, hs, ?_⟩
      show f_MaskEdges_cutOutline_28 rr kk k (nI L) (nI t) (nI n) (nI n) s = _
      unfold f_MaskEdges_cutOutline_28
      rw [if_pos (Int32.le_refl _)]
    · intro rr j s hj hs
      right
      have gm : xin (nI (M + j)) 120 = true := xin_n (by omega) (by omega)
      have cm : (nI (M + j)).toNatClampNeg = M + j := nI_clamp (by omega)
      have hs' := xR_s hs (pcQ (X_outlines x k) t j n)
      rw [partQ_s] at hs'
      obtain ⟨⟨e1, -⟩, e2, e3⟩ := hs
      refine ⟨_, hs', ?_⟩
      show f_MaskEdges_cutOutline_28 rr kk k (nI L) (nI t) (nI n) (nI j) s = _
      unfold f_MaskEdges_cutOutline_28
      rw [if_neg (by rw [i_le, i_n (by omega), i_n (by omega)]; omega), e3, if_neg (by rw [i_le, i_n (by omega)]; show ¬ (120 : Int) ≤ _; omega), if_pos gm, cm, e1, v_lieOn ho hc ht hn hd hj, Option.bind_some, nI_1]
  unfold f_MaskEdges_cutOutline
  have key : ∃ s', (xloop (fun r => f_MaskEdges_cutOutline_2 r) (fun _ _ _ _ => none) 100000) k (nI L) (nI 0) s0 = some s' ∧ xR x (outQ (X_outlines x k) L m Q (on (X_outlines x k))) (m + sumO (X_outlines x k) L (on (X_outlines x k))) s' := by
    refine xpA (fun r => f_MaskEdges_cutOutline_2 r) (fun _ _ _ _ => none) (fun rr j (s : xSt) => rr k (nI L) (nI j) s) (on (X_outlines x k)) (fun j s => xR x (outQ (X_outlines x k) L m Q j) (m + sumO (X_outlines x k) L j) s) (fun r => ∃ s', r = some s' ∧ xR x (outQ (X_outlines x k) L m Q (on (X_outlines x k))) (m + sumO (X_outlines x k) L (on (X_outlines x k))) s') ?_ ?_ 100000 0 s0 (Nat.zero_le _) (by omega) hx
    · intro rr s hs
      refine ⟨s, ?_, hs⟩
      obtain ⟨⟨e1, -⟩, e2, e3⟩ := hs
      show f_MaskEdges_cutOutline_2 rr k (nI L) (nI (on (X_outlines x k))) s = _
      unfold f_MaskEdges_cutOutline_2
      rw [e1, hc, if_neg (show ¬ (1 : Int32) = 0 by decide), ho.1, if_pos (Int32.le_refl _)]
    · intro rr t s ht hs
      right
      obtain ⟨c1', c2', l1, l2, -⟩ := side_ok ho hc ht
      obtain ⟨p1, p2⟩ := prt_ok (L := L) l1 l2 hL
      have hmm : sumO (X_outlines x k) L (t + 1) ≤ sumO (X_outlines x k) L (on (X_outlines x k)) := sumO_mono _ _ (by omega)
      have hmt : sumO (X_outlines x k) L (t + 1) = sumO (X_outlines x k) L t + prt (X_outlines x k) L t := rfl
      obtain ⟨s', h1, h2⟩ := inner (f_MaskEdges_cutOutline_78 rr) t (prt (X_outlines x k) L t) (m + sumO (X_outlines x k) L t) _ s ht p1 p2 (by omega) (by omega) hs
      refine ⟨s', ?_, ?_⟩
      · rw [Nat.add_assoc] at h1
        exact h1
      · obtain ⟨⟨e1, -⟩, e2, e3⟩ := hs
        show f_MaskEdges_cutOutline_2 rr k (nI L) (nI t) s = _
        unfold f_MaskEdges_cutOutline_2
        rw [e1, hc, if_neg (show ¬ (1 : Int32) = 0 by decide), ho.1, if_neg (by rw [i_le, i_n (by omega), i_n (by omega)]; omega), v_partsOf ho hc ht hL hL2, Option.bind_some]
        rw [show nI 0 = (0 : Int32) from rfl] at h2
        rw [h2]
        unfold f_MaskEdges_cutOutline_78
        rw [nI_1]
  rw [show nI 0 = (0 : Int32) from rfl] at key
  exact key
theorem v_cutOpen {k : Nat} {v : Int32} {s : xSt} (hc : Outline_closed (X_outlines s k) = 0) : f_MaskEdges_cutOutline k v s = some s := by
  unfold f_MaskEdges_cutOutline
  show f_MaskEdges_cutOutline_2 _ k v 0 s = _
  unfold f_MaskEdges_cutOutline_2
  rw [if_pos hc]
theorem v_piecesFor {x : xSt} {c L : Nat} (hc : X_outlineCount x = nI c) (hc4 : c ≤ 4) (hO : ∀ p, p < 4 → okO (X_outlines x p)) (hL : 1 ≤ L) (hL2 : L ≤ 48) : f_MaskEdges_piecesFor x (nI L) = some (nI (tot (X_outlines x) L c)) := by
  unfold f_MaskEdges_piecesFor
  have key := xgA (fun r => f_MaskEdges_piecesFor_4 x r) (fun _ _ _ => none) (fun rr p (v : Int32) => rr (nI L) v (nI p)) c 0 (fun p => nI (tot (X_outlines x) L p)) (some (nI (tot (X_outlines x) L c))) ?_ ?_ 100000 0 (Nat.le_refl _) (Nat.zero_le _) (by omega)
  · try dsimp only at key
    rw [show nI 0 = (0 : Int32) from rfl, show tot (X_outlines x) L 0 = 0 from rfl, show nI 0 = (0 : Int32) from rfl] at key
    exact key
  · intro rr
    try dsimp only
    unfold f_MaskEdges_piecesFor_4
    rw [hc, if_pos (Int32.le_refl _)]
  · intro rr p _ hp
    right
    try dsimp only
    have ho := hO p (by omega)
    have hn16 := ho.2.1
    have gp : xin (nI p) 4 = true := xin_n (by omega) (by omega)
    have cp : (nI p).toNatClampNeg = p := nI_clamp (by omega)
    unfold f_MaskEdges_piecesFor_4
    rw [hc, if_neg (by rw [i_le, i_n (by omega), i_n (by omega)]; omega), if_pos gp, cp]
    show _ = rr (nI L) (nI (tot (X_outlines x) L p + (if Outline_closed (X_outlines x p) = 0 then 0 else sumO (X_outlines x p) L (on (X_outlines x p))))) (nI (p + 1))
    by_cases e : Outline_closed (X_outlines x p) = 0
    · rw [if_pos e, Nat.add_zero]
      show f_MaskEdges_piecesFor_23 x _ (f_MaskEdges_piecesFor_58 x rr) (nI L) _ (nI p) p 0 = _
      unfold f_MaskEdges_piecesFor_23
      rw [if_pos e]
      unfold f_MaskEdges_piecesFor_58
      rw [nI_1]
    · rw [if_neg e]
      have ec : Outline_closed (X_outlines x p) = 1 := by
        rcases ho.2.2.1 with q | q
        · exact absurd q e
        · exact q
      have k2 := xgA (fun r => f_MaskEdges_piecesFor_23 x r (f_MaskEdges_piecesFor_58 x rr)) (fun _ _ _ _ _ => none) (fun r2 t (v : Int32) => r2 (nI L) v (nI p) p (nI t)) (on (X_outlines x p)) 0 (fun t => nI (tot (X_outlines x) L p + sumO (X_outlines x p) L t)) (rr (nI L) (nI (tot (X_outlines x) L p + sumO (X_outlines x p) L (on (X_outlines x p)))) (nI (p + 1))) ?_ ?_ 100000 0 (Nat.le_refl _) (Nat.zero_le _) (by omega)
      · try dsimp only at k2
        rw [show nI 0 = (0 : Int32) from rfl, show sumO (X_outlines x p) L 0 = 0 from rfl, Nat.add_zero] at k2
        exact k2
      · intro r2
        try dsimp only
        unfold f_MaskEdges_piecesFor_23
        rw [if_neg e, ho.1, if_pos (Int32.le_refl _)]
        unfold f_MaskEdges_piecesFor_58
        rw [nI_1]
      · intro r2 t _ ht
        right
        try dsimp only
        unfold f_MaskEdges_piecesFor_23
        rw [if_neg e, ho.1, if_neg (by rw [i_le, i_n (by omega), i_n (by omega)]; omega), v_partsOf ho ec ht hL hL2, Option.bind_some, nadd, nI_1, Nat.add_assoc]
        rfl
theorem v_xcut {x : xSt} {c L : Nat} {Q : Nat → t_Piece} (hc : X_outlineCount x = nI c) (hc4 : c ≤ 4) (hO : ∀ p, p < 4 → okO (X_outlines x p)) (hL : 1 ≤ L) (hL2 : L ≤ 48) (hm : tot (X_outlines x) L c ≤ 120) {s0 : xSt} (hx : xR x Q 0 s0) : ∃ s', (xloop (fun r => f_MaskEdges_cut_42 r f_MaskEdges_cut_67) (fun _ _ _ => none) 100000) (nI L) (0 : Int32) s0 = f_MaskEdges_cut_67 s' ∧ xR x (totQ (X_outlines x) L Q c) (tot (X_outlines x) L c) s' := by
  have key : ∃ s', (xloop (fun r => f_MaskEdges_cut_42 r f_MaskEdges_cut_67) (fun _ _ _ => none) 100000) (nI L) (nI 0) s0 = f_MaskEdges_cut_67 s' ∧ xR x (totQ (X_outlines x) L Q c) (tot (X_outlines x) L c) s' := by
    refine xpA (fun r => f_MaskEdges_cut_42 r f_MaskEdges_cut_67) (fun _ _ _ => none) (fun rr p (s : xSt) => rr (nI L) (nI p) s) c (fun p s => xR x (totQ (X_outlines x) L Q p) (tot (X_outlines x) L p) s) (fun r => ∃ s', r = f_MaskEdges_cut_67 s' ∧ xR x (totQ (X_outlines x) L Q c) (tot (X_outlines x) L c) s') ?_ ?_ 100000 0 s0 (Nat.zero_le _) (by omega) hx
    · intro rr s hs
      refine ⟨s, ?_, hs⟩
      obtain ⟨⟨e1, e2, -⟩, -⟩ := hs
      show f_MaskEdges_cut_42 rr f_MaskEdges_cut_67 (nI L) (nI c) s = _
      unfold f_MaskEdges_cut_42
      rw [e2, hc, if_pos (Int32.le_refl _)]
    · intro rr p s hp hs
      right
      have ho := hO p (by omega)
      have gp : xin (nI p) 4 = true := xin_n (by omega) (by omega)
      have cp : (nI p).toNatClampNeg = p := nI_clamp (by omega)
      have hmp : tot (X_outlines x) L (p + 1) ≤ tot (X_outlines x) L c := tot_mono _ _ (by omega)
      have tp : tot (X_outlines x) L (p + 1) = tot (X_outlines x) L p + (if Outline_closed (X_outlines x p) = 0 then 0 else sumO (X_outlines x p) L (on (X_outlines x p))) := rfl
      have tq : totQ (X_outlines x) L Q (p + 1) = (if Outline_closed (X_outlines x p) = 0 then totQ (X_outlines x) L Q p else outQ (X_outlines x p) L (tot (X_outlines x) L p) (totQ (X_outlines x) L Q p) (on (X_outlines x p))) := rfl
      have hs0 := hs
      obtain ⟨⟨e1, e2, -⟩, -⟩ := hs0
      have lt : ¬ X_outlineCount s ≤ nI p := by rw [e2, hc, i_le, i_n (by omega), i_n (by omega)]; omega
      by_cases e : Outline_closed (X_outlines x p) = 0
      · rw [if_pos e] at tp tq
        refine ⟨s, ?_, ?_⟩
        · rw [tp, tq]; exact hs
        · show f_MaskEdges_cut_42 rr f_MaskEdges_cut_67 (nI L) (nI p) s = _
          unfold f_MaskEdges_cut_42
          rw [if_neg lt, if_pos gp, cp, v_cutOpen (by rw [e1]; exact e), Option.bind_some, nI_1]
      · rw [if_neg e] at tp tq
        have ec : Outline_closed (X_outlines x p) = 1 := by
          rcases ho.2.2.1 with q | q
          · exact absurd q e
          · exact q
        obtain ⟨s', h1, h2⟩ := v_cutOutline ho hL hL2 ec (by omega) hs
        refine ⟨s', ?_, ?_⟩
        · rw [tp, tq]; exact h2
        · show f_MaskEdges_cut_42 rr f_MaskEdges_cut_67 (nI L) (nI p) s = _
          unfold f_MaskEdges_cut_42
          rw [if_neg lt, if_pos gp, cp, h1, Option.bind_some, nI_1]
  rw [show nI 0 = (0 : Int32) from rfl] at key
  exact key
def anyC (P : Nat → t_Outline) : Nat → Bool
  | 0 => false
  | p + 1 => anyC P p || decide (¬ Outline_closed (P p) = 0)
theorem v_hasClosed {P : Nat → t_Outline} {y : ySt} {c : Nat} (hO : relO P y c) : f_MaskEdgesModel_hasClosed y = some (b2 (anyC P c)) := by
  obtain ⟨h1, h2, h3⟩ := hO
  unfold f_MaskEdgesModel_hasClosed
  have key := xgA (fun r => f_MaskEdgesModel_hasClosed_4 y r) (fun _ _ => none) (fun rr p (v : Int32) => rr v (nI p)) c 0 (fun p => b2 (anyC P p)) (some (b2 (anyC P c))) ?_ ?_ 100000 0 (Nat.le_refl _) (Nat.zero_le _) (by omega)
  · try dsimp only at key
    rw [show nI 0 = (0 : Int32) from rfl, show anyC P 0 = false from rfl, b2_f] at key
    exact key
  · intro rr
    try dsimp only
    unfold f_MaskEdgesModel_hasClosed_4
    rw [h1, if_pos (Int32.le_refl _), if_pos (b2_z _)]
  · intro rr p _ hp
    right
    try dsimp only
    have gp : xin (nI p) 4 = true := xin_n (by omega) (by omega)
    have cp : (nI p).toNatClampNeg = p := nI_clamp (by omega)
    unfold f_MaskEdgesModel_hasClosed_4 f_MaskEdgesModel_hasClosed_25 f_MaskEdgesModel_hasClosed_30
    rw [h1, if_neg (by rw [i_le, i_n (by omega), i_n (by omega)]; omega), if_pos gp, cp, (h3 p (by omega)).2.2.1, b2_if, nI_1]
    show _ = rr (b2 (anyC P p || decide (¬ Outline_closed (P p) = 0))) (nI (p + 1))
    cases anyC P p with
    | true => rfl
    | false =>
      rw [if_neg (show ¬ false = true by decide), Bool.false_or]
      by_cases e : Outline_closed (P p) = 0
      · rw [if_pos e, decide_eq_false (fun q => q e)]; rfl
      · rw [if_neg e, decide_eq_true e]; rfl
theorem sumO_pos {o : t_Outline} (h : okO o) (hc : Outline_closed o = 1) {L : Nat} (hL : 1 ≤ L) : ∀ t, t ≤ on o → t ≤ sumO o L t ∧ sumO o L t ≤ 48 * t := by
  intro t
  induction t with
  | zero => intro _; exact ⟨Nat.le_refl _, Nat.le_refl _⟩
  | succ t ih =>
    intro ht
    obtain ⟨-, -, l1, l2, -⟩ := side_ok h hc (show t < on o by omega)
    obtain ⟨p1, p2⟩ := prt_ok (L := L) l1 l2 hL
    have := ih (by omega)
    show t + 1 ≤ sumO o L t + prt o L t ∧ sumO o L t + prt o L t ≤ 48 * (t + 1)
    omega
theorem tot_0 {P : Nat → t_Outline} (h : ∀ p, p < 4 → okO (P p)) {L : Nat} (hL : 1 ≤ L) : ∀ c, c ≤ 4 → (tot P L c = 0 ↔ anyC P c = false) ∧ tot P L c ≤ 768 * c := by
  intro c
  induction c with
  | zero => intro _; exact ⟨⟨fun _ => rfl, fun _ => rfl⟩, Nat.le_refl _⟩
  | succ c ih =>
    intro hc
    obtain ⟨i1, i2⟩ := ih (by omega)
    have ho := h c (by omega)
    have hn16 := ho.2.1
    show (tot P L c + (if Outline_closed (P c) = 0 then 0 else sumO (P c) L (on (P c))) = 0 ↔ (anyC P c || decide (¬ Outline_closed (P c) = 0)) = false) ∧ tot P L c + (if Outline_closed (P c) = 0 then 0 else sumO (P c) L (on (P c))) ≤ 768 * (c + 1)
    by_cases e : Outline_closed (P c) = 0
    · rw [if_pos e, decide_eq_false (fun q => q e), Bool.or_false, Nat.add_zero]
      exact ⟨i1, by omega⟩
    · have ec : Outline_closed (P c) = 1 := by
        rcases ho.2.2.1 with q | q
        · exact absurd q e
        · exact q
      have sp := sumO_pos ho ec hL _ (Nat.le_refl _)
      have o4 := (ho.2.2.2.2.2 ec).1
      rw [if_neg e, decide_eq_true e, Bool.or_true]
      exact ⟨⟨fun w => absurd w (by omega), fun w => by cases w⟩, by omega⟩
