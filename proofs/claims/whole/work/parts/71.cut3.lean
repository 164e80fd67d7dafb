/-! cut in the reference, and both. -/
theorem v_ysum {x : xSt} {y : ySt} {c L : Nat} (hG : relO (X_outlines x) y c) (hL : 1 ≤ L) (hL2 : L ≤ 48) : (xloop (fun r => f_MaskEdgesModel_cut_29 r f_MaskEdgesModel_cut_88) (fun _ _ _ _ => none) 100000) (nI L) (0 : Int32) (0 : Int32) y = f_MaskEdgesModel_cut_88 (nI L) (nI (tot (X_outlines x) L c)) y := by
  obtain ⟨h1, h2, h3⟩ := hG
  have key := xgA (fun r => f_MaskEdgesModel_cut_29 r f_MaskEdgesModel_cut_88) (fun _ _ _ _ => none) (fun rr p (v : Int32) => rr (nI L) v (nI p) y) c 0 (fun p => nI (tot (X_outlines x) L p)) (f_MaskEdgesModel_cut_88 (nI L) (nI (tot (X_outlines x) L c)) y) ?_ ?_ 100000 0 (Nat.le_refl _) (Nat.zero_le _) (by omega)
  · try dsimp only at key
    rw [show nI 0 = (0 : Int32) from rfl, show tot (X_outlines x) L 0 = 0 from rfl, show nI 0 = (0 : Int32) from rfl] at key
    exact key
  · intro rr
    try dsimp only
    unfold f_MaskEdgesModel_cut_29
    rw [h1, if_pos (Int32.le_refl _)]
  · intro rr p _ hp
    right
    try dsimp only
    obtain ⟨ho, hr⟩ := h3 p (by omega)
    obtain ⟨r1, r2, r3⟩ := hr
    have hr : relP (X_outlines x p) y p := ⟨r1, r2, r3⟩
    have hn16 := ho.2.1
    have gp : xin (nI p) 4 = true := xin_n (by omega) (by omega)
    have cp : (nI p).toNatClampNeg = p := nI_clamp (by omega)
    unfold f_MaskEdgesModel_cut_29
    rw [h1, if_neg (by rw [i_le, i_n (by omega), i_n (by omega)]; omega)]
    show _ = rr (nI L) (nI (tot (X_outlines x) L p + (if Outline_closed (X_outlines x p) = 0 then 0 else sumO (X_outlines x p) L (on (X_outlines x p))))) (nI (p + 1)) y
    by_cases e : Outline_closed (X_outlines x p) = 0
    · rw [if_pos e, Nat.add_zero]
      show f_MaskEdgesModel_cut_40 _ (f_MaskEdgesModel_cut_82 rr) (nI L) _ (nI p) 0 y = _
      unfold f_MaskEdgesModel_cut_40 f_MaskEdgesModel_cut_82
      rw [if_pos gp, cp, r2, if_pos gp, if_pos e, nI_1]
      split <;> rfl
    · rw [if_neg e]
      have ec : Outline_closed (X_outlines x p) = 1 := by
        rcases ho.2.2.1 with q | q
        · exact absurd q e
        · exact q
      have k2 := xgA (fun r => f_MaskEdgesModel_cut_40 r (f_MaskEdgesModel_cut_82 rr)) (fun _ _ _ _ _ => none) (fun q t (v : Int32) => q (nI L) v (nI p) (nI t) y) (on (X_outlines x p)) 0 (fun t => nI (tot (X_outlines x) L p + sumO (X_outlines x p) L t)) (rr (nI L) (nI (tot (X_outlines x) L p + sumO (X_outlines x p) L (on (X_outlines x p)))) (nI (p + 1)) y) ?_ ?_ 100000 0 (Nat.le_refl _) (Nat.zero_le _) (by omega)
      · try dsimp only at k2
        rw [show nI 0 = (0 : Int32) from rfl, show sumO (X_outlines x p) L 0 = 0 from rfl, Nat.add_zero] at k2
        exact k2
      · intro q
        try dsimp only
        unfold f_MaskEdgesModel_cut_40
        rw [if_pos gp, cp, r1, if_pos (Int32.le_refl _)]
        unfold f_MaskEdgesModel_cut_82
        rw [nI_1]
      · intro q t _ ht
        right
        try dsimp only
        obtain ⟨-, -, l1, l2, -⟩ := side_ok ho ec ht
        unfold f_MaskEdgesModel_cut_40
        rw [if_pos gp, cp, r1, if_neg (by rw [i_le, i_n (by omega), i_n (by omega)]; omega), if_pos gp, r2, if_neg e, v_lengthOf ho ec (by omega) hr ht, Option.bind_some, if_neg (n_ne0 (by omega) (by omega)), prt_I l2 hL hL2, nadd, nI_1, Nat.add_assoc]
        rfl
theorem v_ycut {x : xSt} {y0 : ySt} {c nk nb nw L : Nat} {Q : Nat → t_Piece} (hG : yG x y0 c nk nb nw) (hL : 1 ≤ L) (hL2 : L ≤ 48) (hm : tot (X_outlines x) L c ≤ 120) (hR : yR Q 0 y0) : ∃ y', (xloop (fun r => f_MaskEdgesModel_cut_104 r) (fun _ _ _ => none) 100000) (nI L) (0 : Int32) y0 = some (nI (tot (X_outlines x) L c), y') ∧ yR (totQ (X_outlines x) L Q c) (tot (X_outlines x) L c) y' ∧ yG x y' c nk nb nw := by
  have hc4 := hG.1.2.1
  have sides : ∀ (kk : Int32 → Int32 → ySt → Option (Int32 × ySt)) (p : Nat) (M : Nat) (R : Nat → t_Piece) (s : ySt), p < c → Outline_closed (X_outlines x p) = 1 → okO (X_outlines x p) → M + sumO (X_outlines x p) L (on (X_outlines x p)) ≤ 120 → yR R M s → yG x s c nk nb nw → ∃ s', (yR (outQ (X_outlines x p) L M R (on (X_outlines x p))) (M + sumO (X_outlines x p) L (on (X_outlines x p))) s' ∧ yG x s' c nk nb nw) ∧ (xloop (fun r => f_MaskEdgesModel_cut_115 r kk) (fun _ _ _ _ => none) 100000) (nI L) (nI p) (nI 0) s = kk (nI L) (nI p) s' := by
    intro kk p M R s hp ec ho hM hs hg
    have hn16 := ho.2.1
    have gp : xin (nI p) 4 = true := xin_n (by omega) (by omega)
    have cp : (nI p).toNatClampNeg = p := nI_clamp (by omega)
    refine xpA (fun r => f_MaskEdgesModel_cut_115 r kk) (fun _ _ _ _ => none) (fun rr t (s : ySt) => rr (nI L) (nI p) (nI t) s) (on (X_outlines x p)) (fun t s => yR (outQ (X_outlines x p) L M R t) (M + sumO (X_outlines x p) L t) s ∧ yG x s c nk nb nw) (fun r => ∃ s', (yR (outQ (X_outlines x p) L M R (on (X_outlines x p))) (M + sumO (X_outlines x p) L (on (X_outlines x p))) s' ∧ yG x s' c nk nb nw) ∧ r = kk (nI L) (nI p) s') ?_ ?_ 100000 0 s (Nat.zero_le _) (by omega) ⟨hs, hg⟩
    · intro rr s hs
      refine ⟨s, hs, ?_⟩
      have r1 := (hs.2.1.2.2 p (by omega)).2.1
      show f_MaskEdgesModel_cut_115 rr kk (nI L) (nI p) (nI (on (X_outlines x p))) s = _
      unfold f_MaskEdgesModel_cut_115
      rw [if_pos gp, cp, r1, if_pos (Int32.le_refl _)]
    · intro rr t s ht hs
      right
      obtain ⟨-, -, l1, l2, -⟩ := side_ok ho ec ht
      obtain ⟨p1, p2⟩ := prt_ok (L := L) l1 l2 hL
      have hmm : sumO (X_outlines x p) L (t + 1) ≤ sumO (X_outlines x p) L (on (X_outlines x p)) := sumO_mono _ _ (by omega)
      have hmt : sumO (X_outlines x p) L (t + 1) = sumO (X_outlines x p) L t + prt (X_outlines x p) L t := rfl
      obtain ⟨s', h1, h2, h3⟩ := v_addPieces (x := x) (p := p) (k := t) (n := prt (X_outlines x p) L t) hs.2 (by omega) ec ht p1 p2 (by omega) hs.1
      rw [Nat.add_assoc] at h2
      refine ⟨s', ⟨h2, h3⟩, ?_⟩
      have hr := (hs.2.1.2.2 p (by omega)).2
      show f_MaskEdgesModel_cut_115 rr kk (nI L) (nI p) (nI t) s = _
      unfold f_MaskEdgesModel_cut_115
      rw [if_pos gp, cp, hr.1, if_neg (by rw [i_le, i_n (by omega), i_n (by omega)]; omega), if_pos gp, hr.2.1, ec, if_neg (show ¬ (1 : Int32) = 0 by decide), v_lengthOf ho ec (by omega) hr ht, Option.bind_some, if_neg (n_ne0 (by omega) (by omega)), prt_I l2 hL hL2, h1, Option.bind_some, nI_1]
  have key : ∃ y', (xloop (fun r => f_MaskEdgesModel_cut_104 r) (fun _ _ _ => none) 100000) (nI L) (nI 0) y0 = some (nI (tot (X_outlines x) L c), y') ∧ yR (totQ (X_outlines x) L Q c) (tot (X_outlines x) L c) y' ∧ yG x y' c nk nb nw := by
    refine xpA (fun r => f_MaskEdgesModel_cut_104 r) (fun _ _ _ => none) (fun rr p (s : ySt) => rr (nI L) (nI p) s) c (fun p s => yR (totQ (X_outlines x) L Q p) (tot (X_outlines x) L p) s ∧ yG x s c nk nb nw) (fun r => ∃ y', r = some (nI (tot (X_outlines x) L c), y') ∧ yR (totQ (X_outlines x) L Q c) (tot (X_outlines x) L c) y' ∧ yG x y' c nk nb nw) ?_ ?_ 100000 0 y0 (Nat.zero_le _) (by omega) ⟨hR, hG⟩
    · intro rr s hs
      refine ⟨s, ?_, hs⟩
      show f_MaskEdgesModel_cut_104 rr (nI L) (nI c) s = _
      unfold f_MaskEdgesModel_cut_104
      rw [hs.2.1.1, if_pos (Int32.le_refl _), hs.1.1]
    · intro rr p s hp hs
      right
      obtain ⟨ho, hr⟩ := hs.2.1.2.2 p (by omega)
      have gp : xin (nI p) 4 = true := xin_n (by omega) (by omega)
      have cp : (nI p).toNatClampNeg = p := nI_clamp (by omega)
      have hmp : tot (X_outlines x) L (p + 1) ≤ tot (X_outlines x) L c := tot_mono _ _ (by omega)
      have tp : tot (X_outlines x) L (p + 1) = tot (X_outlines x) L p + (if Outline_closed (X_outlines x p) = 0 then 0 else sumO (X_outlines x p) L (on (X_outlines x p))) := rfl
      have tq : totQ (X_outlines x) L Q (p + 1) = (if Outline_closed (X_outlines x p) = 0 then totQ (X_outlines x) L Q p else outQ (X_outlines x p) L (tot (X_outlines x) L p) (totQ (X_outlines x) L Q p) (on (X_outlines x p))) := rfl
      have lt : ¬ Y_polygons s ≤ nI p := by rw [hs.2.1.1, i_le, i_n (by omega), i_n (by omega)]; omega
      by_cases e : Outline_closed (X_outlines x p) = 0
      · rw [if_pos e] at tp tq
        refine ⟨s, ?_, ?_⟩
        · rw [tp, tq]; exact hs
        · show f_MaskEdgesModel_cut_104 rr (nI L) (nI p) s = _
          unfold f_MaskEdgesModel_cut_104
          rw [if_neg lt]
          show f_MaskEdgesModel_cut_115 _ (f_MaskEdgesModel_cut_161 rr) (nI L) (nI p) 0 s = _
          unfold f_MaskEdgesModel_cut_115 f_MaskEdgesModel_cut_161
          rw [if_pos gp, cp, hr.2.1, if_pos gp, if_pos e, nI_1]
          split <;> rfl
      · rw [if_neg e] at tp tq
        have ec : Outline_closed (X_outlines x p) = 1 := by
          rcases ho.2.2.1 with q | q
          · exact absurd q e
          · exact q
        obtain ⟨s', h1, h2⟩ := sides (f_MaskEdgesModel_cut_161 rr) p (tot (X_outlines x) L p) _ s hp ec ho (by omega) hs.1 hs.2
        refine ⟨s', ?_, ?_⟩
        · rw [tp, tq]; exact h1
        · show f_MaskEdgesModel_cut_104 rr (nI L) (nI p) s = _
          unfold f_MaskEdgesModel_cut_104
          rw [show nI 0 = (0 : Int32) from rfl] at h2
          rw [if_neg lt, h2]
          unfold f_MaskEdgesModel_cut_161
          rw [nI_1]
  rw [show nI 0 = (0 : Int32) from rfl] at key
  exact key
theorem yG_p0 {x : xSt} {y : ySt} {c nk nb nw : Nat} (h : yG x y c nk nb nw) (v : Int32) : yG x (Y_u_pieces y v) c nk nb nw := by
  obtain ⟨h1, h2, h3, h4, h5⟩ := h
  exact ⟨h1, h2, h3, h4, h5⟩
theorem op_cut {x : xSt} {y : ySt} (h : rel x y) (a : Int32) : ∃ v x' y', f_MaskEdges_cut a x = some (v, x') ∧ f_MaskEdgesModel_cut a y = some (v, y') ∧ rel x' y' := by
  obtain ⟨c, nk, n, nb, nw, h⟩ := h
  have h0 := h
  obtain ⟨⟨⟨hc, hO, hT⟩, hC⟩, ⟨hE, rE⟩, ⟨hn, hn2, hQ⟩, ⟨hb1, hb2, hB⟩, hM, ⟨hw1, hw2, hW⟩, hz⟩ := h
  obtain ⟨hpl, hc4, hOk⟩ := hO
  have hO : relO (X_outlines x) y c := ⟨hpl, hc4, hOk⟩
  unfold f_MaskEdges_cut f_MaskEdgesModel_cut
  rw [v_wi a (show (1 : Int32).toInt = 1 from rfl) (show (48 : Int32).toInt = 48 from rfl), Option.bind_some, b2_iff, v_isB a (show (1 : Int64).toInt = 1 from rfl) (show (48 : Int64).toInt = 48 from rfl), Option.bind_some, b2_iff]
  by_cases g : 1 ≤ a.toInt ∧ a.toInt ≤ 48
  · rw [if_pos g, if_pos g]
    have ea : a = nI a.toInt.toNat := i_of (by omega)
    have hL : 1 ≤ a.toInt.toNat := by omega
    have hL2 : a.toInt.toNat ≤ 48 := by omega
    rw [ea]
    generalize a.toInt.toNat = L at hL hL2
    rw [v_piecesFor hc hc4 (fun p hp => (hOk p hp).1) hL hL2, Option.bind_some, v_hasClosed hO, Option.bind_some, b2_if]
    obtain ⟨t0, t1⟩ := tot_0 (P := X_outlines x) (fun p hp => (hOk p hp).1) hL c hc4
    by_cases z : tot (X_outlines x) L c = 0
    · rw [if_pos (show nI (tot (X_outlines x) L c) = 0 by rw [z]; rfl), t0.mp z, if_neg (by decide)]
      exact ⟨_, _, _, rfl, rfl, c, nk, n, nb, nw, h0⟩
    · have ac : anyC (X_outlines x) c = true := by
        cases q : anyC (X_outlines x) c with
        | true => rfl
        | false => exact absurd (t0.mpr q) z
      rw [if_neg (n_ne0 (by omega) (by omega)), ac, if_pos rfl, v_ysum hO hL hL2]
      unfold f_MaskEdgesModel_cut_88
      have i120 : ∀ m : Nat, m ≤ 768 * 4 → (nI m ≤ (120 : Int32) ↔ m ≤ 120) := fun m hm => by
        rw [i_le, i_n (by omega)]
        show (m : Int) ≤ 120 ↔ _
        omega
      by_cases le : tot (X_outlines x) L c ≤ 120
      · rw [if_pos ((i120 _ (by omega)).mpr le), if_pos ((i120 _ (by omega)).mpr le)]
        obtain ⟨s', e1, xr⟩ := v_xcut (x := x) (Q := X_pieces x) (s0 := X_u_pieceCount x 0) hc hc4 (fun p hp => (hOk p hp).1) hL hL2 le ⟨⟨rfl, rfl, rfl, rfl, rfl, rfl, rfl, rfl, rfl⟩, rfl, rfl⟩
        obtain ⟨y', e2, yr, yg⟩ := v_ycut (x := x) (y0 := Y_u_pieces y 0) (Q := X_pieces x) (c := c) (nk := nk) (nb := nb) (nw := nw) (yG_p0 ⟨hO, rE, hB, hW, hz⟩ 0) hL hL2 le ⟨rfl, fun k hk => absurd hk (Nat.not_lt_zero _)⟩
        rw [e1, e2]
        have gd := good_tot (P := X_outlines x) (fun p hp => (hOk p hp).1) (X_pieces x) hL c hc4
        generalize tot (X_outlines x) L c = M at le xr yr gd
        generalize totQ (X_outlines x) L (X_pieces x) c = R at xr yr gd
        obtain ⟨⟨x1, x2, x3, x4, x5, x6, x7, x8, x9⟩, x10, x11⟩ := xr
        obtain ⟨g1, g2, g3, g4, g5⟩ := yg
        unfold f_MaskEdges_cut_67
        obtain ⟨bb, m, e3, q3⟩ := v_renewMask (st := s') (n := M) x11 le (fun k hk => by rw [x10]; exact (gd k hk).1.1)
        rw [e3, Option.bind_some]
        have ep : X_pieceCount (X_u_mask (X_u_box s' bb) m) = nI M := x11
        rw [ep]
        have hr : relN s' y' c nk M nb nw → relN (X_u_mask (X_u_box s' bb) m) y' c nk M nb nw := fun ⟨k1, k2, k3, k4, _, k6, k7⟩ => ⟨k1, k2, k3, k4, q3, k6, k7⟩
        have rq : rQ (X_pieces s') y' M := by
          rw [x10]
          exact ⟨yr.1, fun k hk => ⟨(gd k hk).1, yr.2 k hk, (gd k hk).2⟩⟩
        refine ⟨_, _, _, rfl, rfl, c, nk, M, nb, nw, ?_⟩
        refine ⟨⟨⟨?_, ?_, ?_⟩, ?_⟩, ⟨?_, ?_⟩, ⟨x11, le, rq⟩, ⟨?_, hb2, ?_⟩, q3, ⟨?_, hw2, ?_⟩, g5⟩
        · exact x2.trans hc
        · show relO (X_outlines s') y' c
          rw [x1]; exact g1
        · show ∀ a b : Nat, a < 48 → b < 48 → cs (X_target s') a b = tgt (X_outlines s') a b c
          rw [x1, x3]; exact hT
        · show nCl (X_outlines s') c
          rw [x1]; exact hC
        · show okE (X_exposure s') nk
          rw [x7]; exact hE
        · show relE (X_exposure s') y' nk
          rw [x7]; exact g2
        · exact x6.trans hb1
        · show rB (X_bars s') (X_barCells s') y' nb
          rw [x5, x4]; exact g3
        · exact x9.trans hw1
        · show rW (X_worsts s') y' nw
          rw [x8]; exact g4
      · rw [if_neg (fun w => le ((i120 _ (by omega)).mp w)), if_neg (fun w => le ((i120 _ (by omega)).mp w))]
        exact ⟨_, _, _, rfl, rfl, c, nk, n, nb, nw, h0⟩
  · rw [if_neg g, if_neg g]
    exact ⟨_, _, _, rfl, rfl, c, nk, n, nb, nw, h0⟩
