/-! corner, kernel, is. -/
theorem hld_open {o : t_Outline} (h : Outline_closed o = 0) (x y : Int) : hld o x y = false := by unfold hld; rw [h]; rfl
theorem up_same {α : Type} (P : Nat → α) (p : Nat) : va_up P p (P p) = P := by
  funext j
  unfold va_up
  by_cases h : j = p
  · rw [if_pos h, h]
  · rw [if_neg h]
theorem up_at {α : Type} (P : Nat → α) (p : Nat) (v : α) : va_up P p v p = v := by unfold va_up; rw [if_pos rfl]
theorem up_ne {α : Type} (P : Nat → α) {p j : Nat} (h : j ≠ p) (v : α) : va_up P p v j = P j := by unfold va_up; rw [if_neg h]
theorem takeR_c {o : t_Outline} (ho : okO o) (x y : Int32) : (takeR o x y = (false, o)) ∨ (takeR o x y = (true, oCl o) ∧ isFst o x y = true ∧ mayG o x y = true ∧ Outline_closed o = 0) ∨ (takeR o x y = (true, oAdd o x y) ∧ isFst o x y = false ∧ on o ≠ 16 ∧ mayG o x y = true ∧ Outline_closed o = 0) := by
  unfold takeR
  by_cases h1 : Outline_closed o = 1
  · rw [if_pos h1]; exact Or.inl rfl
  · have h0 : Outline_closed o = 0 := by
      rcases ho.2.2.1 with q | q
      · exact q
      · exact absurd q h1
    rw [if_neg h1]
    by_cases h2 : mayG o x y = false
    · rw [if_pos h2]; exact Or.inl rfl
    · rw [if_neg h2]
      have h2' : mayG o x y = true := by cases q : mayG o x y with
        | true => rfl
        | false => exact absurd q h2
      by_cases h3 : isFst o x y = true
      · rw [if_pos h3]
        by_cases h4 : clG o = true
        · rw [if_pos h4]; exact Or.inr (Or.inl ⟨rfl, h3, h2', h0⟩)
        · rw [if_neg h4]; exact Or.inl rfl
      · rw [if_neg h3]
        have h3' : isFst o x y = false := by cases q : isFst o x y with
          | true => exact absurd q h3
          | false => rfl
        by_cases h4 : on o = 16
        · rw [if_pos h4]; exact Or.inl rfl
        · rw [if_neg h4]; exact Or.inr (Or.inr ⟨rfl, h3', h4, h2', h0⟩)
theorem v_xCorner {x : xSt} {c p : Nat} (hc : X_outlineCount x = nI c) (hc4 : c ≤ 4) (hp : p < c) (hz : X_pieceCount x = 0) (ho : okO (X_outlines x p)) {a b : Int32} (ha : c49 a) (hb : c49 b) : f_MaskEdges_corner (nI p) a.toInt64 b.toInt64 x = (if (takeR (X_outlines x p) a b).1 = true then (if Outline_closed (takeR (X_outlines x p) a b).2 = 0 then some ((1 : Int32), X_u_outlines x (va_up (X_outlines x) p (takeR (X_outlines x p) a b).2)) else (f_MaskEdges_addToTarget p (X_u_outlines x (va_up (X_outlines x) p (takeR (X_outlines x p) a b).2))).bind fun c89 => (f_MaskEdges_renewMask c89).bind fun c93 => some ((1 : Int32), c93)) else some ((0 : Int32), X_u_outlines x (va_up (X_outlines x) p (takeR (X_outlines x p) a b).2))) := by
  obtain ⟨a0, a1⟩ := ha
  obtain ⟨b0, b1⟩ := hb
  have ip : (nI p).toInt = p := i_n (by omega)
  have gp : xin (nI p) 4 = true := xin_n (by omega) (by omega)
  have cp : (nI p).toNatClampNeg = p := nI_clamp (by omega)
  have z0 : (0 : Int64).toInt = 0 := rfl
  have z48 : (48 : Int64).toInt = 48 := rfl
  unfold f_MaskEdges_corner
  rw [if_neg (by rw [i_lt, ip, c0]; omega), hc, if_neg (by rw [i_le, ip, i_n (by omega)]; omega), hz, if_pos (by decide), if_neg (by rw [lgc_lt, l_i, z0]; omega), if_neg (by rw [lgc_gt, l_i, z48]; omega), if_neg (by rw [lgc_lt, l_i, z0]; omega)]
  have hle : lg_cmp b.toInt64 (48 : Int64) ≤ 0 := by
    have q : ¬ 0 < lg_cmp b.toInt64 (48 : Int64) := by rw [lgc_gt, l_i, z48]; omega
    rw [i_le, c0]
    rw [i_lt, c0] at q
    omega
  rw [if_pos hle, if_pos gp, cp, l_back, l_back, v_takeCorner ho, Option.bind_some]
  have e1 : X_outlines (X_u_outlines x (va_up (X_outlines x) p (takeR (X_outlines x p) a b).2)) p = (takeR (X_outlines x p) a b).2 := up_at _ _ _
  rw [e1]
  show (if b2 (takeR (X_outlines x p) a b).1 = 0 then _ else _) = _
  rw [b2_if, if_pos (b2_z _)]
  cases q : (takeR (X_outlines x p) a b).1 with
  | true =>
    rw [if_pos rfl, if_pos rfl]
    rfl
  | false =>
    rw [if_neg (by decide), if_neg (by decide)]
    rfl
theorem rel_add {x : xSt} {y : ySt} {c nk n nb nw p : Nat} (h : relN x y c nk n nb nw) (hp : p < c) {a b : Int32} (ha : c49 a) (hb : c49 b) (hm : mayG (X_outlines x p) a b = true) (hn : on (X_outlines x p) ≠ 16) (hcl : Outline_closed (X_outlines x p) = 0) : relN (X_u_outlines x (va_up (X_outlines x) p (oAdd (X_outlines x p) a b))) (yAdd y p (on (X_outlines x p)) a b) c nk n nb nw := by
  obtain ⟨⟨⟨hc, ⟨hpl, hc4, hO⟩, hT⟩, hC⟩, hE, hP, hB, hM, hW, hz⟩ := h
  have op := (hO p (by omega)).1
  have on16 : on (X_outlines x p) < 16 := by have := op.2.1; omega
  have hf0 : ∀ u v : Int, hld (X_outlines x p) u v = false := fun u v => hld_open hcl u v
  have hf1 : ∀ u v : Int, hld (oAdd (X_outlines x p) a b) u v = false := fun u v => hld_open (o := oAdd (X_outlines x p) a b) hcl u v
  refine ⟨⟨⟨hc, ⟨hpl, hc4, fun q hq => ?_⟩, fun u v hu hv => ?_⟩, fun q h1 h2 => ?_⟩, hE, hP, hB, hM, hW, hz⟩
  · show okO (va_up (X_outlines x) p (oAdd (X_outlines x p) a b) q) ∧ relP (va_up (X_outlines x) p (oAdd (X_outlines x p) a b) q) _ q
    by_cases e : q = p
    · subst e
      rw [up_at]
      exact ⟨okO_add op ha hb hcl hn hm, relP_add on16 (hO q hq).2⟩
    · rw [up_ne _ e]
      exact ⟨(hO q hq).1, relP_other on16 e (hO q hq).2⟩
  · show cs (X_target x) u v = tgt (va_up (X_outlines x) p (oAdd (X_outlines x p) a b)) u v c
    rw [tgt_same (hf0 _ _) (hf1 _ _)]
    exact hT u v hu hv
  · show Outline_closed (va_up (X_outlines x) p (oAdd (X_outlines x p) a b) q) = 0
    rw [up_ne _ (by omega)]
    exact hC q h1 h2
theorem rel_cl {x : xSt} {y : ySt} {c nk nb nw p : Nat} (h : relN x y c nk 0 nb nw) (hp : p < c) {a b : Int32} (hm : mayG (X_outlines x p) a b = true) (hf : isFst (X_outlines x p) a b = true) (hcl : Outline_closed (X_outlines x p) = 0) : ∃ x1 x2, f_MaskEdges_addToTarget p (X_u_outlines x (va_up (X_outlines x) p (oCl (X_outlines x p)))) = some x1 ∧ f_MaskEdges_renewMask x1 = some x2 ∧ relN x2 (yCl y p) c nk 0 nb nw := by
  obtain ⟨⟨⟨hc, ⟨hpl, hc4, hO⟩, hT⟩, hC⟩, hE, hP, hB, hM, hW, hz⟩ := h
  have op := (hO p (by omega)).1
  have ok1 : okO (oCl (X_outlines x p)) := okO_cl op a b hm hf
  have ea : X_outlines (X_u_outlines x (va_up (X_outlines x) p (oCl (X_outlines x p)))) p = oCl (X_outlines x p) := up_at _ _ _
  obtain ⟨t, e1, q1⟩ := v_addToTarget (st := X_u_outlines x (va_up (X_outlines x) p (oCl (X_outlines x p)))) (p := p) (by rw [ea]; exact ok1)
  rw [ea] at q1
  obtain ⟨bb, m, e2, q2⟩ := v_renewMask (st := X_u_target (X_u_outlines x (va_up (X_outlines x) p (oCl (X_outlines x p)))) t) (n := 0) hP.1 (by omega) (fun k hk => by omega)
  have hf0 : ∀ u v : Int, hld (X_outlines x p) u v = false := fun u v => hld_open hcl u v
  refine ⟨_, _, e1, e2, ⟨⟨hc, ⟨hpl, hc4, fun q hq => ?_⟩, fun u v hu hv => ?_⟩, fun q h1 h2 => ?_⟩, hE, hP, hB, q2, hW, hz⟩
  · show okO (va_up (X_outlines x) p (oCl (X_outlines x p)) q) ∧ relP (va_up (X_outlines x) p (oCl (X_outlines x p)) q) _ q
    by_cases e : q = p
    · subst e
      rw [up_at]
      exact ⟨ok1, relP_cl (hO q hq).2⟩
    · rw [up_ne _ e]
      exact ⟨(hO q hq).1, relP_clo e (hO q hq).2⟩
  · show cs t u v = tgt (va_up (X_outlines x) p (oCl (X_outlines x p))) u v c
    rw [tgt_upd (hf0 _ _) c hp, q1 u v hu hv, ← hT u v hu hv]
    rfl
  · show Outline_closed (va_up (X_outlines x) p (oCl (X_outlines x p)) q) = 0
    rw [up_ne _ (by omega)]
    exact hC q h1 h2
theorem op_corner {x : xSt} {y : ySt} (h : rel x y) (p : Int32) (a b : Int64) : ∃ v x' y', f_MaskEdges_corner p a b x = some (v, x') ∧ f_MaskEdgesModel_corner p a b y = some (v, y') ∧ rel x' y' := by
  obtain ⟨c, nk, n, nb, nw, h⟩ := h
  have h0 := h
  obtain ⟨⟨⟨hc, ⟨hpl, hc4, hO⟩, hT⟩, hC⟩, hE, ⟨hn, hn2, hQ⟩, hB, hM, hW, hz⟩ := h
  have z0 : (0 : Int64).toInt = 0 := rfl
  have z48 : (48 : Int64).toInt = 48 := rfl
  have refu : f_MaskEdges_corner p a b x = some (0, x) → f_MaskEdgesModel_corner p a b y = some (0, y) → ∃ v x' y', f_MaskEdges_corner p a b x = some (v, x') ∧ f_MaskEdgesModel_corner p a b y = some (v, y') ∧ rel x' y' := fun e1 e2 => ⟨_, _, _, e1, e2, c, nk, n, nb, nw, h0⟩
  by_cases g : 0 ≤ p.toInt ∧ p.toInt ≤ (c : Int) - 1
  · obtain ⟨k, hk, rfl⟩ := isP g
    have ip : (nI k).toInt = k := i_n (by omega)
    have gp : xin (nI k) 4 = true := xin_n (by omega) (by omega)
    have cp : (nI k).toNatClampNeg = k := nI_clamp (by omega)
    have yB : f_MaskEdgesModel_isBetween (nI k).toInt64 (0 : Int64) (((Y_polygons y) - (1 : Int32)).toInt64) = some (b2 true) := by
      rw [hpl, v_isB (nI k) z0 (nm1 (by omega)), decide_eq_true g]
    by_cases z : n = 0
    · by_cases w : (0 ≤ a.toInt ∧ a.toInt ≤ 48) ∧ (0 ≤ b.toInt ∧ b.toInt ≤ 48)
      · obtain ⟨ea, ia⟩ := l_of w.1
        obtain ⟨eb, ib⟩ := l_of w.2
        have ha : c49 a.toInt32 := by unfold c49; rw [ia]; exact w.1
        have hb : c49 b.toInt32 := by unfold c49; rw [ib]; exact w.2
        subst z
        rw [ea, eb]
        generalize a.toInt32 = a' at ha ⊢
        generalize b.toInt32 = b' at hb ⊢
        rw [v_xCorner hc hc4 hk hn (hO k (by omega)).1 ha hb, v_refCorner (hO k (by omega)).1 hk hc4 hpl (hO k (by omega)).2 hQ.1 ha hb]
        rcases takeR_c (hO k (by omega)).1 a' b' with e | ⟨e, f1, f2, f3⟩ | ⟨e, f1, f2, f3, f4⟩
        · rw [e]
          refine ⟨_, _, _, rfl, rfl, c, nk, 0, nb, nw, ?_⟩
          show relN (X_u_outlines x (va_up (X_outlines x) k (X_outlines x k))) y c nk 0 nb nw
          rw [up_same]
          exact h0
        · rw [e, f1]
          obtain ⟨x1, x2, e1, e2, r⟩ := rel_cl h0 hk f2 f1 f3
          refine ⟨1, x2, yCl y k, ?_, rfl, c, nk, 0, nb, nw, r⟩
          show (f_MaskEdges_addToTarget k (X_u_outlines x (va_up (X_outlines x) k (oCl (X_outlines x k))))).bind _ = _
          rw [e1, Option.bind_some, e2, Option.bind_some]
        · rw [e, f1]
          refine ⟨1, _, _, ?_, rfl, c, nk, 0, nb, nw, rel_add h0 hk ha hb f3 f2 f4⟩
          show (if Outline_closed (X_outlines x k) = 0 then _ else _) = _
          rw [if_pos f4]
      · refine refu ?_ ?_
        · unfold f_MaskEdges_corner
          rw [if_neg (by rw [i_lt, ip, c0]; omega), hc, if_neg (by rw [i_le, ip, i_n (by omega)]; omega), hn, z, if_pos (by decide)]
          by_cases q1 : lg_cmp a 0 < 0
          · rw [if_pos q1]
          · rw [if_neg q1]
            by_cases q2 : 0 < lg_cmp a 48
            · rw [if_pos q2]
            · rw [if_neg q2]
              by_cases q3 : lg_cmp b 0 < 0
              · rw [if_pos q3]
              · rw [if_neg q3]
                rw [lgc_lt, z0] at q1 q3
                rw [lgc_gt, z48] at q2
                have q4 : 0 < lg_cmp b 48 := by rw [lgc_gt, z48]; omega
                rw [if_neg (by rw [i_le, c0]; rw [i_lt, c0] at q4; omega)]
        · unfold f_MaskEdgesModel_corner
          rw [yB, Option.bind_some, if_neg (by decide), if_pos gp]
          by_cases q : Y_isClosed y (nI k).toNatClampNeg = 0
          · rw [if_pos q, hQ.1, z, if_neg (by decide), v_isBetween, Option.bind_some, b2_iff, v_isBetween, Option.bind_some, b2_iff, z0, z48]
            by_cases q1 : 0 ≤ a.toInt ∧ a.toInt ≤ 48
            · rw [if_pos q1, if_neg (fun q2 => w ⟨q1, q2⟩)]
            · rw [if_neg q1]
          · rw [if_neg q]
    · have n0 : ¬ nI n ≤ 0 := by rw [i_le, c0, i_n (by omega)]; omega
      refine refu ?_ ?_
      · unfold f_MaskEdges_corner
        rw [if_neg (by rw [i_lt, ip, c0]; omega), hc, if_neg (by rw [i_le, ip, i_n (by omega)]; omega), hn, if_neg n0]
      · unfold f_MaskEdgesModel_corner
        rw [yB, Option.bind_some, if_neg (by decide), if_pos gp, hQ.1]
        by_cases q : Y_isClosed y (nI k).toNatClampNeg = 0
        · rw [if_pos q, if_pos (by rw [i_lt, c0, i_n (by omega)]; omega)]
        · rw [if_neg q]
  · refine refu ?_ ?_
    · unfold f_MaskEdges_corner
      rw [hc]
      by_cases q : p < 0
      · rw [if_pos q]
      · rw [if_neg q, if_pos (by rw [i_lt, c0] at q; rw [i_le, i_n (by omega)]; omega)]
    · unfold f_MaskEdgesModel_corner
      rw [hpl, v_isB p z0 (nm1 (by omega)), Option.bind_some, b2_iff, if_neg g]
theorem op_kernel {x : xSt} {y : ySt} (h : rel x y) (a b : Int32) : ∃ v x' y', f_MaskEdges_kernel a b x = some (v, x') ∧ f_MaskEdgesModel_kernel a b y = some (v, y') ∧ rel x' y' := by
  obtain ⟨c, nk, n, nb, nw, h⟩ := h
  have h0 := h
  obtain ⟨hA, ⟨⟨k1, k2, k3, k4⟩, ⟨r1, r2, r3⟩⟩, hP, hB, hM, hW, hz⟩ := h
  unfold f_MaskEdges_kernel f_MaskEdgesModel_kernel
  rw [v_wi a (show (-20 : Int32).toInt = -20 from rfl) (show (20 : Int32).toInt = 20 from rfl), Option.bind_some, b2_iff, v_isB a (show (-20 : Int64).toInt = -20 from rfl) (show (20 : Int64).toInt = 20 from rfl), Option.bind_some, b2_iff]
  by_cases g : -20 ≤ a.toInt ∧ a.toInt ≤ 20
  · rw [if_pos g, if_pos g, v_wi b (show (0 : Int32).toInt = 0 from rfl) (show (6 : Int32).toInt = 6 from rfl), Option.bind_some, b2_iff, v_isB b (show (0 : Int64).toInt = 0 from rfl) (show (6 : Int64).toInt = 6 from rfl), Option.bind_some, b2_iff]
    by_cases d : 0 ≤ b.toInt ∧ b.toInt ≤ 6
    · rw [if_pos d, if_pos d]
      by_cases q : nk = 6
      · have ex : f_Exposure_addKernel a b (X_exposure x) = some (-4, X_exposure x) := by
          unfold f_Exposure_addKernel
          rw [k1, q, if_neg (by decide)]
        rw [ex, Option.bind_some, r1, q, if_pos (show nI 6 = 6 from rfl)]
        exact ⟨_, _, _, rfl, rfl, c, nk, n, nb, nw, h0⟩
      · have gk : xin (nI nk) 6 = true := xin_n (by omega) (by omega)
        have ck : (nI nk).toNatClampNeg = nk := nI_clamp (by omega)
        have ex : f_Exposure_addKernel a b (X_exposure x) = some (nI nk + 1 - 1, Exposure_u_kernels (Exposure_u_widths (Exposure_u_weights (X_exposure x) (upd (Exposure_weights (X_exposure x)) nk a)) (upd (Exposure_widths (X_exposure x)) nk b)) (nI nk + 1)) := by
          unfold f_Exposure_addKernel
          rw [k1, ck, if_pos (by rw [i_lt, i_n (by omega)]; show (nk : Int) < 6; omega), if_pos gk]
          show (if xin (Exposure_kernels (X_exposure x)) 6 = true then some (Exposure_kernels (X_exposure x) + 1 - 1, Exposure_u_kernels (Exposure_u_widths (Exposure_u_weights (X_exposure x) (upd (Exposure_weights (X_exposure x)) nk a)) (upd (Exposure_widths (X_exposure x)) (Exposure_kernels (X_exposure x)).toNatClampNeg b)) (Exposure_kernels (X_exposure x) + 1)) else none) = _
          rw [k1, if_pos gk, ck]
        have ey : (if xin (Y_kernels y) 6 = true then if xin (Y_kernels (Y_u_weights y (upd (Y_weights y) (Y_kernels y).toNatClampNeg a))) 6 = true then some (((Y_kernels (Y_u_kernels (Y_u_widths (Y_u_weights y (upd (Y_weights y) (Y_kernels y).toNatClampNeg a)) (upd (Y_widths (Y_u_weights y (upd (Y_weights y) (Y_kernels y).toNatClampNeg a))) (Y_kernels (Y_u_weights y (upd (Y_weights y) (Y_kernels y).toNatClampNeg a))).toNatClampNeg b)) ((Y_kernels (Y_u_widths (Y_u_weights y (upd (Y_weights y) (Y_kernels y).toNatClampNeg a)) (upd (Y_widths (Y_u_weights y (upd (Y_weights y) (Y_kernels y).toNatClampNeg a))) (Y_kernels (Y_u_weights y (upd (Y_weights y) (Y_kernels y).toNatClampNeg a))).toNatClampNeg b))) + (1 : Int32)))) - (1 : Int32)), (Y_u_kernels (Y_u_widths (Y_u_weights y (upd (Y_weights y) (Y_kernels y).toNatClampNeg a)) (upd (Y_widths (Y_u_weights y (upd (Y_weights y) (Y_kernels y).toNatClampNeg a))) (Y_kernels (Y_u_weights y (upd (Y_weights y) (Y_kernels y).toNatClampNeg a))).toNatClampNeg b)) ((Y_kernels (Y_u_widths (Y_u_weights y (upd (Y_weights y) (Y_kernels y).toNatClampNeg a)) (upd (Y_widths (Y_u_weights y (upd (Y_weights y) (Y_kernels y).toNatClampNeg a))) (Y_kernels (Y_u_weights y (upd (Y_weights y) (Y_kernels y).toNatClampNeg a))).toNatClampNeg b))) + (1 : Int32)))) else none else none) = some (nI nk + 1 - 1, Y_u_kernels (Y_u_widths (Y_u_weights y (upd (Y_weights y) nk a)) (upd (Y_widths y) nk b)) (nI nk + 1)) := by
          show (if xin (Y_kernels y) 6 = true then if xin (Y_kernels y) 6 = true then some (Y_kernels y + 1 - 1, Y_u_kernels (Y_u_widths (Y_u_weights y (upd (Y_weights y) (Y_kernels y).toNatClampNeg a)) (upd (Y_widths y) (Y_kernels y).toNatClampNeg b)) (Y_kernels y + 1)) else none else none) = _
          rw [r1, if_pos gk, if_pos gk, ck]
        rw [ex, Option.bind_some, if_neg (show ¬ Y_kernels y = 6 by rw [r1, i_eq, i_n (by omega)]; show ¬ (nk : Int) = 6; omega), ey]
        refine ⟨_, _, _, rfl, rfl, c, nk + 1, n, nb, nw, hA, ⟨⟨?_, by omega, fun k hk => ?_, k4⟩, ⟨?_, fun k hk => ?_, r3⟩⟩, hP, hB, hM, hW, hz⟩
        · exact nI_1 nk
        · show (-20 ≤ (upd (Exposure_weights (X_exposure x)) nk a k).toInt ∧ (upd (Exposure_weights (X_exposure x)) nk a k).toInt ≤ 20) ∧ (0 ≤ (upd (Exposure_widths (X_exposure x)) nk b k).toInt ∧ (upd (Exposure_widths (X_exposure x)) nk b k).toInt ≤ 6)
          unfold upd
          by_cases e : k = nk
          · rw [if_pos e, if_pos e]; exact ⟨g, d⟩
          · rw [if_neg e, if_neg e]; exact k3 k (by omega)
        · exact nI_1 nk
        · show upd (Y_weights y) nk a k = upd (Exposure_weights (X_exposure x)) nk a k ∧ upd (Y_widths y) nk b k = upd (Exposure_widths (X_exposure x)) nk b k
          unfold upd
          by_cases e : k = nk
          · rw [if_pos e, if_pos e, if_pos e, if_pos e]; exact ⟨rfl, rfl⟩
          · rw [if_neg e, if_neg e, if_neg e, if_neg e]; exact r2 k hk
    · rw [if_neg d, if_neg d]
      exact ⟨_, _, _, rfl, rfl, c, nk, n, nb, nw, h0⟩
  · rw [if_neg g, if_neg g]
    exact ⟨_, _, _, rfl, rfl, c, nk, n, nb, nw, h0⟩
