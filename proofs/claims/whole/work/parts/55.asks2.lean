/-! is, prints, alike. -/
theorem op_is {x : xSt} {y : ySt} (h : rel x y) (a b w : Int32) : ∃ v y', f_MaskEdges_is x a b w = some v ∧ f_MaskEdgesModel_is a b w y = some (v, y') ∧ rel x y' := by
  obtain ⟨c, nk, n, nb, nw, h⟩ := h
  obtain ⟨hE, rE⟩ := h.2.1
  obtain ⟨⟨hc, hO, hT⟩, hC⟩ := h.1
  have d100 : 1 ≤ (100 : Int32).toInt ∧ (100 : Int32).toInt ≤ 1000 := by decide
  unfold f_MaskEdges_is f_MaskEdgesModel_is
  rw [v_isCell, Option.bind_some, b2_if, v_isB w (show (0 : Int64).toInt = 0 from rfl) (show (2 : Int64).toInt = 2 from rfl), Option.bind_some, b2_iff, v_has, Option.bind_some, v_has, Option.bind_some, v_printsAt hE _ _ _ _ d100, Option.bind_some, if_pos (b2_z _), if_pos (b2_z _), if_pos (b2_z _)]
  by_cases g : gr a.toInt b.toInt = true
  · rw [if_pos g]
    obtain ⟨g1, g2, g3, g4⟩ := gr_t g
    by_cases w0 : w = 0
    · subst w0
      rw [if_pos rfl, if_pos (by decide), if_pos rfl, v_isTarget hO, Option.bind_some, if_pos (b2_z _)]
      refine ⟨_, _, rfl, ?_, c, nk, n, nb, nw, h⟩
      rw [show csI (X_target x) a.toInt b.toInt = tgt (X_outlines x) a.toInt b.toInt c from ?_]
      unfold csI
      rw [g, Bool.true_and, hT _ _ (by omega) (by omega), Int.toNat_of_nonneg g1, Int.toNat_of_nonneg g3]
    · rw [if_neg w0]
      obtain ⟨m, t, e, gm, gs, hr⟩ := v_make h
      by_cases w1 : w = 1
      · subst w1
        rw [if_pos rfl, if_pos (by decide), if_neg (by decide), e, Option.bind_some, if_pos rfl]
        have ia : a = nI a.toInt.toNat := i_of g1
        have ib : b = nI b.toInt.toNat := i_of g3
        have e48 : (48 : Int32) * b + a = nI (48 * b.toInt.toNat + a.toInt.toNat) := by rw [ia, ib, ix48, ← ia, ← ib]
        have em : Y_mask (Y_u_sums (Y_u_mask y m) t) = m := rfl
        rw [e48, if_pos (xin_n (by omega) (by omega)), em, nI_clamp (by omega), gm _ _ (by omega) (by omega), if_pos (b2_z _)]
        refine ⟨_, _, rfl, ?_, c, nk, n, nb, nw, hr⟩
        unfold csI
        rw [g, Bool.true_and]
      · rw [if_neg w1]
        by_cases w2 : w = 2
        · subst w2
          rw [if_pos rfl, if_pos (by decide), if_neg (by decide), e, Option.bind_some, if_neg (by decide), v_doesPrint hE hr.2.1.2 (M := cs (X_mask x)) gs _ _ _ d100, Option.bind_some, if_pos (b2_z _)]
          exact ⟨_, _, rfl, rfl, c, nk, n, nb, nw, hr⟩
        · rw [if_neg w2, if_neg (by
            intro q
            rw [i_eq] at w0 w1 w2
            have e0 : (0 : Int32).toInt = 0 := rfl
            have e1 : (1 : Int32).toInt = 1 := rfl
            have e2 : (2 : Int32).toInt = 2 := rfl
            omega)]
          exact ⟨_, _, rfl, rfl, c, nk, n, nb, nw, h⟩
  · rw [if_neg g]
    rw [Bool.not_eq_true] at g
    have q1 : csI (X_target x) a.toInt b.toInt = false := by unfold csI; rw [g]; rfl
    have q2 : csI (X_mask x) a.toInt b.toInt = false := by unfold csI; rw [g]; rfl
    have q3 : ∀ d, pr (X_exposure x) nk (cs (X_mask x)) a.toInt b.toInt d = false := fun d => by unfold pr; rw [g]; rfl
    rw [q1, q2, q3]
    refine ⟨0, y, ?_, rfl, c, nk, n, nb, nw, h⟩
    show (if w = 0 then some (0 : Int32) else if w = 1 then some 0 else if w = 2 then some 0 else some 0) = some 0
    split
    · rfl
    · split
      · rfl
      · split <;> rfl
/-- does some cell of the rows from j on print? -/
def pAny (P : Nat → Nat → Bool) (l r : Nat) : Nat → Nat → Bool
  | 0, _ => false
  | f + 1, z => pRow P z (r - l) l || pAny P l r f (z + 1)
where
  pRow (P : Nat → Nat → Bool) (z : Nat) : Nat → Nat → Bool
  | 0, _ => false
  | f + 1, a => P a z || pRow P z f (a + 1)
theorem v_xprints {x : xSt} {nk k : Nat} (hE : okE (X_exposure x) nk) (hb : okBx (X_bars x k)) {d : Int32} (hd : 1 ≤ d.toInt ∧ d.toInt ≤ 1000) {l r t u : Nat} (el : Box_left (X_bars x k) = nI l) (er : Box_right (X_bars x k) = nI r) (et : Box_top (X_bars x k) = nI t) (eu : Box_bottom (X_bars x k) = nI u) (h1 : l ≤ r) (h2 : r ≤ 48) (h3 : t ≤ u) (h4 : u ≤ 48) : (xloop (fun q => f_MaskEdges_prints_38 x q) (fun _ _ _ => none) 100000) d k (nI t) = some (b2 (pAny (fun a z => pr (X_exposure x) nk (cs (X_mask x)) a z d.toInt) l r (u - t) t)) := by
  have row : ∀ (kk : Int32 → Nat → Int32 → Option Int32) (z f a fuel : Nat), f + a = r → z < 48 → f + 1 ≤ fuel → xloop (fun q => f_MaskEdges_prints_53 x q kk) (fun _ _ _ _ => none) fuel d k (nI z) (nI a) = if pAny.pRow (fun a z => pr (X_exposure x) nk (cs (X_mask x)) a z d.toInt) z f a = true then some 1 else kk d k (nI z) := by
    intro kk z f
    induction f with
    | zero =>
      intro a fuel ha hz hf
      obtain ⟨fl, rfl⟩ : ∃ fl, fuel = fl + 1 := ⟨fuel - 1, by omega⟩
      show f_MaskEdges_prints_53 x _ kk d k (nI z) (nI a) = _
      unfold f_MaskEdges_prints_53
      rw [er, if_pos (by rw [i_le, i_n (by omega), i_n (by omega)]; omega)]
      rfl
    | succ f ih =>
      intro a fuel ha hz hf
      obtain ⟨fl, rfl⟩ : ∃ fl, fuel = fl + 1 := ⟨fuel - 1, by omega⟩
      have ihn := ih (a + 1) fl (by omega) hz (by omega)
      show f_MaskEdges_prints_53 x (xloop (fun q => f_MaskEdges_prints_53 x q kk) (fun _ _ _ _ => none) fl) kk d k (nI z) (nI a) = _
      generalize xloop (fun q => f_MaskEdges_prints_53 x q kk) (fun _ _ _ _ => none) fl = rr at ihn
      unfold f_MaskEdges_prints_53
      rw [er, if_neg (by rw [i_le, i_n (by omega), i_n (by omega)]; omega), v_printsAt hE _ _ _ _ hd, Option.bind_some, b2_if, i_n (by omega), i_n (by omega), nI_1, ihn]
      show _ = if (pr (X_exposure x) nk (cs (X_mask x)) a z d.toInt || pAny.pRow (fun a z => pr (X_exposure x) nk (cs (X_mask x)) a z d.toInt) z f (a + 1)) = true then some 1 else kk d k (nI z)
      cases pr (X_exposure x) nk (cs (X_mask x)) a z d.toInt with
      | true => rfl
      | false => rw [Bool.false_or]; rfl
  have all : ∀ f z fuel : Nat, f + z = u → f + 1 ≤ fuel → xloop (fun q => f_MaskEdges_prints_38 x q) (fun _ _ _ => none) fuel d k (nI z) = some (b2 (pAny (fun a z => pr (X_exposure x) nk (cs (X_mask x)) a z d.toInt) l r f z)) := by
    intro f
    induction f with
    | zero =>
      intro z fuel hz hf
      obtain ⟨fl, rfl⟩ : ∃ fl, fuel = fl + 1 := ⟨fuel - 1, by omega⟩
      show f_MaskEdges_prints_38 x _ d k (nI z) = _
      unfold f_MaskEdges_prints_38
      rw [eu, if_pos (by rw [i_le, i_n (by omega), i_n (by omega)]; omega)]
      rfl
    | succ f ih =>
      intro z fuel hz hf
      obtain ⟨fl, rfl⟩ : ∃ fl, fuel = fl + 1 := ⟨fuel - 1, by omega⟩
      have ihn := ih (z + 1) fl (by omega) (by omega)
      show f_MaskEdges_prints_38 x (xloop (fun q => f_MaskEdges_prints_38 x q) (fun _ _ _ => none) fl) d k (nI z) = _
      generalize xloop (fun q => f_MaskEdges_prints_38 x q) (fun _ _ _ => none) fl = rr at ihn
      unfold f_MaskEdges_prints_38
      rw [eu, if_neg (by rw [i_le, i_n (by omega), i_n (by omega)]; omega), el, row _ z (r - l) l 100000 (by omega) (by omega) (by omega)]
      unfold f_MaskEdges_prints_89
      rw [nI_1, ihn]
      show _ = some (b2 (pAny.pRow (fun a z => pr (X_exposure x) nk (cs (X_mask x)) a z d.toInt) z (r - l) l || pAny (fun a z => pr (X_exposure x) nk (cs (X_mask x)) a z d.toInt) l r f (z + 1)))
      cases pAny.pRow (fun a z => pr (X_exposure x) nk (cs (X_mask x)) a z d.toInt) z (r - l) l with
      | true => rfl
      | false => rw [Bool.false_or]; rfl
  exact all (u - t) t 100000 (by omega) (by omega)
