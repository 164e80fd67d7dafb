/-! alike. -/
def sA9 (P : Int32 → Int32 → Bool) (z : Int32) : Nat → Int32 → Bool
  | 0, _ => true
  | f + 1, a => P a z && sA9 P z f (a + 1)
def sAll (P : Int32 → Int32 → Bool) : Nat → Int32 → Bool
  | 0, _ => true
  | f + 1, z => sA9 P z 9 (-4) && sAll P f (z + 1)
def in9 (f : Nat) (a : Int32) : Prop := a.toInt = 5 - (f : Int)
theorem in9_s {f : Nat} (hf : f + 1 ≤ 9) {a : Int32} (h : in9 (f + 1) a) : in9 f (a + 1) := by
  unfold in9 at h ⊢
  rw [i_add (by rw [h, c1]; omega) (by rw [h, c1]; omega), h, c1]
  omega
theorem in9_9 : in9 9 (-4) := by show (-4 : Int32).toInt = 5 - ((9 : Nat) : Int); decide
theorem c5 : (5 : Int32).toInt = 5 := rfl
theorem c4 : (4 : Int32).toInt = 4 := rfl
theorem v_xsame {x : xSt} {k l : Nat} : f_MaskEdges_sameTargetAround x k l = some (b2 (sAll (fun a z => csI (X_target x) (Piece_insideX (X_pieces x k) + a).toInt (Piece_insideY (X_pieces x k) + z).toInt == csI (X_target x) (Piece_insideX (X_pieces x l) + a).toInt (Piece_insideY (X_pieces x l) + z).toInt) 9 (-4))) := by
  generalize hP : (fun a z : Int32 => csI (X_target x) (Piece_insideX (X_pieces x k) + a).toInt (Piece_insideY (X_pieces x k) + z).toInt == csI (X_target x) (Piece_insideX (X_pieces x l) + a).toInt (Piece_insideY (X_pieces x l) + z).toInt) = P
  have hPa : ∀ a z, P a z = (csI (X_target x) (Piece_insideX (X_pieces x k) + a).toInt (Piece_insideY (X_pieces x k) + z).toInt == csI (X_target x) (Piece_insideX (X_pieces x l) + a).toInt (Piece_insideY (X_pieces x l) + z).toInt) := fun a z => by rw [← hP]
  have row : ∀ (kk : Nat → Nat → Int32 → Option Int32) (z : Int32) (f : Nat) (a : Int32) (fuel : Nat), f ≤ 9 → in9 f a → f + 1 ≤ fuel → xloop (fun q => f_MaskEdges_sameTargetAround_12 x q kk) (fun _ _ _ _ => none) fuel k l z a = if sA9 P z f a = true then kk k l z else some 0 := by
    intro kk z f
    induction f with
    | zero =>
      intro a fuel h9 ha hf
      obtain ⟨fl, rfl⟩ : ∃ fl, fuel = fl + 1 := ⟨fuel - 1, by omega⟩
      show f_MaskEdges_sameTargetAround_12 x _ kk k l z a = _
      unfold f_MaskEdges_sameTargetAround_12
      unfold in9 at ha
      rw [if_pos (by rw [i_lt, c4]; omega)]
      rfl
    | succ f ih =>
      intro a fuel h9 ha hf
      obtain ⟨fl, rfl⟩ : ∃ fl, fuel = fl + 1 := ⟨fuel - 1, by omega⟩
      have ihn := ih (a + 1) fl (by omega) (in9_s h9 ha) (by omega)
      show f_MaskEdges_sameTargetAround_12 x (xloop (fun q => f_MaskEdges_sameTargetAround_12 x q kk) (fun _ _ _ _ => none) fl) kk k l z a = _
      generalize xloop (fun q => f_MaskEdges_sameTargetAround_12 x q kk) (fun _ _ _ _ => none) fl = rr at ihn
      unfold f_MaskEdges_sameTargetAround_12
      unfold in9 at ha
      rw [if_neg (by rw [i_lt, c4]; omega), v_has, Option.bind_some, v_has, Option.bind_some, ihn]
      show _ = if (P a z && sA9 P z f (a + 1)) = true then kk k l z else some 0
      rw [hPa]
      by_cases e : csI (X_target x) (Piece_insideX (X_pieces x k) + a).toInt (Piece_insideY (X_pieces x k) + z).toInt = csI (X_target x) (Piece_insideX (X_pieces x l) + a).toInt (Piece_insideY (X_pieces x l) + z).toInt
      · rw [if_pos (b2_inj.mpr e), e, beq_self_eq_true, Bool.true_and]
      · rw [if_neg (fun q => e (b2_inj.mp q)), show (csI (X_target x) (Piece_insideX (X_pieces x k) + a).toInt (Piece_insideY (X_pieces x k) + z).toInt == csI (X_target x) (Piece_insideX (X_pieces x l) + a).toInt (Piece_insideY (X_pieces x l) + z).toInt) = false from by simpa using e]
        rfl
  have all : ∀ (f : Nat) (z : Int32) (fuel : Nat), f ≤ 9 → in9 f z → f + 1 ≤ fuel → xloop (fun q => f_MaskEdges_sameTargetAround_3 x q) (fun _ _ _ => none) fuel k l z = some (b2 (sAll P f z)) := by
    intro f
    induction f with
    | zero =>
      intro z fuel h9 hz hf
      obtain ⟨fl, rfl⟩ : ∃ fl, fuel = fl + 1 := ⟨fuel - 1, by omega⟩
      show f_MaskEdges_sameTargetAround_3 x _ k l z = _
      unfold f_MaskEdges_sameTargetAround_3
      unfold in9 at hz
      rw [if_pos (by rw [i_lt, c4]; omega)]
      rfl
    | succ f ih =>
      intro z fuel h9 hz hf
      obtain ⟨fl, rfl⟩ : ∃ fl, fuel = fl + 1 := ⟨fuel - 1, by omega⟩
      have ihn := ih (z + 1) fl (by omega) (in9_s h9 hz) (by omega)
      show f_MaskEdges_sameTargetAround_3 x (xloop (fun q => f_MaskEdges_sameTargetAround_3 x q) (fun _ _ _ => none) fl) k l z = _
      generalize xloop (fun q => f_MaskEdges_sameTargetAround_3 x q) (fun _ _ _ => none) fl = rr at ihn
      unfold f_MaskEdges_sameTargetAround_3
      unfold in9 at hz
      rw [if_neg (by rw [i_lt, c4]; omega), row _ z 9 (-4) 100000 (by omega) in9_9 (by omega)]
      unfold f_MaskEdges_sameTargetAround_73
      rw [ihn]
      show _ = some (b2 (sA9 P z 9 (-4) && sAll P f (z + 1)))
      cases sA9 P z 9 (-4) with
      | true => rw [Bool.true_and]; rfl
      | false => rfl
  exact all 9 (-4) 100000 (by omega) in9_9 (by omega)
theorem v_ysame {P0 : Nat → t_Outline} {y : ySt} {c : Nat} (hO : relO P0 y c) {p q : t_Piece} {k l : Nat} (hk : k < 120) (hl : l < 120) (rp : relQ p y k) (rq : relQ q y l) (w : Int32) : f_MaskEdgesModel_alike_71 y (nI k) (nI l) w = some (b2 (sAll (fun a z => tgt P0 (bXI p w + a).toInt (bYI p w + z).toInt c == tgt P0 (bXI q w + a).toInt (bYI q w + z).toInt c) 9 (-4))) := by
  generalize hP : (fun a z : Int32 => tgt P0 (bXI p w + a).toInt (bYI p w + z).toInt c == tgt P0 (bXI q w + a).toInt (bYI q w + z).toInt c) = P
  have hPa : ∀ a z, P a z = (tgt P0 (bXI p w + a).toInt (bYI p w + z).toInt c == tgt P0 (bXI q w + a).toInt (bYI q w + z).toInt c) := fun a z => by rw [← hP]
  have row : ∀ (kk : Int32 → Int32 → Int32 → Int32 → Int32 → Option Int32) (z : Int32) (f : Nat) (a : Int32) (fuel : Nat) (s : Bool), f ≤ 9 → in9 f a → f + 1 ≤ fuel → xloop (fun r => f_MaskEdgesModel_alike_89 y r kk) (fun _ _ _ _ _ _ => none) fuel (nI k) (nI l) w (b2 s) z a = kk (nI k) (nI l) w (b2 (s && sA9 P z f a)) z := by
    intro kk z f
    induction f with
    | zero =>
      intro a fuel s h9 ha hf
      obtain ⟨fl, rfl⟩ : ∃ fl, fuel = fl + 1 := ⟨fuel - 1, by omega⟩
      show f_MaskEdgesModel_alike_89 y _ kk (nI k) (nI l) w (b2 s) z a = _
      unfold f_MaskEdgesModel_alike_89
      unfold in9 at ha
      rw [if_pos (by rw [i_le, c5]; omega)]
      show _ = kk (nI k) (nI l) w (b2 (s && true)) z
      rw [Bool.and_true]
    | succ f ih =>
      intro a fuel s h9 ha hf
      obtain ⟨fl, rfl⟩ : ∃ fl, fuel = fl + 1 := ⟨fuel - 1, by omega⟩
      have ihn := fun s => ih (a + 1) fl s (by omega) (in9_s h9 ha) (by omega)
      show f_MaskEdgesModel_alike_89 y (xloop (fun r => f_MaskEdgesModel_alike_89 y r kk) (fun _ _ _ _ _ _ => none) fl) kk (nI k) (nI l) w (b2 s) z a = _
      generalize xloop (fun r => f_MaskEdgesModel_alike_89 y r kk) (fun _ _ _ _ _ _ => none) fl = rr at ihn
      unfold f_MaskEdgesModel_alike_89 f_MaskEdgesModel_alike_152
      unfold in9 at ha
      rw [if_neg (by rw [i_le, c5]; omega), b2_if]
      rw [(v_besideX hk rp w).1, Option.bind_some, (v_besideX hk rp w).2, Option.bind_some, v_isTarget hO, Option.bind_some, (v_besideX hl rq w).1, Option.bind_some, (v_besideX hl rq w).2, Option.bind_some, v_isTarget hO, Option.bind_some]
      show _ = kk (nI k) (nI l) w (b2 (s && (P a z && sA9 P z f (a + 1)))) z
      rw [hPa]
      cases s with
      | false => rfl
      | true =>
        rw [if_pos rfl, Bool.true_and]
        by_cases e : tgt P0 (bXI p w + a).toInt (bYI p w + z).toInt c = tgt P0 (bXI q w + a).toInt (bYI q w + z).toInt c
        · have t1 := ihn true
          rw [b2_t, Bool.true_and] at t1
          rw [if_pos (b2_inj.mpr e), e, beq_self_eq_true, Bool.true_and]
          exact t1
        · rw [if_neg (fun q => e (b2_inj.mp q)), show (tgt P0 (bXI p w + a).toInt (bYI p w + z).toInt c == tgt P0 (bXI q w + a).toInt (bYI q w + z).toInt c) = false from by simpa using e]
          exact ihn false
  have all : ∀ (f : Nat) (z : Int32) (fuel : Nat) (s : Bool), f ≤ 9 → in9 f z → f + 1 ≤ fuel → xloop (fun r => f_MaskEdgesModel_alike_79 y r) (fun _ _ _ _ _ => none) fuel (nI k) (nI l) w (b2 s) z = some (b2 (s && sAll P f z)) := by
    intro f
    induction f with
    | zero =>
      intro z fuel s h9 hz hf
      obtain ⟨fl, rfl⟩ : ∃ fl, fuel = fl + 1 := ⟨fuel - 1, by omega⟩
      show f_MaskEdgesModel_alike_79 y _ (nI k) (nI l) w (b2 s) z = _
      unfold f_MaskEdgesModel_alike_79
      unfold in9 at hz
      rw [if_pos (by rw [i_le, c5]; omega), if_pos (b2_z _)]
      show _ = some (b2 (s && true))
      rw [Bool.and_true]
    | succ f ih =>
      intro z fuel s h9 hz hf
      obtain ⟨fl, rfl⟩ : ∃ fl, fuel = fl + 1 := ⟨fuel - 1, by omega⟩
      have ihn := fun s => ih (z + 1) fl s (by omega) (in9_s h9 hz) (by omega)
      show f_MaskEdgesModel_alike_79 y (xloop (fun r => f_MaskEdgesModel_alike_79 y r) (fun _ _ _ _ _ => none) fl) (nI k) (nI l) w (b2 s) z = _
      generalize xloop (fun r => f_MaskEdgesModel_alike_79 y r) (fun _ _ _ _ _ => none) fl = rr at ihn
      unfold f_MaskEdgesModel_alike_79
      unfold in9 at hz
      rw [if_neg (by rw [i_le, c5]; omega), row _ z 9 (-4) 100000 s (by omega) in9_9 (by omega)]
      unfold f_MaskEdgesModel_alike_160
      rw [ihn]
      show some (b2 ((s && sA9 P z 9 (-4)) && sAll P f (z + 1))) = some (b2 (s && (sA9 P z 9 (-4) && sAll P f (z + 1))))
      rw [Bool.and_assoc]
  have := all 9 (-4) 100000 true (by omega) in9_9 (by omega)
  rw [b2_t, Bool.true_and] at this
  exact this
theorem sA9_congr {P Q : Int32 → Int32 → Bool} (h : ∀ a z, P a z = Q a z) (z : Int32) : ∀ f a, sA9 P z f a = sA9 Q z f a := by
  intro f
  induction f with
  | zero => intro a; rfl
  | succ f ih => intro a; show (P a z && sA9 P z f (a + 1)) = (Q a z && sA9 Q z f (a + 1)); rw [h, ih]
theorem sAll_congr {P Q : Int32 → Int32 → Bool} (h : ∀ a z, P a z = Q a z) : ∀ f z, sAll P f z = sAll Q f z := by
  intro f
  induction f with
  | zero => intro z; rfl
  | succ f ih => intro z; show (sA9 P z 9 (-4) && sAll P f (z + 1)) = (sA9 Q z 9 (-4) && sAll Q f (z + 1)); rw [sA9_congr h, ih]
theorem tgt_gr {P : Nat → t_Outline} (h : ∀ p, p < 4 → okO (P p)) {x y : Int} (hg : gr x y = false) : ∀ c, c ≤ 4 → tgt P x y c = false := by
  intro c
  induction c with
  | zero => intro _; rfl
  | succ c ih =>
    intro hc
    show (tgt P x y c || hld (P c) x y) = false
    have : hld (P c) x y = false := by unfold hld; rw [par_gr (h c (by omega)) hg, Bool.and_false]
    rw [ih (by omega), this]
    rfl
theorem csI_tgt {x : xSt} {y : ySt} {c : Nat} (h : rA x y c) (a b : Int) : csI (X_target x) a b = tgt (X_outlines x) a b c := by
  obtain ⟨hc, ⟨hp, hc4, hO⟩, hT⟩ := h
  unfold csI
  cases g : gr a b with
  | false => rw [tgt_gr (fun p hp => (hO p hp).1) g c hc4]; rfl
  | true =>
    obtain ⟨g1, g2, g3, g4⟩ := gr_t g
    rw [Bool.true_and, hT _ _ (by omega) (by omega), Int.toNat_of_nonneg g1, Int.toNat_of_nonneg g3]
theorem op_alike {x : xSt} {y : ySt} (h : rel x y) (a b : Int32) : ∃ v, f_MaskEdges_alike x a b = some v ∧ f_MaskEdgesModel_alike y a b = some v := by
  obtain ⟨c, nk, n, nb, nw, h⟩ := h
  obtain ⟨hn, hn2, hQ⟩ := h.2.2.1
  unfold f_MaskEdges_alike f_MaskEdgesModel_alike
  rw [v_xPiece hn hn2, Option.bind_some, b2_iff, v_yPiece hQ.1 hn2, Option.bind_some, b2_iff, v_xPiece hn hn2, Option.bind_some, b2_iff, v_yPiece hQ.1 hn2, Option.bind_some, b2_iff]
  by_cases g : 0 ≤ a.toInt ∧ a.toInt ≤ (n : Int) - 1
  · rw [if_pos g, if_pos g]
    by_cases g' : 0 ≤ b.toInt ∧ b.toInt ≤ (n : Int) - 1
    · rw [if_pos g', if_pos g']
      obtain ⟨k, hk, rfl⟩ := isP g
      obtain ⟨l, hl, rfl⟩ := isP g'
      obtain ⟨⟨okp, okip, -⟩, rp, -⟩ := hQ.2 k hk
      obtain ⟨⟨okq, okiq, -⟩, rq, -⟩ := hQ.2 l hl
      have ap : Y_isAlongX y k = Piece_alongX (X_pieces x k) := rp.1
      have aq : Y_isAlongX y l = Piece_alongX (X_pieces x l) := rq.1
      have op' : Y_out y k = Piece_outward (X_pieces x k) := rp.2.2.2.2.2.2.1
      have oq : Y_out y l = Piece_outward (X_pieces x l) := rq.2.2.2.2.2.2.1
      simp only [in120 hk hn2, in120 hl hn2, cl120 hk hn2, cl120 hl hn2, if_true, ap, aq, op', oq]
      unfold f_Piece_isFlat f_Piece_facesLike
      by_cases z : Piece_outward (X_pieces x k) = 0
      · rw [if_pos z, if_pos z]
        exact ⟨_, rfl, rfl⟩
      · rw [if_neg z, if_neg z, Option.bind_some, if_pos (show (0 : Int32) = 0 from rfl)]
        by_cases eo : Piece_outward (X_pieces x k) = Piece_outward (X_pieces x l)
        · rw [if_pos eo, if_pos eo]
          by_cases ea : Piece_alongX (X_pieces x k) = Piece_alongX (X_pieces x l)
          · rw [if_pos ea, if_pos ea, Option.bind_some, if_neg (show ¬ (1 : Int32) = 0 by decide), v_xsame, Option.bind_some, b2_if]
            have fk : finI (X_pieces x k) = finI (X_pieces x l) := by unfold finI upP; rw [eo]
            obtain ⟨ix, iy⟩ := okip (by rw [i_eq, c0] at z; exact z)
            obtain ⟨jx, jy⟩ := okiq (by rw [i_eq, c0, eo] at z; exact z)
            have yv : (if Piece_outward (X_pieces x k) ≤ 0 then f_MaskEdgesModel_alike_71 y (nI k) (nI l) 0 else f_MaskEdgesModel_alike_71 y (nI k) (nI l) (-1)) = f_MaskEdgesModel_alike_71 y (nI k) (nI l) (finI (X_pieces x k)) := by
              unfold finI
              by_cases c : Piece_outward (X_pieces x k) ≤ 0
              · rw [if_pos c, out_le.mp c, if_neg (by decide)]
              · rw [if_neg c]
                have u : upP (X_pieces x k) = true := by
                  cases hu : upP (X_pieces x k) with
                  | true => rfl
                  | false => exact absurd (out_le.mpr hu) c
                rw [u, if_pos rfl]
            rw [yv, v_ysame h.1.1.2.1 (by omega) (by omega) rp rq, ix, iy, jx, jy, ← fk]
            refine ⟨_, ?_, rfl⟩
            rw [sAll_congr (Q := fun a z => tgt (X_outlines x) (bXI (X_pieces x k) (finI (X_pieces x k)) + a).toInt (bYI (X_pieces x k) (finI (X_pieces x k)) + z).toInt c == tgt (X_outlines x) (bXI (X_pieces x l) (finI (X_pieces x k)) + a).toInt (bYI (X_pieces x l) (finI (X_pieces x k)) + z).toInt c) (fun a z => by rw [csI_tgt h.1.1, csI_tgt h.1.1])]
            generalize sAll _ 9 (-4) = s
            cases s <;> rfl
          · rw [if_neg ea, if_neg ea]
            exact ⟨_, rfl, rfl⟩
        · rw [if_neg eo, if_neg eo]
          refine ⟨0, ?_, rfl⟩
          by_cases ea : Piece_alongX (X_pieces x k) = Piece_alongX (X_pieces x l)
          · rw [if_pos ea]; rfl
          · rw [if_neg ea]; rfl
    · rw [if_neg g', if_neg g']
      exact ⟨_, rfl, rfl⟩
  · rw [if_neg g, if_neg g]
    exact ⟨_, rfl, rfl⟩
