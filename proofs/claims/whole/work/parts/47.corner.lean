/-! A corner more: polygons of both stay the same. -/
def rA (x : xSt) (y : ySt) (c : Nat) : Prop := X_outlineCount x = nI c ∧ relO (X_outlines x) y c ∧ ∀ a b : Nat, a < 48 → b < 48 → cs (X_target x) a b = tgt (X_outlines x) a b c
theorem tgt_up {P : Nat → t_Outline} {p : Nat} {o : t_Outline} {x y : Int} : ∀ c, c ≤ p → tgt (va_up P p o) x y c = tgt P x y c := by
  intro c
  induction c with
  | zero => intro _; rfl
  | succ c ih => intro h; show (tgt (va_up P p o) x y c || hld (va_up P p o c) x y) = _; rw [ih (by omega), va_up_ne _ _ (by omega)]; rfl
theorem tgt_upd {P : Nat → t_Outline} {p : Nat} {o : t_Outline} {x y : Int} (h0 : hld (P p) x y = false) : ∀ c, p < c → tgt (va_up P p o) x y c = (tgt P x y c || hld o x y) := by
  intro c
  induction c with
  | zero => intro h; omega
  | succ c ih =>
    intro h
    show (tgt (va_up P p o) x y c || hld (va_up P p o c) x y) = ((tgt P x y c || hld (P c) x y) || hld o x y)
    by_cases q : p = c
    · subst q
      rw [tgt_up p (Nat.le_refl _), va_up_self, h0]; simp
    · rw [ih (by omega), va_up_ne _ _ (by omega)]
      cases tgt P x y c <;> cases hld (P c) x y <;> cases hld o x y <;> rfl
theorem tgt_same {P : Nat → t_Outline} {p : Nat} {o : t_Outline} {x y : Int} (h0 : hld (P p) x y = false) (h1 : hld o x y = false) (c : Nat) : tgt (va_up P p o) x y c = tgt P x y c := by
  by_cases h : p < c
  · rw [tgt_upd h0 c h, h1, Bool.or_false]
  · exact tgt_up c (by omega)
/-- what the class's maySideGoTo says, with n corners there -/
def mayG (o : t_Outline) (x y : Int32) : Bool :=
  if on o = 0 then true
  else if decide (y = Outline_ys o (on o - 1)) = decide (x = Outline_xs o (on o - 1)) then false
  else if on o = 1 then true
  else decide (¬ (decide (y = Outline_ys o (on o - 1)) = decide (Outline_ys o (on o - 2) = Outline_ys o (on o - 1))))
theorem n_sub {a b : Nat} (h : b ≤ a) (k : Int32) (hk : k = nI b) : nI a - k = nI (a - b) := by rw [hk]; exact pk_sub h
theorem v_maySideGoTo {o : t_Outline} (h : okO o) (x y : Int32) : f_Outline_maySideGoTo o x y = some (b2 (mayG o x y)) := by
  have h1 := h.1
  have h2 := h.2.1
  unfold f_Outline_maySideGoTo mayG
  by_cases q0 : on o = 0
  · rw [if_pos q0, h1, q0, if_pos (show nI 0 = 0 from rfl)]; rfl
  · rw [if_neg q0, h1, if_neg (n_ne0 (by omega) (by omega)), n_sub (b := 1) (by omega) 1 rfl, if_pos (xin_n (by omega) (by decide)), nI_clamp (by omega)]
    have k50 : ∀ a b : Bool, f_Outline_maySideGoTo_50 o (b2 a) (b2 b) = some (b2 (if a = b then false else if on o = 1 then true else decide (¬ (a = decide (Outline_ys o (on o - 2) = Outline_ys o (on o - 1)))))) := by
      intro a b
      unfold f_Outline_maySideGoTo_50
      by_cases q1 : a = b
      · rw [if_pos (b2_inj.mpr q1), if_pos q1]; rfl
      · rw [if_neg (fun z => q1 (b2_inj.mp z)), if_neg q1, h1]
        by_cases q2 : on o = 1
        · rw [if_pos q2, q2, if_pos (show nI 1 = 1 from rfl)]; rfl
        · rw [if_neg q2, if_neg (by rw [i_eq, i_n (by omega), c1]; omega), n_sub (b := 2) (by omega) 2 rfl, v_isAlongX h (by omega)]
          show (if b2 a = b2 _ then _ else _) = _
          have e : nx (on o) (on o - 2) = on o - 1 := by unfold nx; rw [if_pos (by omega)]; omega
          rw [e]
          by_cases q3 : a = decide (Outline_ys o (on o - 2) = Outline_ys o (on o - 1))
          · rw [if_pos (b2_inj.mpr q3), decide_eq_false (fun z => z q3)]; rfl
          · rw [if_neg (fun z => q3 (b2_inj.mp z)), decide_eq_true q3]; rfl
    have k29 : ∀ a : Bool, f_Outline_maySideGoTo_29 o x (b2 a) = f_Outline_maySideGoTo_50 o (b2 a) (b2 (decide (x = Outline_xs o (on o - 1)))) := by
      intro a
      unfold f_Outline_maySideGoTo_29
      rw [h1, n_sub (b := 1) (by omega) 1 rfl, if_pos (xin_n (by omega) (by decide)), nI_clamp (by omega)]
      by_cases q1 : x = Outline_xs o (on o - 1)
      · rw [if_pos q1, decide_eq_true q1]; rfl
      · rw [if_neg q1, decide_eq_false q1]; rfl
    by_cases q1 : y = Outline_ys o (on o - 1)
    · rw [if_pos q1, decide_eq_true q1]
      show f_Outline_maySideGoTo_29 o x (b2 true) = _
      rw [k29, k50]
    · rw [if_neg q1, decide_eq_false q1]
      show f_Outline_maySideGoTo_29 o x (b2 false) = _
      rw [k29, k50]
/-- the outline with a corner more; closed -/
def oAdd (o : t_Outline) (x y : Int32) : t_Outline := (upd (Outline_xs o) (on o) x, upd (Outline_ys o) (on o) y, nI (on o + 1), Outline_closed o)
def oCl (o : t_Outline) : t_Outline := Outline_u_closed o 1
/-- may it be closed by its first corner told again -/
def clG (o : t_Outline) : Bool := decide (¬ (decide (Outline_ys o (on o - 1) = Outline_ys o 0) = decide (Outline_ys o 0 = Outline_ys o 1)))
def isFst (o : t_Outline) (x y : Int32) : Bool := decide (4 ≤ on o ∧ x = Outline_xs o 0 ∧ y = Outline_ys o 0)
def takeR (o : t_Outline) (x y : Int32) : Bool × t_Outline :=
  if Outline_closed o = 1 then (false, o)
  else if mayG o x y = false then (false, o)
  else if isFst o x y = true then (if clG o = true then (true, oCl o) else (false, o))
  else if on o = 16 then (false, o)
  else (true, oAdd o x y)
theorem v_takeCorner {o : t_Outline} (h : okO o) (x y : Int32) : f_Outline_takeCorner x y o = some (b2 (takeR o x y).1, (takeR o x y).2) := by
  have h1 := h.1
  have h2 := h.2.1
  unfold f_Outline_takeCorner takeR
  rcases h.2.2.1 with c | c
  · rw [c, if_pos (show (0 : Int32) = 0 from rfl), if_neg (show ¬ (0 : Int32) = 1 by decide), v_maySideGoTo h]
    show (if b2 _ = 0 then _ else _) = _
    rw [b2_if]
    cases hm : mayG o x y with
    | false => rfl
    | true =>
      rw [if_pos (show true = true from rfl), if_neg (show ¬ true = false by decide)]
      have k78 : f_Outline_takeCorner_78 x y o = some (b2 (if on o = 16 then (false, o) else (true, oAdd o x y)).1, (if on o = 16 then (false, o) else (true, oAdd o x y)).2) := by
        unfold f_Outline_takeCorner_78
        by_cases q : on o = 16
        · rw [if_pos q, h1, q, if_neg (show ¬ nI 16 < (16 : Int32) by decide)]; rfl
        · rw [if_neg q]
          have g1 : xin (Outline_corners o) 16 = true := by rw [h1]; exact xin_n (by omega) (by decide)
          have g2 : (Outline_corners o) < (16 : Int32) := by rw [h1, i_lt, i_n (by omega)]; show (_ : Int) < 16; omega
          have g3 : (Outline_corners o).toNatClampNeg = on o := by rw [h1, nI_clamp (by omega)]
          rw [if_pos g2, if_pos g1]
          rw [show Outline_corners (Outline_u_xs o (upd (Outline_xs o) (Outline_corners o).toNatClampNeg x)) = Outline_corners o from rfl, if_pos g1, g3]
          show some ((1 : Int32), (upd (Outline_xs o) (on o) x, upd (Outline_ys o) (on o) y, Outline_corners o + 1, Outline_closed o)) = _
          rw [h1, nI_1]
          rfl
      rw [h1]
      by_cases q4 : on o < 4
      · rw [if_pos (by rw [i_lt, i_n (by omega)]; show (_ : Int) < 4; omega)]
        have : isFst o x y = false := decide_eq_false (by omega)
        rw [this, if_neg (show ¬ false = true by decide)]
        exact k78
      · rw [if_neg (by rw [i_lt, i_n (by omega)]; show ¬ (_ : Int) < 4; omega), if_pos (show xin 0 16 = true by decide)]
        rw [show (0 : Int32).toNatClampNeg = 0 from rfl]
        by_cases qx : x = Outline_xs o 0
        · rw [if_pos qx, if_pos (show xin 0 16 = true by decide)]
          by_cases qy : y = Outline_ys o 0
          · rw [if_pos qy]
            have : isFst o x y = true := decide_eq_true ⟨by omega, qx, qy⟩
            rw [this, if_pos (show true = true from rfl), n_sub (b := 1) (by omega) 1 rfl, v_isAlongX h (by omega)]
            show ((f_Outline_isAlongX o 0).bind _) = _
            rw [show (0 : Int32) = nI 0 from rfl, v_isAlongX h (by omega)]
            show (if b2 _ = b2 _ then _ else _) = _
            have e1 : nx (on o) (on o - 1) = 0 := by unfold nx; rw [if_neg (by omega)]
            have e2 : nx (on o) 0 = 1 := by unfold nx; rw [if_pos (by omega)]
            rw [e1, e2]
            unfold clG f_Outline_takeCorner_70
            by_cases qq : decide (Outline_ys o (on o - 1) = Outline_ys o 0) = decide (Outline_ys o 0 = Outline_ys o 1)
            · rw [if_pos (b2_inj.mpr qq), decide_eq_false (fun z => z qq), if_neg (show ¬ false = true by decide)]
              have z0 : xz (nI 0) = true := by decide
              rw [if_pos z0, if_pos (show xz (Outline_closed (Outline_u_closed o (nI 0))) = true from z0)]
              show some ((0 : Int32), (o.1, o.2.1, o.2.2.1, (0 : Int32))) = some (0, o)
              have : o.2.2.2 = 0 := c
              rw [← this]
            · rw [if_neg (fun z => qq (b2_inj.mp z)), decide_eq_true qq, if_pos (show true = true from rfl)]
              rfl
          · rw [if_neg qy]
            have : isFst o x y = false := decide_eq_false (fun z => qy z.2.2)
            rw [this, if_neg (show ¬ false = true by decide)]
            exact k78
        · rw [if_neg qx]
          have : isFst o x y = false := decide_eq_false (fun z => qx z.2.1)
          rw [this, if_neg (show ¬ false = true by decide)]
          exact k78
  · rw [c, if_neg (show ¬ (1 : Int32) = 0 by decide), if_pos (show (1 : Int32) = 1 from rfl)]; rfl
theorem on_add (o : t_Outline) (h : on o < 16) (x y : Int32) : on (oAdd o x y) = on o + 1 := by
  show (nI (on o + 1)).toInt.toNat = _
  rw [i_n (by omega)]; omega
theorem okO_cl {o : t_Outline} (h : okO o) (x y : Int32) (hm : mayG o x y = true) (hf : isFst o x y = true) : okO (oCl o) := by
  obtain ⟨h1, h2, h3, h4, h5, h6⟩ := h
  have hf := of_decide_eq_true hf
  refine ⟨h1, h2, Or.inr rfl, h4, h5, fun _ => ⟨hf.1, ?_⟩⟩
  show sd o (on o - 1) 0
  unfold mayG at hm
  rw [if_neg (by omega)] at hm
  by_cases q : decide (y = Outline_ys o (on o - 1)) = decide (x = Outline_xs o (on o - 1))
  · rw [if_pos q] at hm; cases hm
  · rw [hf.2.1, hf.2.2] at q
    unfold sd
    by_cases qy : Outline_ys o 0 = Outline_ys o (on o - 1)
    · by_cases qx : Outline_xs o 0 = Outline_xs o (on o - 1)
      · rw [decide_eq_true qy, decide_eq_true qx] at q; exact absurd rfl q
      · exact Or.inr ⟨qy.symm, fun z => qx z.symm⟩
    · by_cases qx : Outline_xs o 0 = Outline_xs o (on o - 1)
      · exact Or.inl ⟨qx.symm, fun z => qy z.symm⟩
      · rw [decide_eq_false qy, decide_eq_false qx] at q; exact absurd rfl q
theorem okO_add {o : t_Outline} (h : okO o) {x y : Int32} (hx : c49 x) (hy : c49 y) (hc : Outline_closed o = 0) (hn : on o ≠ 16) (hm : mayG o x y = true) : okO (oAdd o x y) := by
  obtain ⟨h1, h2, h3, h4, h5, h6⟩ := h
  have hon := on_add o (by omega) x y
  refine ⟨by rw [hon]; rfl, by omega, h3, ?_, ?_, fun z => absurd (show Outline_closed o = 1 from z) (by rw [hc]; decide)⟩
  · intro k hk
    rw [hon] at hk
    show c49 (upd (Outline_xs o) (on o) x k) ∧ c49 (upd (Outline_ys o) (on o) y k)
    by_cases q : k = on o
    · subst q; rw [pk_us, pk_us]; exact ⟨hx, hy⟩
    · rw [pk_un q, pk_un q]; exact h4 k (by omega)
  · intro k hk
    rw [hon] at hk
    unfold sd
    show ((upd (Outline_xs o) (on o) x k = upd (Outline_xs o) (on o) x (k + 1) ∧ upd (Outline_ys o) (on o) y k ≠ upd (Outline_ys o) (on o) y (k + 1)) ∨ (upd (Outline_ys o) (on o) y k = upd (Outline_ys o) (on o) y (k + 1) ∧ upd (Outline_xs o) (on o) x k ≠ upd (Outline_xs o) (on o) x (k + 1)))
    rw [pk_un (show k ≠ on o by omega), pk_un (show k ≠ on o by omega)]
    by_cases q : k + 1 = on o
    · rw [q, pk_us, pk_us]
      unfold mayG at hm
      rw [if_neg (by omega)] at hm
      rw [show on o - 1 = k from by omega] at hm
      by_cases qq : decide (y = Outline_ys o k) = decide (x = Outline_xs o k)
      · rw [if_pos qq] at hm; cases hm
      · by_cases qy : y = Outline_ys o k
        · by_cases qx : x = Outline_xs o k
          · rw [decide_eq_true qy, decide_eq_true qx] at qq; exact absurd rfl qq
          · exact Or.inr ⟨qy.symm, fun z => qx z.symm⟩
        · by_cases qx : x = Outline_xs o k
          · exact Or.inl ⟨qx.symm, fun z => qy z.symm⟩
          · rw [decide_eq_false qy, decide_eq_false qx] at qq; exact absurd rfl qq
    · rw [pk_un q, pk_un q]
      exact h5 k (by omega)

theorem v_addToTarget {st : xSt} {p : Nat} (h : okO (X_outlines st p)) : ∃ t, f_MaskEdges_addToTarget p st = some (X_u_target st t) ∧ ∀ a b : Nat, a < 48 → b < 48 → cs t a b = (cs (X_target st) a b || hld (X_outlines st p) a b) := by
  unfold f_MaskEdges_addToTarget
  refine xpA (fun r => f_MaskEdges_addToTarget_2 r) (fun _ _ _ => none) (fun q j (s : xSt) => q p (nI j) s) 48 (fun j s => ∃ t, s = X_u_target st t ∧ ∀ a b : Nat, a < 48 → cs t a b = (cs (X_target st) a b || (decide (b < j) && hld (X_outlines st p) a b))) (fun o => ∃ t, o = some (X_u_target st t) ∧ ∀ a b : Nat, a < 48 → b < 48 → cs t a b = (cs (X_target st) a b || hld (X_outlines st p) a b)) ?_ ?_ 100000 0 st (by decide) (by decide) ⟨X_target st, rfl, fun a b _ => by simp⟩
  · rintro rr s ⟨t, rfl, ht⟩
    refine ⟨t, ?_, fun a b ha hb => by rw [ht a b ha, decide_eq_true hb, Bool.true_and]⟩
    show f_MaskEdges_addToTarget_2 rr p (nI 48) _ = _
    unfold f_MaskEdges_addToTarget_2
    rw [if_pos (by decide)]
  · rintro rr j s hj ⟨t, rfl, ht⟩
    right
    show ∃ s', _ ∧ f_MaskEdges_addToTarget_2 rr p (nI j) (X_u_target st t) = rr p (nI (j + 1)) s'
    unfold f_MaskEdges_addToTarget_2
    rw [if_neg (nlt48 hj)]
    refine xpA (fun r => f_MaskEdges_addToTarget_10 r (f_MaskEdges_addToTarget_40 rr)) (fun _ _ _ _ => none) (fun q i (s : xSt) => q p (nI j) (nI i) s) 48 (fun i s => ∃ t, s = X_u_target st t ∧ ∀ a b : Nat, a < 48 → cs t a b = (cs (X_target st) a b || (decide (b < j ∨ (b = j ∧ a < i)) && hld (X_outlines st p) a b))) (fun o => ∃ s', (∃ t, s' = X_u_target st t ∧ ∀ a b : Nat, a < 48 → cs t a b = (cs (X_target st) a b || (decide (b < j + 1) && hld (X_outlines st p) a b))) ∧ o = rr p (nI (j + 1)) s') ?_ ?_ 100000 0 (X_u_target st t) (by decide) (by decide) ⟨t, rfl, fun a b ha => by rw [ht a b ha, show decide (b < j ∨ (b = j ∧ a < 0)) = decide (b < j) from by rw [decide_eq_decide]; omega]⟩
    · rintro r2 s ⟨t2, rfl, h2⟩
      refine ⟨X_u_target st t2, ⟨t2, rfl, fun a b ha => ?_⟩, ?_⟩
      · rw [h2 a b ha, show decide (b < j ∨ (b = j ∧ a < 48)) = decide (b < j + 1) from by rw [decide_eq_decide]; omega]
      · show f_MaskEdges_addToTarget_10 r2 (f_MaskEdges_addToTarget_40 rr) p (nI j) (nI 48) _ = _
        unfold f_MaskEdges_addToTarget_10 f_MaskEdges_addToTarget_40
        rw [if_pos (by decide), nI_1]
    · rintro r2 i s hi ⟨t2, rfl, h2⟩
      right
      show ∃ s', _ ∧ f_MaskEdges_addToTarget_10 r2 (f_MaskEdges_addToTarget_40 rr) p (nI j) (nI i) (X_u_target st t2) = r2 p (nI j) (nI (i + 1)) s'
      unfold f_MaskEdges_addToTarget_10 f_MaskEdges_addToTarget_34
      rw [if_neg (nlt48 hi), nI_1]
      rw [show X_outlines (X_u_target st t2) p = X_outlines st p from rfl, v_holds h, i_n (by omega), i_n (by omega)]
      show ∃ s', _ ∧ (if b2 _ = 0 then _ else _) = _
      rw [b2_if]
      cases hh : hld (X_outlines st p) (i : Int) (j : Int) with
      | false =>
        refine ⟨X_u_target st t2, ⟨t2, rfl, fun a b ha => ?_⟩, rfl⟩
        rw [h2 a b ha]
        by_cases q : b = j ∧ a = i
        · rw [q.1, q.2, hh]; simp
        · rw [show decide (b < j ∨ (b = j ∧ a < i)) = decide (b < j ∨ (b = j ∧ a < i + 1)) from by rw [decide_eq_decide]; omega]
      | true =>
        obtain ⟨t3, e3, q3⟩ := v_add t2 (nI i) (nI j)
        rw [if_pos rfl]
        refine ⟨X_u_target st t3, ⟨t3, rfl, fun a b ha => ?_⟩, ?_⟩
        · rw [q3 a b, h2 a b ha, i_n (by omega), i_n (by omega)]
          have hg : gr (i : Int) (j : Int) = true := decide_eq_true (by omega)
          rw [hg, Bool.true_and]
          by_cases q : b = j ∧ a = i
          · obtain ⟨rfl, rfl⟩ := q
            rw [hh, decide_eq_true (show (a : Int) = a ∧ (b : Int) = b from ⟨rfl, rfl⟩), decide_eq_true (show b < b ∨ (b = b ∧ a < a + 1) by omega)]
            simp
          · rw [decide_eq_false (show ¬ ((i : Int) = a ∧ (j : Int) = b) by omega), Bool.or_false, show decide (b < j ∨ (b = j ∧ a < i)) = decide (b < j ∨ (b = j ∧ a < i + 1)) from by rw [decide_eq_decide]; omega]
        · show (f_CellSet_add (nI i) (nI j) t2).bind _ = _
          rw [e3]
          rfl
