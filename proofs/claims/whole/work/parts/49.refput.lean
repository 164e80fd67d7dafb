/-! The reference's mask: a cell put, a piece put. -/
def gM (m : Nat → Int32) (M : Nat → Nat → Bool) : Prop := ∀ a b : Nat, a < 48 → b < 48 → m (48 * b + a) = b2 (M a b)
theorem gM_congr {m : Nat → Int32} {M N : Nat → Nat → Bool} (h : gM m M) (e : ∀ a b, a < 48 → b < 48 → M a b = N a b) : gM m N := fun a b ha hb => by rw [h a b ha hb, e a b ha hb]
def setC (M : Nat → Nat → Bool) (A B : Int) (v : Bool) (x z : Nat) : Bool := if (x : Int) = A ∧ (z : Int) = B then v else M x z
theorem ix48 {p k : Nat} : (48 : Int32) * nI p + nI k = nI (48 * p + k) := by
  rw [show (48 : Int32) = nI 48 from rfl, pk_mul, nI_add]
theorem v_put (a b : Int32) (v : Bool) (y : ySt) : ∃ m, f_MaskEdgesModel_put a b (b2 v) y = some (Y_u_mask y m) ∧ ∀ M, gM (Y_mask y) M → gM m (setC M a.toInt b.toInt v) := by
  unfold f_MaskEdgesModel_put
  rw [v_isCell, Option.bind_some, b2_if]
  cases hg : gr a.toInt b.toInt with
  | false =>
    refine ⟨Y_mask y, rfl, fun M hM => gM_congr hM (fun x z hx hz => ?_)⟩
    have := gr_f hg
    unfold setC
    rw [if_neg (by omega)]
  | true =>
    have hb := gr_t hg
    rw [if_pos rfl]
    have e : (48 : Int32) * b + a = nI (48 * b.toInt.toNat + a.toInt.toNat) := by
      rw [i_of (a := b) (by omega), i_of (a := a) (by omega), ix48, i_n (by omega), i_n (by omega)]
      rfl
    rw [e, if_pos (xin_n (by omega) (by decide)), nI_clamp (by omega), b2_nar]
    refine ⟨_, rfl, fun M hM => fun x z hx hz => ?_⟩
    unfold setC
    by_cases q : (x : Int) = a.toInt ∧ (z : Int) = b.toInt
    · rw [if_pos q, show 48 * z + x = 48 * b.toInt.toNat + a.toInt.toNat from by omega, pk_us]
    · rw [if_neg q, pk_un (by omega)]
      exact hM x z hx hz
/-- piece k of the reference is p -/
def relQ (p : t_Piece) (y : ySt) (k : Nat) : Prop := Y_isAlongX y k = Piece_alongX p ∧ Y_across y k = Piece_line p ∧ Y_from y k = Piece_low p ∧ Y_to y k = Piece_high p ∧ Y_isFirst y k = Piece_first p ∧ Y_isLast y k = Piece_last p ∧ Y_out y k = Piece_outward p ∧ Y_moves y k = Piece_move p
def alI (p : t_Piece) (x z : Nat) : Int := if Piece_alongX p = 0 then (z : Int) else x
def acI (p : t_Piece) (x z : Nat) : Int := if Piece_alongX p = 0 then (x : Int) else z
/-- the row of cells number r of a move -/
def rowI (p : t_Piece) (r : Int) : Int := if (0 < (Piece_outward p).toInt ↔ 0 < (Piece_move p).toInt) then (Piece_line p).toInt + r else (Piece_line p).toInt - 1 - r
/-- the cells of the first j rows, and of the next one those before i -/
def regB (p : t_Piece) (j : Nat) (i : Int) (x z : Nat) : Bool := decide ((Piece_low p).toInt ≤ alI p x z ∧ alI p x z < (Piece_high p).toInt ∧ ((if (0 < (Piece_outward p).toInt ↔ 0 < (Piece_move p).toInt) then (Piece_line p).toInt ≤ acI p x z ∧ acI p x z < (Piece_line p).toInt + j else (Piece_line p).toInt - j ≤ acI p x z ∧ acI p x z < (Piece_line p).toInt) ∨ (acI p x z = rowI p j ∧ alI p x z < i)))
def regM (p : t_Piece) (j : Nat) (i : Int) (M : Nat → Nat → Bool) (x z : Nat) : Bool := if regB p j i x z then decide (0 < (Piece_move p).toInt) else M x z
theorem regM_row {p : t_Piece} {M : Nat → Nat → Bool} {j : Nat} {x z : Nat} : regM p j (Piece_high p).toInt M x z = regM p (j + 1) (Piece_low p).toInt M x z := by
  have e : regB p j (Piece_high p).toInt x z = regB p (j + 1) (Piece_low p).toInt x z := by
    unfold regB rowI
    rw [decide_eq_decide]
    generalize alI p x z = al
    generalize acI p x z = ac
    by_cases c : (0 < (Piece_outward p).toInt ↔ 0 < (Piece_move p).toInt)
    · simp only [if_pos c]; omega
    · simp only [if_neg c]; omega
  unfold regM
  rw [e]
theorem regM_cell {p : t_Piece} {M : Nat → Nat → Bool} {j i : Nat} {W : Int} (hW : W = rowI p j) (h1 : (Piece_low p).toInt ≤ i) (h2 : (i : Int) < (Piece_high p).toInt) {x z : Nat} : setC (regM p j i M) (if Piece_alongX p = 0 then W else i) (if Piece_alongX p = 0 then (i : Int) else W) (decide (0 < (Piece_move p).toInt)) x z = regM p j ((i + 1 : Nat) : Int) M x z := by
  have key : ((x : Int) = (if Piece_alongX p = 0 then W else i) ∧ (z : Int) = (if Piece_alongX p = 0 then (i : Int) else W)) ↔ (acI p x z = W ∧ alI p x z = i) := by
    unfold acI alI
    by_cases c : Piece_alongX p = 0
    · simp only [if_pos c]
    · simp only [if_neg c]; exact ⟨fun h => ⟨h.2, h.1⟩, fun h => ⟨h.2, h.1⟩⟩
  unfold setC
  by_cases q : acI p x z = W ∧ alI p x z = i
  · rw [if_pos (key.mpr q)]
    have e : regB p j ((i + 1 : Nat) : Int) x z = true := by
      unfold regB
      rw [decide_eq_true_iff, q.1, q.2]
      exact ⟨h1, h2, Or.inr ⟨hW, by omega⟩⟩
    unfold regM
    rw [e, if_pos rfl]
  · rw [if_neg (fun h => q (key.mp h))]
    have e : regB p j (i : Int) x z = regB p j ((i + 1 : Nat) : Int) x z := by
      unfold regB
      rw [decide_eq_decide, ← hW]
      generalize (if (0 < (Piece_outward p).toInt ↔ 0 < (Piece_move p).toInt) then (Piece_line p).toInt ≤ acI p x z ∧ acI p x z < (Piece_line p).toInt + j else (Piece_line p).toInt - j ≤ acI p x z ∧ acI p x z < (Piece_line p).toInt) = Z
      constructor
      · rintro ⟨a1, a2, a3 | a3⟩
        · exact ⟨a1, a2, Or.inl a3⟩
        · exact ⟨a1, a2, Or.inr ⟨a3.1, by omega⟩⟩
      · rintro ⟨a1, a2, a3 | a3⟩
        · exact ⟨a1, a2, Or.inl a3⟩
        · refine ⟨a1, a2, Or.inr ⟨a3.1, ?_⟩⟩
          have : alI p x z ≠ i := fun z => q ⟨a3.1, z⟩
          omega
    unfold regM
    rw [e]
theorem regM_0 {p : t_Piece} {M : Nat → Nat → Bool} {x z : Nat} : regM p 0 (Piece_low p).toInt M x z = M x z := by
  have e : regB p 0 (Piece_low p).toInt x z = false := by
    unfold regB
    rw [decide_eq_false_iff_not]
    rintro ⟨a1, a2, a3 | a3⟩
    · by_cases c : (0 < (Piece_outward p).toInt ↔ 0 < (Piece_move p).toInt)
      · rw [if_pos c] at a3; omega
      · rw [if_neg c] at a3; omega
    · omega
  unfold regM
  rw [e, if_neg (by decide)]
theorem v_putPiece {p : t_Piece} (hok : okP p) {y : ySt} {k : Nat} (hk : k < 120) (hr : relQ p y k) : ∃ m, f_MaskEdgesModel_putPiece (nI k) y = some (Y_u_mask y m) ∧ ∀ M, gM (Y_mask y) M → gM m (pm p M) := by
  obtain ⟨h1, h2, h3, h4, h5, h6⟩ := hok
  obtain ⟨r1, r2, r3, r4, -, -, r7, r8⟩ := hr
  have gk : xin (nI k) 120 = true := xin_n hk (by decide)
  have ck : (nI k).toNatClampNeg = k := nI_clamp (by omega)
  -- the rows' loop
  have key : ∀ mv : Nat, mv ≤ 6 → (Piece_outward p).toInt ≠ 0 ∨ mv = 0 → ∃ m, f_MaskEdgesModel_putPiece_25 (nI k) (nI mv) y = some (Y_u_mask y m) ∧ ∀ M, gM (Y_mask y) M → gM m (regM p mv (Piece_low p).toInt M) := by
    intro mv hmv ho
    unfold f_MaskEdgesModel_putPiece_25
    refine xpA (fun r => f_MaskEdgesModel_putPiece_28 r) (fun _ _ _ _ => none) (fun q j (s : ySt) => q (nI k) (nI mv) (nI j) s) mv (fun j s => ∃ m, s = Y_u_mask y m ∧ ∀ M, gM (Y_mask y) M → gM m (regM p j (Piece_low p).toInt M)) (fun o => ∃ m, o = some (Y_u_mask y m) ∧ ∀ M, gM (Y_mask y) M → gM m (regM p mv (Piece_low p).toInt M)) ?_ ?_ 100000 0 y (Nat.zero_le _) (by omega) ⟨Y_mask y, rfl, fun M hM => gM_congr hM (fun x z hx hz => ?_)⟩
    · rintro rr s ⟨m, rfl, hm⟩
      refine ⟨m, ?_, hm⟩
      show f_MaskEdgesModel_putPiece_28 rr (nI k) (nI mv) (nI mv) _ = _
      unfold f_MaskEdgesModel_putPiece_28
      rw [if_pos (Int32.le_refl _)]
    · rintro rr j s hj ⟨m, rfl, hm⟩
      right
      have ho2 : (Piece_outward p).toInt ≠ 0 := by omega
      show ∃ s', _ ∧ f_MaskEdgesModel_putPiece_28 rr (nI k) (nI mv) (nI j) (Y_u_mask y m) = rr (nI k) (nI mv) (nI (j + 1)) s'
      -- the row's loop
      have row : ∀ w : Int32, w.toInt = rowI p j → ∃ s', (∃ m2, s' = Y_u_mask y m2 ∧ ∀ M, gM (Y_mask y) M → gM m2 (regM p (j + 1) (Piece_low p).toInt M)) ∧ f_MaskEdgesModel_putPiece_106 rr (nI k) (nI mv) (nI j) w (Y_u_mask y m) = rr (nI k) (nI mv) (nI (j + 1)) s' := by
        intro w hw
        unfold f_MaskEdgesModel_putPiece_106
        have hlow : Piece_low p = nI (Piece_low p).toInt.toNat := i_of h4.1
        have hhigh : Piece_high p = nI (Piece_high p).toInt.toNat := i_of (by omega)
        rw [if_pos gk, ck, show Y_from (Y_u_mask y m) k = nI (Piece_low p).toInt.toNat from r3.trans hlow]
        refine xpA (fun r => f_MaskEdgesModel_putPiece_116 r (f_MaskEdgesModel_putPiece_183 rr)) (fun _ _ _ _ _ _ => none) (fun q i (s : ySt) => q (nI k) (nI mv) (nI j) w (nI i) s) (Piece_high p).toInt.toNat (fun i s => (Piece_low p).toInt ≤ (i : Int) ∧ ∃ m2, s = Y_u_mask y m2 ∧ ∀ M, gM (Y_mask y) M → gM m2 (regM p j i M)) (fun o => ∃ s', (∃ m2, s' = Y_u_mask y m2 ∧ ∀ M, gM (Y_mask y) M → gM m2 (regM p (j + 1) (Piece_low p).toInt M)) ∧ o = rr (nI k) (nI mv) (nI (j + 1)) s') ?_ ?_ 100000 (Piece_low p).toInt.toNat (Y_u_mask y m) (by omega) (by omega) ⟨by omega, m, rfl, fun M hM => ?_⟩
        · rintro r2' s ⟨-, m2, rfl, hm2⟩
          refine ⟨Y_u_mask y m2, ⟨m2, rfl, fun M hM => gM_congr (hm2 M hM) (fun x z hx hz => ?_)⟩, ?_⟩
          · rw [← regM_row, show (((Piece_high p).toInt.toNat : Nat) : Int) = (Piece_high p).toInt from by omega]
          · show f_MaskEdgesModel_putPiece_116 r2' (f_MaskEdgesModel_putPiece_183 rr) (nI k) (nI mv) (nI j) w (nI _) (Y_u_mask y m2) = _
            unfold f_MaskEdgesModel_putPiece_116 f_MaskEdgesModel_putPiece_183
            rw [if_pos gk, ck, show Y_to (Y_u_mask y m2) k = Piece_high p from r4, if_pos (by rw [← hhigh]; exact Int32.le_refl _), nI_1]
        · rintro r2' i s hi ⟨hli, m2, rfl, hm2⟩
          right
          show ∃ s', _ ∧ f_MaskEdgesModel_putPiece_116 r2' (f_MaskEdgesModel_putPiece_183 rr) (nI k) (nI mv) (nI j) w (nI i) (Y_u_mask y m2) = r2' (nI k) (nI mv) (nI j) w (nI (i + 1)) s'
          obtain ⟨m3, e3, q3⟩ := v_put (if Piece_alongX p = 0 then w else nI i) (if Piece_alongX p = 0 then nI i else w) (decide (0 < (Piece_move p).toInt)) (Y_u_mask y m2)
          refine ⟨Y_u_mask y m3, ⟨by omega, m3, rfl, fun M hM => gM_congr (q3 _ (hm2 M hM)) (fun x z hx hz => ?_)⟩, ?_⟩
          · have i1 : (if Piece_alongX p = 0 then w else nI i).toInt = (if Piece_alongX p = 0 then w.toInt else (i : Int)) := by
              split
              · rfl
              · exact i_n (by omega)
            have i2 : (if Piece_alongX p = 0 then nI i else w).toInt = (if Piece_alongX p = 0 then (i : Int) else w.toInt) := by
              split
              · exact i_n (by omega)
              · rfl
            rw [i1, i2]
            exact regM_cell hw hli (by omega)
          · unfold f_MaskEdgesModel_putPiece_116 f_MaskEdgesModel_putPiece_144 f_MaskEdgesModel_putPiece_160 f_MaskEdgesModel_putPiece_174
            have ea : Y_isAlongX (Y_u_mask y m2) k = Piece_alongX p := r1
            have em : Y_moves (Y_u_mask y m2) k = Piece_move p := r8
            rw [if_pos gk, ck, show Y_to (Y_u_mask y m2) k = Piece_high p from r4, if_neg (by rw [i_le, i_n (by omega)]; omega), if_pos gk, ea]
            have fin : ∀ a b : Int32, f_MaskEdgesModel_put a b (b2 (decide (0 < (Piece_move p).toInt))) (Y_u_mask y m2) = some (Y_u_mask y m3) → (if Piece_move p ≤ 0 then (f_MaskEdgesModel_put a b 0 (Y_u_mask y m2)).bind fun c174 => r2' (nI k) (nI mv) (nI j) w (nI i + 1) c174 else (f_MaskEdgesModel_put a b 1 (Y_u_mask y m2)).bind fun c174 => r2' (nI k) (nI mv) (nI j) w (nI i + 1) c174) = r2' (nI k) (nI mv) (nI j) w (nI (i + 1)) (Y_u_mask y m3) := by
              intro a b hab
              by_cases c : Piece_move p ≤ 0
              · rw [if_pos c]
                rw [i_le, c0] at c
                rw [decide_eq_false (by omega)] at hab
                rw [show (0 : Int32) = b2 false from rfl, hab, Option.bind_some, nI_1]
              · rw [if_neg c]
                rw [i_le, c0] at c
                rw [decide_eq_true (by omega)] at hab
                rw [show (1 : Int32) = b2 true from rfl, hab, Option.bind_some, show b2 true = (1 : Int32) from rfl, nI_1]
            by_cases c : Piece_alongX p = 0
            · simp only [if_pos c] at e3
              rw [if_pos c, if_pos gk, if_pos c, if_pos gk, em]
              exact fin _ _ e3
            · simp only [if_neg c] at e3
              rw [if_neg c, if_pos gk, if_neg c, if_pos gk, em]
              exact fin _ _ e3
        · rw [show (((Piece_low p).toInt.toNat : Nat) : Int) = (Piece_low p).toInt from by omega]
          exact hm M hM
      unfold f_MaskEdgesModel_putPiece_28 f_MaskEdgesModel_putPiece_56 f_MaskEdgesModel_putPiece_70 f_MaskEdgesModel_putPiece_78
      have eo : Y_out (Y_u_mask y m) k = Piece_outward p := r7
      have em : Y_moves (Y_u_mask y m) k = Piece_move p := r8
      have ec : Y_across (Y_u_mask y m) k = Piece_line p := r2
      have w1 : (Piece_line p + nI j).toInt = (Piece_line p).toInt + j := by rw [i_add (by rw [i_n (by omega)]; omega) (by rw [i_n (by omega)]; omega), i_n (by omega)]
      have w2 : (Piece_line p - 1 - nI j).toInt = (Piece_line p).toInt - 1 - j := by
        have a1 : (Piece_line p - 1).toInt = (Piece_line p).toInt - 1 := i_sub (by rw [c1]; omega) (by rw [c1]; omega)
        rw [i_sub (by rw [a1, i_n (by omega)]; omega) (by rw [a1, i_n (by omega)]; omega), a1, i_n (by omega)]
      rw [if_neg (by rw [i_le, i_n (by omega), i_n (by omega)]; omega), if_pos gk, ck, eo, if_neg (by rw [i_eq, c0]; exact ho2), if_pos gk, em, ec]
      simp only [if_pos gk]
      by_cases co : Piece_outward p ≤ 0
      · rw [if_pos co]
        rw [i_le, c0] at co
        by_cases cm : Piece_move p ≤ 0
        · rw [if_pos cm, if_pos trivial, if_neg (show ¬ (1 : Int32) = 0 by decide)]
          rw [i_le, c0] at cm
          exact row _ (by rw [w1]; unfold rowI; rw [if_pos (by omega)])
        · rw [if_neg cm, if_neg (show ¬ (0 : Int32) = 1 by decide), if_pos trivial]
          rw [i_le, c0] at cm
          exact row _ (by rw [w2]; unfold rowI; rw [if_neg (by omega)])
      · rw [if_neg co]
        rw [i_le, c0] at co
        by_cases cm : Piece_move p ≤ 0
        · rw [if_pos cm, if_neg (show ¬ (1 : Int32) = 0 by decide), if_pos trivial]
          rw [i_le, c0] at cm
          exact row _ (by rw [w2]; unfold rowI; rw [if_neg (by omega)])
        · rw [if_neg cm, if_pos trivial, if_neg (show ¬ (1 : Int32) = 0 by decide)]
          rw [i_le, c0] at cm
          exact row _ (by rw [w1]; unfold rowI; rw [if_pos (by omega)])
    · rw [regM_0]
  unfold f_MaskEdgesModel_putPiece
  rw [if_pos gk, ck, r8, if_pos gk]
  have fin : ∀ mv : Nat, (mv : Int) = (if 0 < (Piece_move p).toInt then (Piece_move p).toInt else -(Piece_move p).toInt) → ∃ m, f_MaskEdgesModel_putPiece_25 (nI k) (nI mv) y = some (Y_u_mask y m) ∧ ∀ M, gM (Y_mask y) M → gM m (pm p M) := by
    intro mv hmv
    obtain ⟨m, e1, q1⟩ := key mv (by split at hmv <;> omega) (by split at hmv <;> omega)
    refine ⟨m, e1, fun M hM => gM_congr (q1 M hM) (fun x z hx hz => ?_)⟩
    have e : regB p mv (Piece_low p).toInt x z = pmB p x z := by
      unfold regB pmB
      rw [decide_eq_decide, ← hmv]
      show _ ↔ (Piece_move p).toInt ≠ 0 ∧ (Piece_low p).toInt ≤ alI p x z ∧ alI p x z < (Piece_high p).toInt ∧ (if (0 < (Piece_outward p).toInt ↔ 0 < (Piece_move p).toInt) then (Piece_line p).toInt ≤ acI p x z ∧ acI p x z < (Piece_line p).toInt + mv else (Piece_line p).toInt - mv ≤ acI p x z ∧ acI p x z < (Piece_line p).toInt)
      generalize alI p x z = al
      generalize acI p x z = ac
      by_cases c : (0 < (Piece_outward p).toInt ↔ 0 < (Piece_move p).toInt)
      · simp only [if_pos c]; split at hmv <;> omega
      · simp only [if_neg c]; split at hmv <;> omega
    unfold regM pm
    rw [e]
  by_cases c : 0 ≤ Piece_move p
  · rw [if_pos c]
    rw [i_le, c0] at c
    rw [i_of (a := Piece_move p) (by omega)]
    have := fin (Piece_move p).toInt.toNat (by split <;> omega)
    exact this
  · rw [if_neg c, if_pos gk]
    rw [i_le, c0] at c
    have e : -Piece_move p = nI (-(Piece_move p).toInt).toNat := by
      rw [i_eq, i_neg (by omega), i_n (by omega)]; omega
    rw [e]
    exact fin _ (by split <;> omega)
