/-! The reference's corner. -/
theorem l_back (x : Int32) : x.toInt64.toInt32 = x := Int32.toInt32_toInt64 x
theorem l_eq {a b : Int32} : a.toInt64 = b.toInt64 ↔ a = b := ⟨fun h => by rw [← l_back a, h, l_back], fun h => by rw [h]⟩
theorem lgc_i {a b : Int32} : lg_cmp a.toInt64 b.toInt64 = 0 ↔ a = b := lgc0.trans l_eq
theorem l_of {v : Int64} (h : 0 ≤ v.toInt ∧ v.toInt ≤ 48) : v = v.toInt32.toInt64 ∧ v.toInt32.toInt = v.toInt := by
  have e : v.toInt32.toInt = v.toInt := by
    rw [Int64.toInt_toInt32]
    exact Int.bmod_eq_of_le (by omega) (by omega)
  exact ⟨Int64.toInt_inj.mp (by rw [l_i, e]), e⟩
def yAdd (y : ySt) (p n : Nat) (a b : Int32) : ySt := Y_u_sizes (Y_u_ys (Y_u_xs y (upd (Y_xs y) (16 * p + n) a)) (upd (Y_ys y) (16 * p + n) b)) (upd (Y_sizes y) p (nI (n + 1)))
def yCl (y : ySt) (p : Nat) : ySt := Y_u_isClosed y (upd (Y_isClosed y) p 1)
theorem v_goesAlongX {o : t_Outline} (h : okO o) {y : ySt} {p : Nat} (hp : p < 4) (hr : relP o y p) {k : Nat} (hk : 1 ≤ k) (hkn : k < on o) : f_MaskEdgesModel_goesAlongX y (nI p) (nI k) = some (b2 (decide (Outline_ys o k = Outline_ys o (k - 1)))) := by
  have h2 := h.2.1
  obtain ⟨r1, r2, r3⟩ := hr
  unfold f_MaskEdgesModel_goesAlongX
  have e : nI k + nI (on o) - 1 - (nI k + nI (on o) - 1) / nI (on o) * nI (on o) = nI (k - 1) := by
    rw [nI_add, n_sub (b := 1) (by omega) 1 rfl, pk_rem (by omega) (by omega) (by omega)]
    congr 1
    rw [show k + on o - 1 = (k - 1) + on o from by omega, Nat.add_mod_right, Nat.mod_eq_of_lt (by omega)]
  rw [if_pos (xin_n hp (by decide)), nI_clamp (show p < 2 ^ 31 by omega), r1, if_neg (n_ne0 (by omega) (by omega)), e, ix16, ix16, if_pos (xin_n (by omega) (by decide)), if_pos (xin_n (by omega) (by decide)), nI_clamp (by omega), nI_clamp (by omega), (r3 k (by omega)).2, (r3 (k - 1) (by omega)).2]
  by_cases q : Outline_ys o k = Outline_ys o (k - 1)
  · rw [if_pos q, decide_eq_true q]; rfl
  · rw [if_neg q, decide_eq_false q]; rfl
theorem dec_comm {a b : Int32} : decide (a = b) = decide (b = a) := by rw [decide_eq_decide]; exact ⟨fun h => h.symm, fun h => h.symm⟩
theorem v_refCorner {o : t_Outline} (h : okO o) {y : ySt} {p c : Nat} (hp : p < c) (hc : c ≤ 4) (hy : Y_polygons y = nI c) (hr : relP o y p) (hz : Y_pieces y = 0) {a b : Int32} (ha : c49 a) (hb : c49 b) : f_MaskEdgesModel_corner (nI p) a.toInt64 b.toInt64 y = some (b2 (takeR o a b).1, (if (takeR o a b).1 then (if isFst o a b then yCl y p else yAdd y p (on o) a b) else y)) := by
  have h1 := h.1
  have h2 := h.2.1
  obtain ⟨r1, r2, r3⟩ := id hr
  have gp : xin (nI p) 4 = true := xin_n (by omega) (by decide)
  unfold f_MaskEdgesModel_corner
  have hrng : (0 : Int64).toInt ≤ (p : Int) ∧ (p : Int) ≤ ((c - 1 : Nat) : Int) := by
    have : (0 : Int64).toInt = 0 := rfl
    omega
  rw [v_isBetween, l_i, l_i, hy, n_sub (b := 1) (by omega) 1 rfl, i_n (by omega), i_n (by omega), decide_eq_true hrng]
  rw [Option.bind_some]
  rw [b2_if, if_pos rfl, if_pos gp, nI_clamp (show p < 2 ^ 31 by omega), r2]
  unfold takeR
  rcases h.2.2.1 with cl | cl
  · rw [cl, if_pos (show (0 : Int32) = 0 from rfl), if_neg (show ¬ (0 : Int32) = 1 by decide), hz, if_neg (show ¬ (0 : Int32) < 0 by decide), v_isBetween, v_isBetween, l_i, l_i, decide_eq_true (show (0 : Int64).toInt ≤ a.toInt ∧ a.toInt ≤ (48 : Int64).toInt from ha), decide_eq_true (show (0 : Int64).toInt ≤ b.toInt ∧ b.toInt ≤ (48 : Int64).toInt from hb)]
    rw [Option.bind_some]
    rw [b2_if, if_pos rfl]
    rw [Option.bind_some]
    rw [b2_if, if_pos rfl, if_pos gp, r1]
    have k211 : isFst o a b = false → mayG o a b = true → f_MaskEdgesModel_corner_211 (nI p) a.toInt64 b.toInt64 (nI (on o)) ((16 : Int32) * nI p) y = some (b2 (if on o = 16 then (false, o) else (true, oAdd o a b)).1, (if (if on o = 16 then (false, o) else (true, oAdd o a b)).1 then yAdd y p (on o) a b else y)) := by
      intro _ _
      unfold f_MaskEdgesModel_corner_211
      by_cases q : on o = 16
      · rw [if_pos q, q, if_pos (show nI 16 = (16 : Int32) from rfl)]; rfl
      · rw [if_neg q, if_neg (by rw [i_eq, i_n (by omega)]; show ¬ (_ : Int) = 16; omega), ix16, if_pos (xin_n (by omega) (by decide)), if_pos (xin_n (by omega) (by decide)), if_pos gp, if_pos gp, l_back, l_back, nI_clamp (by omega), nI_clamp (by omega)]
        show some ((1 : Int32), Y_u_sizes (Y_u_ys (Y_u_xs y _) _) (upd (Y_sizes y) p (Y_sizes y p + 1))) = _
        rw [r1, nI_1]
        rfl
    by_cases q0 : on o = 0
    · rw [q0, if_pos (show nI 0 ≤ (0 : Int32) by decide)]
      have m1 : mayG o a b = true := by unfold mayG; rw [if_pos q0]
      have f1 : isFst o a b = false := decide_eq_false (by omega)
      rw [m1, if_neg (show ¬ true = false by decide), f1, if_neg (show ¬ false = true by decide)]
      have := k211 f1 m1
      rw [q0] at this
      simp only [if_neg (show ¬ false = true by decide)]
      rw [this]
    · rw [if_neg (by rw [i_le, i_n (by omega), c0]; omega)]
      rw [show (16 : Int32) * nI p + nI (on o) - 1 = nI (16 * p + (on o - 1)) from by rw [ix16, n_sub (b := 1) (by omega) 1 rfl]; congr 1; omega, if_pos (xin_n (by omega) (by decide)), nI_clamp (by omega), (r3 (on o - 1) (by omega)).1]
      have k156 : mayG o a b = true → f_MaskEdgesModel_corner_156 (nI p) a.toInt64 b.toInt64 (nI (on o)) ((16 : Int32) * nI p) (b2 (decide (Outline_ys o (on o - 1) = b))) y = some (b2 (if isFst o a b = true then (if clG o = true then (true, oCl o) else (false, o)) else if on o = 16 then (false, o) else (true, oAdd o a b)).1, (if (if isFst o a b = true then (if clG o = true then (true, oCl o) else (false, o)) else if on o = 16 then (false, o) else (true, oAdd o a b)).1 then (if isFst o a b then yCl y p else yAdd y p (on o) a b) else y)) := by
        intro m1
        unfold f_MaskEdgesModel_corner_156
        have i0 : (16 : Int32) * nI p = nI (16 * p + 0) := by rw [← ix16, show nI 0 = 0 from rfl, add0]
        by_cases q4 : on o < 4
        · have f1 : isFst o a b = false := decide_eq_false (by omega)
          rw [if_pos (by rw [i_le, i_n (by omega)]; show (_ : Int) ≤ 3; omega), k211 f1 m1, f1]
          rfl
        · rw [if_neg (by rw [i_le, i_n (by omega)]; show ¬ (_ : Int) ≤ 3; omega)]
          have gx : xin ((16 : Int32) * nI p) 64 = true := by rw [i0]; exact xin_n (by omega) (by decide)
          have cx : ((16 : Int32) * nI p).toNatClampNeg = 16 * p + 0 := by rw [i0]; exact nI_clamp (by omega)
          rw [if_pos gx, if_pos gx, cx, (r3 0 (by omega)).1, (r3 0 (by omega)).2]
          by_cases qx : Outline_xs o 0 = a
          · rw [if_pos (lgc_i.mpr qx)]
            by_cases qy : Outline_ys o 0 = b
            · rw [if_pos (lgc_i.mpr qy)]
              have f1 : isFst o a b = true := decide_eq_true ⟨by omega, qx.symm, qy.symm⟩
              rw [f1, show (1 : Int32) = nI 1 from rfl, v_goesAlongX h (by omega) hr (Nat.le_refl 1) (by omega)]
              show (if b2 _ = b2 _ then _ else _) = _
              unfold clG
              rw [← qy, dec_comm (a := Outline_ys o 1)]
              by_cases qq : decide (Outline_ys o (on o - 1) = Outline_ys o 0) = decide (Outline_ys o (1 - 1) = Outline_ys o 1)
              · rw [if_pos (b2_inj.mpr qq), decide_eq_false (fun z => z qq)]; rfl
              · rw [if_neg (fun z => qq (b2_inj.mp z)), decide_eq_true qq, if_pos gp, nI_clamp (show p < 2 ^ 31 by omega)]
                rfl
            · rw [if_neg (fun z => qy (lgc_i.mp z))]
              have f1 : isFst o a b = false := decide_eq_false (fun z => qy z.2.2.symm)
              rw [k211 f1 m1, f1]; rfl
          · rw [if_neg (fun z => qx (lgc_i.mp z))]
            have f1 : isFst o a b = false := decide_eq_false (fun z => qx z.2.1.symm)
            rw [k211 f1 m1, f1]; rfl
      have k99 : f_MaskEdgesModel_corner_99 (nI p) a.toInt64 b.toInt64 (nI (on o)) ((16 : Int32) * nI p) (b2 (decide (Outline_xs o (on o - 1) = a))) y = some (b2 (if mayG o a b = false then (false, o) else if isFst o a b = true then (if clG o = true then (true, oCl o) else (false, o)) else if on o = 16 then (false, o) else (true, oAdd o a b)).1, (if (if mayG o a b = false then (false, o) else if isFst o a b = true then (if clG o = true then (true, oCl o) else (false, o)) else if on o = 16 then (false, o) else (true, oAdd o a b)).1 then (if isFst o a b then yCl y p else yAdd y p (on o) a b) else y)) := by
        unfold f_MaskEdgesModel_corner_99
        rw [show (16 : Int32) * nI p + nI (on o) - 1 = nI (16 * p + (on o - 1)) from by rw [ix16, n_sub (b := 1) (by omega) 1 rfl]; congr 1; omega, if_pos (xin_n (by omega) (by decide)), nI_clamp (by omega), (r3 (on o - 1) (by omega)).2]
        have k125 : f_MaskEdgesModel_corner_125 (nI p) a.toInt64 b.toInt64 (nI (on o)) ((16 : Int32) * nI p) (b2 (decide (Outline_xs o (on o - 1) = a))) (b2 (decide (Outline_ys o (on o - 1) = b))) y = some (b2 (if mayG o a b = false then (false, o) else if isFst o a b = true then (if clG o = true then (true, oCl o) else (false, o)) else if on o = 16 then (false, o) else (true, oAdd o a b)).1, (if (if mayG o a b = false then (false, o) else if isFst o a b = true then (if clG o = true then (true, oCl o) else (false, o)) else if on o = 16 then (false, o) else (true, oAdd o a b)).1 then (if isFst o a b then yCl y p else yAdd y p (on o) a b) else y)) := by
          unfold f_MaskEdgesModel_corner_125
          by_cases q1 : decide (Outline_xs o (on o - 1) = a) = decide (Outline_ys o (on o - 1) = b)
          · have m1 : mayG o a b = false := by unfold mayG; rw [if_neg q0, if_pos (by rw [dec_comm (a := b), dec_comm (a := a)]; exact q1.symm)]
            rw [if_pos (b2_inj.mpr q1), m1]; rfl
          · rw [if_neg (fun z => q1 (b2_inj.mp z))]
            by_cases q2 : on o = 1
            · have m1 : mayG o a b = true := by unfold mayG; rw [if_neg q0, if_neg (by rw [dec_comm (a := b), dec_comm (a := a)]; exact fun z => q1 z.symm), if_pos q2]
              rw [if_pos (by rw [i_le, i_n (by omega), c1]; omega), k156 m1, m1]; rfl
            · rw [if_neg (by rw [i_le, i_n (by omega), c1]; omega), n_sub (b := 1) (by omega) 1 rfl, v_goesAlongX h (by omega) hr (by omega) (by omega)]
              show (if b2 _ = b2 _ then _ else _) = _
              by_cases q3 : decide (Outline_ys o (on o - 1) = b) = decide (Outline_ys o (on o - 1) = Outline_ys o (on o - 1 - 1))
              · have m1 : mayG o a b = false := by
                  unfold mayG
                  rw [if_neg q0, if_neg (by rw [dec_comm (a := b), dec_comm (a := a)]; exact fun z => q1 z.symm), if_neg q2, decide_eq_false]
                  intro z
                  apply z
                  rw [dec_comm (a := b), q3, dec_comm, show on o - 1 - 1 = on o - 2 from by omega]
                rw [if_pos (b2_inj.mpr q3), m1]; rfl
              · have m1 : mayG o a b = true := by
                  unfold mayG
                  rw [if_neg q0, if_neg (by rw [dec_comm (a := b), dec_comm (a := a)]; exact fun z => q1 z.symm), if_neg q2, decide_eq_true]
                  intro z
                  apply q3
                  rw [dec_comm, z, dec_comm, show on o - 1 - 1 = on o - 2 from by omega]
                rw [if_neg (fun z => q3 (b2_inj.mp z)), k156 m1, m1]; rfl
        by_cases qy : Outline_ys o (on o - 1) = b
        · rw [if_pos (lgc_i.mpr qy)]
          rw [decide_eq_true qy] at k125
          exact k125
        · rw [if_neg (fun z => qy (lgc_i.mp z))]
          rw [decide_eq_false qy] at k125
          exact k125
      by_cases qx : Outline_xs o (on o - 1) = a
      · rw [if_pos (lgc_i.mpr qx)]
        rw [decide_eq_true qx] at k99
        exact k99
      · rw [if_neg (fun z => qx (lgc_i.mp z))]
        rw [decide_eq_false qx] at k99
        exact k99
  · rw [cl, if_neg (show ¬ (1 : Int32) = 0 by decide), if_pos (show (1 : Int32) = 1 from rfl)]
    rfl

/-- what is left of the relation where a polygon has changed -/
theorem relP_other {P : Nat → t_Outline} {y : ySt} {p q : Nat} {n : Nat} {a b : Int32} (hn : n < 16) (hq : q ≠ p) (h : relP (P q) y q) : relP (P q) (yAdd y p n a b) q := by
  obtain ⟨h1, h2, h3⟩ := h
  refine ⟨?_, h2, fun k hk => ?_⟩
  · show upd (Y_sizes y) p (nI (n + 1)) q = _
    rw [pk_un hq]; exact h1
  · show upd (Y_xs y) (16 * p + n) a (16 * q + k) = _ ∧ upd (Y_ys y) (16 * p + n) b (16 * q + k) = _
    rw [pk_un (by omega), pk_un (by omega)]
    exact h3 k hk
theorem relP_add {o : t_Outline} {y : ySt} {p : Nat} {a b : Int32} (hn : on o < 16) (h : relP o y p) : relP (oAdd o a b) (yAdd y p (on o) a b) p := by
  obtain ⟨h1, h2, h3⟩ := h
  refine ⟨?_, h2, fun k hk => ?_⟩
  · show upd (Y_sizes y) p (nI (on o + 1)) p = _
    rw [pk_us, on_add o hn]
  · show upd (Y_xs y) (16 * p + on o) a (16 * p + k) = upd (Outline_xs o) (on o) a k ∧ upd (Y_ys y) (16 * p + on o) b (16 * p + k) = upd (Outline_ys o) (on o) b k
    by_cases q : k = on o
    · rw [q, pk_us, pk_us, pk_us, pk_us]; exact ⟨rfl, rfl⟩
    · rw [pk_un (f := Y_xs y) (by omega), pk_un (f := Y_ys y) (by omega), pk_un q, pk_un q]; exact h3 k hk
theorem relP_cl {o : t_Outline} {y : ySt} {p : Nat} (h : relP o y p) : relP (oCl o) (yCl y p) p := by
  obtain ⟨h1, h2, h3⟩ := h
  refine ⟨h1, ?_, h3⟩
  show upd (Y_isClosed y) p 1 p = 1
  rw [pk_us]
theorem relP_clo {P : Nat → t_Outline} {y : ySt} {p q : Nat} (hq : q ≠ p) (h : relP (P q) y q) : relP (P q) (yCl y p) q := by
  obtain ⟨h1, h2, h3⟩ := h
  refine ⟨h1, ?_, h3⟩
  show upd (Y_isClosed y) p 1 q = _
  rw [pk_un hq]; exact h2
