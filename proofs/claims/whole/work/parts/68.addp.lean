/-! cut: the reference lays the pieces of a side. -/
theorem rP_1 {o : t_Outline} {y : ySt} {p : Nat} (h : relP o y p) (m : Nat) (v : Int32) : relP o (yS1 y m v) p := h
theorem rP_2 {o : t_Outline} {y : ySt} {p : Nat} (h : relP o y p) (m : Nat) (v : Int32) : relP o (yS2 y m v) p := h
theorem rP_3 {o : t_Outline} {y : ySt} {p : Nat} (h : relP o y p) (m : Nat) (v : Int32) : relP o (yS3 y m v) p := h
theorem rP_4 {o : t_Outline} {y : ySt} {p : Nat} (h : relP o y p) (m : Nat) (v : Int32) : relP o (yS4 y m v) p := h
theorem rP_5 {o : t_Outline} {y : ySt} {p : Nat} (h : relP o y p) (m : Nat) (v : Int32) : relP o (yS5 y m v) p := h
theorem rP_6 {o : t_Outline} {y : ySt} {p : Nat} (h : relP o y p) (m : Nat) (v : Int32) : relP o (yS6 y m v) p := h
theorem rP_7 {o : t_Outline} {y : ySt} {p : Nat} (h : relP o y p) (m : Nat) (v : Int32) : relP o (yS7 y m v) p := h
theorem rP_8 {o : t_Outline} {y : ySt} {p : Nat} (h : relP o y p) (m : Nat) (v : Int32) : relP o (yS8 y m v) p := h
theorem rP_9 {o : t_Outline} {y : ySt} {p : Nat} (h : relP o y p) (m : Nat) : relP o (yS9 y m) p := h
theorem v_390 {y : ySt} {m i : Nat} (hm : m < 120) (hp : Y_pieces y = nI m) (rr : Int32 → Int32 → Int32 → Int32 → Int32 → Int32 → Int32 → Int32 → ySt → Option ySt) (a b c d e f g : Int32) (v : Int32) : f_MaskEdgesModel_addPieces_390 rr a b c d e f g (nI i) v (nI m) y = rr a b c d e f g (nI (i + 1)) (yS9 (yS8 y m v) m) := by
  have gm : xin (nI m) 120 = true := xin_n hm (by omega)
  have cm : (nI m).toNatClampNeg = m := nI_clamp (by omega)
  unfold f_MaskEdgesModel_addPieces_390
  rw [if_pos gm, cm, ya_pieces_out, hp, nI_1, nI_1]
  rfl
theorem v_bes {o : t_Outline} {k i n m : Nat} {y : ySt} (hm : m < 120) (e1 : Y_isAlongX y m = b2 (aX o k)) (e2 : Y_across y m = lnI o k) (e3 : Y_from y m = loI o k i n) (e4 : Y_to y m = hiI o k i n) (f : Int32) : f_MaskEdgesModel_besideX y (nI m) f = some (if aX o k = true then mdI o k i n else lnI o k + f) ∧ f_MaskEdgesModel_besideY y (nI m) f = some (if aX o k = true then lnI o k + f else mdI o k i n) := by
  have gm : xin (nI m) 120 = true := xin_n hm (by omega)
  have cm : (nI m).toNatClampNeg = m := nI_clamp (by omega)
  unfold f_MaskEdgesModel_besideX f_MaskEdgesModel_besideY f_MaskEdgesModel_middle mdI
  rw [if_pos gm, if_pos gm, cm, e1, e2, e3, e4, if_pos gm, if_pos gm, if_pos gm]
  simp only [b2_if, Option.bind_some]
  cases aX o k with
  | true => exact ⟨rfl, rfl⟩
  | false => exact ⟨rfl, rfl⟩
theorem v_300 {o : t_Outline} (h : okO o) {y : ySt} {k i n m p : Nat} (hp4 : p < 4) (hr : relP o y p) (hm : m < 120) (hp : Y_pieces y = nI m) (e1 : Y_isAlongX y m = b2 (aX o k)) (e2 : Y_across y m = lnI o k) (e3 : Y_from y m = loI o k i n) (e4 : Y_to y m = hiI o k i n) (rr : Int32 → Int32 → Int32 → Int32 → Int32 → Int32 → Int32 → Int32 → ySt → Option ySt) (b c d e f g : Int32) (la : Bool) : f_MaskEdgesModel_addPieces_300 rr (nI p) b c d e f g (nI i) (b2 la) (nI m) y = rr (nI p) b c d e f g (nI (i + 1)) (yS9 (yS8 (yS7 (yS6 y m (b2 la)) m 0) m (ouI o k i n)) m) := by
  have gm : xin (nI m) 120 = true := xin_n hm (by omega)
  have cm : (nI m).toNatClampNeg = m := nI_clamp (by omega)
  unfold f_MaskEdgesModel_addPieces_300
  rw [if_pos gm, cm, b2_nar, ya_pieces_isLast, hp, if_pos gm, cm]
  have q : Y_u_moves (Y_u_isLast y (upd (Y_isLast y) m (b2 la))) (upd (Y_moves (Y_u_isLast y (upd (Y_isLast y) m (b2 la)))) m 0) = yS7 (yS6 y m (b2 la)) m 0 := rfl
  rw [q]
  have hr7 : relP o (yS7 (yS6 y m (b2 la)) m 0) p := rP_7 (rP_6 hr m _) m _
  have hp7 : Y_pieces (yS7 (yS6 y m (b2 la)) m 0) = nI m := by rw [yb_pieces_7, yb_pieces_6, hp]
  have b7 := v_bes (o := o) (k := k) (i := i) (n := n) (m := m) (y := yS7 (yS6 y m (b2 la)) m 0) hm (by rw [yb_isAlongX_7, yb_isAlongX_6, e1]) (by rw [yb_across_7, yb_across_6, e2]) (by rw [yb_from_7, yb_from_6, e3]) (by rw [yb_to_7, yb_to_6, e4])
  generalize yS7 (yS6 y m (b2 la)) m 0 = S at hr7 hp7 b7 ⊢
  rw [hp7, (b7 0).1, Option.bind_some, (b7 0).2, Option.bind_some, v_isIn h hp4 hr7, Option.bind_some, (b7 (-1)).1, Option.bind_some, (b7 (-1)).2, Option.bind_some, v_isIn h hp4 hr7, Option.bind_some, v_390 hm hp7, v_390 hm hp7, v_390 hm hp7, b2_if]
  have i0 : hld o (if aX o k = true then mdI o k i n else lnI o k + 0).toInt (if aX o k = true then lnI o k + 0 else mdI o k i n).toInt = inW o k i n 0 := by
    unfold inW
    cases aX o k <;> rfl
  have i1 : hld o (if aX o k = true then mdI o k i n else lnI o k + -1).toInt (if aX o k = true then lnI o k + -1 else mdI o k i n).toInt = inW o k i n (-1) := by
    unfold inW
    cases aX o k <;> rfl
  rw [i0, i1]
  unfold ouI
  by_cases w : inW o k i n (-1) = inW o k i n 0
  · rw [if_pos (b2_inj.mpr w.symm), if_pos w]
  · rw [if_neg (fun z => w (b2_inj.mp z).symm), if_neg w]
    split <;> rfl
theorem v_138 {o : t_Outline} (h : okO o) (hc : Outline_closed o = 1) {y : ySt} {k i n m p : Nat} (hk : k < on o) (hn : 1 ≤ n) (hd : n ≤ lenN o k) (hi : i < n) (hp4 : p < 4) (hr : relP o y p) (hm : m < 120) (hp : Y_pieces y = nI m) (rr : Int32 → Int32 → Int32 → Int32 → Int32 → Int32 → Int32 → Int32 → ySt → Option ySt) : f_MaskEdgesModel_addPieces_138 rr (nI p) (nI n) (nI (16 * p + k)) (nI (lenN o k)) (b2 (aX o k)) (stI o k) (b2 (upS o k)) (nI i) y = rr (nI p) (nI n) (nI (16 * p + k)) (nI (lenN o k)) (b2 (aX o k)) (stI o k) (b2 (upS o k)) (nI (i + 1)) (yPc y m (pcQ o k i n)) := by
  obtain ⟨-, -, l1, l2, -⟩ := side_ok h hc hk
  have hn16 := h.2.1
  have gm : xin (nI m) 120 = true := xin_n hm (by omega)
  have cm : (nI m).toNatClampNeg = m := nI_clamp (by omega)
  have ga : xin (nI (16 * p + k)) 64 = true := xin_n (by omega) (by decide)
  have ca : (nI (16 * p + k)).toNatClampNeg = 16 * p + k := nI_clamp (by omega)
  have m1 : lenN o k * i ≤ 48 * 48 := Nat.mul_le_mul l2 (by omega)
  have m2 : lenN o k * (i + 1) ≤ 48 * 48 := Nat.mul_le_mul l2 (by omega)
  have d1 : nI (lenN o k) * nI i / nI n = nI (lenN o k * i / n) := by rw [pk_mul, pk_div (by omega) (by omega) (by omega)]
  have d2 : nI (lenN o k) * (nI i + 1) / nI n = nI (lenN o k * (i + 1) / n) := by rw [nI_1, pk_mul, pk_div (by omega) (by omega) (by omega)]
  obtain ⟨r1, r2, r3⟩ := hr
  have hr : relP o y p := ⟨r1, r2, r3⟩
  have x1 : ∀ v, Y_xs (yS1 y m v) (16 * p + k) = Outline_xs o k := fun v => by rw [yb_xs_1]; exact (r3 k (by omega)).1
  have x2 : ∀ v, Y_ys (yS1 y m v) (16 * p + k) = Outline_ys o k := fun v => by rw [yb_ys_1]; exact (r3 k (by omega)).2
  have k278 : ∀ (fi : Bool) (S : ySt), fi = decide (i = 0) → relP o S p → Y_pieces S = nI m → Y_isAlongX S m = b2 (aX o k) → Y_across S m = lnI o k → Y_from S m = loI o k i n → Y_to S m = hiI o k i n → f_MaskEdgesModel_addPieces_278 rr (nI p) (nI n) (nI (16 * p + k)) (nI (lenN o k)) (b2 (aX o k)) (stI o k) (b2 (upS o k)) (nI i) (b2 fi) (nI m) S = rr (nI p) (nI n) (nI (16 * p + k)) (nI (lenN o k)) (b2 (aX o k)) (stI o k) (b2 (upS o k)) (nI (i + 1)) (yS9 (yS8 (yS7 (yS6 (yS5 S m (b2 (decide (i = 0)))) m (b2 (decide (i + 1 = n)))) m 0) m (ouI o k i n)) m) := by
    intro fi S hfi s1 s2 s3 s4 s5 s6
    unfold f_MaskEdgesModel_addPieces_278
    rw [if_pos gm, cm, b2_nar, hfi]
    have q : Y_u_isFirst S (upd (Y_isFirst S) m (b2 (decide (i = 0)))) = yS5 S m (b2 (decide (i = 0))) := rfl
    rw [q]
    have s1' : relP o (yS5 S m (b2 (decide (i = 0)))) p := rP_5 s1 m _
    have t := fun la => v_300 h (k := k) (i := i) (n := n) (y := yS5 S m (b2 (decide (i = 0)))) hp4 s1' hm (by rw [yb_pieces_5, s2]) (by rw [yb_isAlongX_5, s3]) (by rw [yb_across_5, s4]) (by rw [yb_from_5, s5]) (by rw [yb_to_5, s6]) rr (nI n) (nI (16 * p + k)) (nI (lenN o k)) (b2 (aX o k)) (stI o k) (b2 (upS o k)) la
    rw [yb_pieces_5, s2]
    have t1 := t true
    have t0 := t false
    rw [b2_t] at t1
    rw [b2_f] at t0
    rw [t1, t0, n_sub hn 1 rfl]
    by_cases e : i + 1 = n
    · rw [if_pos (by rw [show n - 1 = i from by omega]), decide_eq_true e]; rfl
    · rw [if_neg (by rw [i_eq, i_n (by omega), i_n (by omega)]; omega), decide_eq_false e]; rfl
  have k259 : ∀ (S : ySt), relP o S p → Y_pieces S = nI m → Y_isAlongX S m = b2 (aX o k) → Y_across S m = lnI o k → Y_from S m = loI o k i n → f_MaskEdgesModel_addPieces_259 rr (nI p) (nI n) (nI (16 * p + k)) (nI (lenN o k)) (b2 (aX o k)) (stI o k) (b2 (upS o k)) (nI i) (hiI o k i n) (nI m) S = rr (nI p) (nI n) (nI (16 * p + k)) (nI (lenN o k)) (b2 (aX o k)) (stI o k) (b2 (upS o k)) (nI (i + 1)) (yS9 (yS8 (yS7 (yS6 (yS5 (yS4 S m (hiI o k i n)) m (b2 (decide (i = 0)))) m (b2 (decide (i + 1 = n)))) m 0) m (ouI o k i n)) m) := by
    intro S s1 s2 s3 s4 s5
    unfold f_MaskEdgesModel_addPieces_259
    rw [if_pos gm, cm]
    have q : Y_u_to S (upd (Y_to S) m (hiI o k i n)) = yS4 S m (hiI o k i n) := rfl
    rw [q, yb_pieces_4, s2]
    have t := fun fi hfi => k278 fi (yS4 S m (hiI o k i n)) hfi (rP_4 s1 m _) (by rw [yb_pieces_4, s2]) (by rw [yb_isAlongX_4, s3]) (by rw [yb_across_4, s4]) (by rw [yb_from_4, s5]) (by rw [yb_to_4]; exact pk_us)
    by_cases e : i = 0
    · rw [if_pos (by rw [e]; rfl)]
      exact t true (by rw [decide_eq_true e])
    · rw [if_neg (n_ne0 (by omega) (by omega))]
      exact t false (by rw [decide_eq_false e])
  have k232 : ∀ (S : ySt), relP o S p → Y_pieces S = nI m → Y_isAlongX S m = b2 (aX o k) → Y_across S m = lnI o k → f_MaskEdgesModel_addPieces_232 rr (nI p) (nI n) (nI (16 * p + k)) (nI (lenN o k)) (b2 (aX o k)) (stI o k) (b2 (upS o k)) (nI i) (nI (lenN o k * i / n)) (nI (lenN o k * (i + 1) / n)) (loI o k i n) (nI m) S = rr (nI p) (nI n) (nI (16 * p + k)) (nI (lenN o k)) (b2 (aX o k)) (stI o k) (b2 (upS o k)) (nI (i + 1)) (yS9 (yS8 (yS7 (yS6 (yS5 (yS4 (yS3 S m (loI o k i n)) m (hiI o k i n)) m (b2 (decide (i = 0)))) m (b2 (decide (i + 1 = n)))) m 0) m (ouI o k i n)) m) := by
    intro S s1 s2 s3 s4
    unfold f_MaskEdgesModel_addPieces_232
    rw [if_pos gm, cm]
    have q : Y_u_from S (upd (Y_from S) m (loI o k i n)) = yS3 S m (loI o k i n) := rfl
    rw [q, yb_pieces_3, s2, b2_if]
    have t := k259 (yS3 S m (loI o k i n)) (rP_3 s1 m _) (by rw [yb_pieces_3, s2]) (by rw [yb_isAlongX_3, s3]) (by rw [yb_across_3, s4]) (by rw [yb_from_3]; exact pk_us)
    rw [← t]
    unfold hiI
    split <;> rfl
  have k205 : ∀ (S : ySt), relP o S p → Y_pieces S = nI m → Y_isAlongX S m = b2 (aX o k) → f_MaskEdgesModel_addPieces_205 rr (nI p) (nI n) (nI (16 * p + k)) (nI (lenN o k)) (b2 (aX o k)) (stI o k) (b2 (upS o k)) (nI i) (nI (lenN o k * i / n)) (nI (lenN o k * (i + 1) / n)) (lnI o k) (nI m) S = rr (nI p) (nI n) (nI (16 * p + k)) (nI (lenN o k)) (b2 (aX o k)) (stI o k) (b2 (upS o k)) (nI (i + 1)) (yS9 (yS8 (yS7 (yS6 (yS5 (yS4 (yS3 (yS2 S m (lnI o k)) m (loI o k i n)) m (hiI o k i n)) m (b2 (decide (i = 0)))) m (b2 (decide (i + 1 = n)))) m 0) m (ouI o k i n)) m) := by
    intro S s1 s2 s3
    unfold f_MaskEdgesModel_addPieces_205
    rw [if_pos gm, cm]
    have q : Y_u_across S (upd (Y_across S) m (lnI o k)) = yS2 S m (lnI o k) := rfl
    rw [q, yb_pieces_2, s2, b2_if]
    have t := k232 (yS2 S m (lnI o k)) (rP_2 s1 m _) (by rw [yb_pieces_2, s2]) (by rw [yb_isAlongX_2, s3]) (by rw [yb_across_2]; exact pk_us)
    rw [← t]
    unfold loI
    split <;> rfl
  unfold f_MaskEdgesModel_addPieces_138
  have hne : ¬ nI n = 0 := n_ne0 (by omega) (by omega)
  rw [if_neg (by rw [i_le, i_n (by omega), i_n (by omega)]; omega), if_neg hne, if_neg hne, hp, if_pos gm, cm, b2_nar, if_pos ga, if_pos ga, ca, d1, d2]
  have q : Y_u_isAlongX y (upd (Y_isAlongX y) m (b2 (aX o k))) = yS1 y m (b2 (aX o k)) := rfl
  rw [q, x1, x2, yb_pieces_1, hp, b2_if]
  have t := k205 (yS1 y m (b2 (aX o k))) (rP_1 hr m _) (by rw [yb_pieces_1, hp]) (by rw [yb_isAlongX_1]; exact pk_us)
  refine Eq.trans ?_ t
  unfold lnI
  split <;> rfl

