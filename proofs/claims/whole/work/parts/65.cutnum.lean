/-! cut: the sides' lengths and parts. -/
def aX (o : t_Outline) (k : Nat) : Bool := decide (Outline_ys o k = Outline_ys o (nx (on o) k))
def stI (o : t_Outline) (k : Nat) : Int32 := if aX o k = true then Outline_xs o k else Outline_ys o k
def enI (o : t_Outline) (k : Nat) : Int32 := if aX o k = true then Outline_xs o (nx (on o) k) else Outline_ys o (nx (on o) k)
def lenN (o : t_Outline) (k : Nat) : Nat := ((enI o k).toInt - (stI o k).toInt).natAbs
def prt (o : t_Outline) (L k : Nat) : Nat := (lenN o k + L - 1) / L
theorem side_ok {o : t_Outline} (h : okO o) (hc : Outline_closed o = 1) {k : Nat} (hk : k < on o) : c49 (stI o k) ∧ c49 (enI o k) ∧ 1 ≤ lenN o k ∧ lenN o k ≤ 48 ∧ (aX o k = true → Outline_ys o k = Outline_ys o (nx (on o) k)) ∧ (aX o k = false → Outline_xs o k = Outline_xs o (nx (on o) k)) := by
  have hs := okO_sd h hc hk
  have c1' := h.2.2.2.1 k hk
  have c2' := h.2.2.2.1 _ (nx_lt hk)
  unfold sd at hs
  unfold lenN stI enI aX c49 at *
  by_cases q : Outline_ys o k = Outline_ys o (nx (on o) k)
  · rw [decide_eq_true q, if_pos rfl, if_pos rfl]
    have hx : Outline_xs o k ≠ Outline_xs o (nx (on o) k) := by
      rcases hs with r | r
      · exact absurd q r.2
      · exact r.2
    rw [Ne, i_eq] at hx
    refine ⟨c1'.1, c2'.1, by omega, by omega, fun _ => q, fun w => by cases w⟩
  · rw [decide_eq_false q, if_neg (by decide), if_neg (by decide)]
    have hx : Outline_xs o k = Outline_xs o (nx (on o) k) := by
      rcases hs with r | r
      · exact r.1
      · exact absurd r.1 q
    rw [i_eq] at q
    refine ⟨c1'.2, c2'.2, by omega, by omega, fun w => (by cases w), fun _ => hx⟩
theorem prt_ok {o : t_Outline} {L k : Nat} (h1 : 1 ≤ lenN o k) (h2 : lenN o k ≤ 48) (hL : 1 ≤ L) : 1 ≤ prt o L k ∧ prt o L k ≤ lenN o k := by
  unfold prt
  constructor
  · rw [Nat.le_div_iff_mul_le (by omega)]; omega
  · apply Nat.div_le_of_le_mul
    have : L * lenN o k = (L - 1) * lenN o k + lenN o k := by
      conv => lhs; rw [show L = (L - 1) + 1 from by omega]
      rw [Nat.add_mul, Nat.one_mul]
    have : L - 1 ≤ (L - 1) * lenN o k := Nat.le_mul_of_pos_right _ (by omega)
    omega
theorem absD {s e : Int32} (hs : c49 s) (he : c49 e) : (if 0 ≤ (e - s) then (e - s) else 0 - (e - s)) = nI (e.toInt - s.toInt).natAbs := by
  obtain ⟨s1, s2⟩ := hs
  obtain ⟨e1, e2⟩ := he
  have d : (e - s).toInt = e.toInt - s.toInt := i_sub (by omega) (by omega)
  by_cases q : 0 ≤ e - s
  · rw [if_pos q, i_eq, d, i_n (by omega)]
    rw [i_le, c0, d] at q
    omega
  · rw [if_neg q, i_eq, i_sub (by rw [d, c0]; omega) (by rw [d, c0]; omega), d, c0, i_n (by omega)]
    rw [i_le, c0, d] at q
    omega
theorem prt_I {o : t_Outline} {L k : Nat} (h2 : lenN o k ≤ 48) (hL : 1 ≤ L) (hL2 : L ≤ 48) : ((nI (lenN o k) + nI L) - 1) / nI L = nI (prt o L k) := by
  unfold prt
  rw [show nI (lenN o k) + nI L = nI (lenN o k + L) from (Int32.ofNat_add _ _).symm, n_sub (show 1 ≤ lenN o k + L by omega) 1 rfl]
  exact pk_div (by omega) (by omega) (by omega)
theorem v_sides {o : t_Outline} (h : okO o) (hc : Outline_closed o = 1) {k : Nat} (hk : k < on o) : f_Outline_isAlongX o (nI k) = some (b2 (aX o k)) ∧ f_Outline_sideStart o (nI k) = some (stI o k) ∧ f_Outline_sideEnd o (nI k) = some (enI o k) := by
  have hn := h.2.1
  have gk : xin (nI k) 16 = true := xin_n (by omega) (by omega)
  have ck : (nI k).toNatClampNeg = k := nI_clamp (by omega)
  have hx := nx_lt hk
  have gx : xin (nI (nx (on o) k)) 16 = true := xin_n (by omega) (by omega)
  have cx : (nI (nx (on o) k)).toNatClampNeg = nx (on o) k := nI_clamp (by omega)
  have e := v_isAlongX h hk
  refine ⟨e, ?_, ?_⟩
  · unfold f_Outline_sideStart stI
    rw [e, Option.bind_some, b2_if, if_pos gk, if_pos gk, ck]
    show (if aX o k = true then _ else _) = _
    split <;> rfl
  · unfold f_Outline_sideEnd enI
    rw [v_nextCorner h hk, Option.bind_some, e, Option.bind_some, b2_if, if_pos gx, if_pos gx, cx]
    show (if aX o k = true then _ else _) = _
    split <;> rfl
theorem v_partsOf {o : t_Outline} (h : okO o) (hc : Outline_closed o = 1) {k L : Nat} (hk : k < on o) (hL : 1 ≤ L) (hL2 : L ≤ 48) : f_Outline_partsOf o (nI k) (nI L) = some (nI (prt o L k)) := by
  obtain ⟨c1', c2', l1, l2, -⟩ := side_ok h hc hk
  obtain ⟨-, e2, e3⟩ := v_sides h hc hk
  unfold f_Outline_partsOf
  rw [if_pos (by rw [i_le, c1, i_n (by omega)]; omega), e3, Option.bind_some, e2, Option.bind_some, if_neg (n_ne0 (by omega) (by omega)), absD c1' c2']
  show some ((nI (lenN o k) + nI L - 1) / nI L) = _
  rw [prt_I l2 hL hL2]
theorem v_lengthOf {o : t_Outline} (h : okO o) (hc : Outline_closed o = 1) {y : ySt} {p : Nat} (hp : p < 4) (hr : relP o y p) {k : Nat} (hk : k < on o) : f_MaskEdgesModel_lengthOf y (nI p) (nI k) = some (nI (lenN o k)) := by
  have hn := h.2.1
  obtain ⟨r1, r2, r3⟩ := hr
  obtain ⟨c1', c2', l1, l2, ha, hb⟩ := side_ok h hc hk
  have gp : xin (nI p) 4 = true := xin_n hp (by decide)
  have cp : (nI p).toNatClampNeg = p := nI_clamp (by omega)
  have hx := nx_lt hk
  have rm := rem_nx hk hn
  have ga : xin (nI (16 * p + k)) 64 = true := xin_n (by omega) (by decide)
  have gb : xin (nI (16 * p + nx (on o) k)) 64 = true := xin_n (by omega) (by decide)
  have ca : (nI (16 * p + k)).toNatClampNeg = 16 * p + k := nI_clamp (by omega)
  have cb : (nI (16 * p + nx (on o) k)).toNatClampNeg = 16 * p + nx (on o) k := nI_clamp (by omega)
  unfold f_MaskEdgesModel_lengthOf
  rw [if_pos gp, cp, r1, if_neg (n_ne0 (by omega) (by omega)), rm, ix16, ix16, if_pos gb, if_pos ga, if_pos gb, if_pos ga, ca, cb, (r3 k (by omega)).1, (r3 k (by omega)).2, (r3 (nx (on o) k) (by omega)).1, (r3 (nx (on o) k) (by omega)).2]
  obtain ⟨x1, y1⟩ := h.2.2.2.1 k hk
  obtain ⟨x2, y2⟩ := h.2.2.2.1 _ hx
  unfold c49 at x1 y1 x2 y2
  have d : ((((Outline_xs o (nx (on o) k)) - (Outline_xs o k)) + (Outline_ys o (nx (on o) k))) - (Outline_ys o k)).toInt = (enI o k).toInt - (stI o k).toInt := by
    have d1 : ((Outline_xs o (nx (on o) k)) - (Outline_xs o k)).toInt = (Outline_xs o (nx (on o) k)).toInt - (Outline_xs o k).toInt := i_sub (by omega) (by omega)
    have d2 : (((Outline_xs o (nx (on o) k)) - (Outline_xs o k)) + (Outline_ys o (nx (on o) k))).toInt = (Outline_xs o (nx (on o) k)).toInt - (Outline_xs o k).toInt + (Outline_ys o (nx (on o) k)).toInt := by rw [i_add (by omega) (by omega), d1]
    rw [i_sub (by omega) (by omega), d2]
    unfold enI stI
    cases q : aX o k with
    | true => rw [if_pos rfl, if_pos rfl, ha q]; omega
    | false => rw [if_neg (by decide), if_neg (by decide), hb q]; omega
  unfold lenN
  generalize (((Outline_xs o (nx (on o) k)) - (Outline_xs o k)) + (Outline_ys o (nx (on o) k))) - (Outline_ys o k) = D at d ⊢
  unfold c49 at c1' c2'
  by_cases q : 0 ≤ D
  · rw [if_pos q]
    congr 1
    rw [i_eq, d, i_n (by omega)]
    rw [i_le, c0, d] at q
    omega
  · rw [if_neg q]
    congr 1
    rw [i_eq, i_neg (by omega), d, i_n (by omega)]
    rw [i_le, c0, d] at q
    omega
