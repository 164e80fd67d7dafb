/-! cut: all pieces of all sides. -/
theorem nadd (a b : Nat) : nI a + nI b = nI (a + b) := (Int32.ofNat_add _ _).symm
def partQ (o : t_Outline) (s n m j : Nat) (Q : Nat → t_Piece) : Nat → t_Piece := fun k => if m ≤ k ∧ k < m + j then pcQ o s (k - m) n else Q k
theorem partQ_0 (o : t_Outline) (s n m : Nat) (Q : Nat → t_Piece) : partQ o s n m 0 Q = Q := by
  funext k; unfold partQ; rw [if_neg (by omega)]
theorem partQ_s (o : t_Outline) (s n m j : Nat) (Q : Nat → t_Piece) : va_up (partQ o s n m j Q) (m + j) (pcQ o s j n) = partQ o s n m (j + 1) Q := by
  funext k
  unfold va_up partQ
  by_cases e : k = m + j
  · rw [if_pos e, if_pos (by omega), e, Nat.add_sub_cancel_left]
  · rw [if_neg e]
    by_cases l : m ≤ k ∧ k < m + j
    · rw [if_pos l, if_pos (by omega)]
    · rw [if_neg l, if_neg (by omega)]
def yR (Q : Nat → t_Piece) (m : Nat) (y : ySt) : Prop := Y_pieces y = nI m ∧ ∀ k, k < m → relQ (Q k) y k
theorem yR_s {o : t_Outline} {s n m j : Nat} {Q : Nat → t_Piece} {y : ySt} (h : yR (partQ o s n m j Q) (m + j) y) : yR (partQ o s n m (j + 1) Q) (m + (j + 1)) (yPc y (m + j) (pcQ o s j n)) := by
  refine ⟨yp_pieces _ _ _, fun k hk => ?_⟩
  rw [← partQ_s]
  by_cases e : k = m + j
  · subst e
    rw [up_at]
    exact relQ_pc
  · rw [up_ne _ e]
    exact relQ_old e (h.2 k (by omega))
theorem v_addPieces {x : xSt} {y : ySt} {c nk nb nw p k n m : Nat} {Q : Nat → t_Piece} (hG : yG x y c nk nb nw) (hp : p < 4) (hc : Outline_closed (X_outlines x p) = 1) (hk : k < on (X_outlines x p)) (hn : 1 ≤ n) (hd : n ≤ lenN (X_outlines x p) k) (hm : m + n ≤ 120) (hR : yR Q m y) : ∃ y', f_MaskEdgesModel_addPieces (nI p) (nI k) (nI n) y = some y' ∧ yR (partQ (X_outlines x p) k n m n Q) (m + n) y' ∧ yG x y' c nk nb nw := by
  have hO := hG.1.2.2 p hp
  obtain ⟨ho, hr⟩ := hO
  have hn16 := ho.2.1
  obtain ⟨c1', c2', l1, l2, -⟩ := side_ok ho hc hk
  have lp : ∃ y', (xloop (fun r => f_MaskEdgesModel_addPieces_138 r) (fun _ _ _ _ _ _ _ _ _ => none) 100000) (nI p) (nI n) (nI (16 * p + k)) (nI (lenN (X_outlines x p) k)) (b2 (aX (X_outlines x p) k)) (stI (X_outlines x p) k) (b2 (upS (X_outlines x p) k)) (nI 0) y = some y' ∧ yR (partQ (X_outlines x p) k n m n Q) (m + n) y' ∧ yG x y' c nk nb nw := by
    refine xpA (fun r => f_MaskEdgesModel_addPieces_138 r) (fun _ _ _ _ _ _ _ _ _ => none) (fun rr j (s : ySt) => rr (nI p) (nI n) (nI (16 * p + k)) (nI (lenN (X_outlines x p) k)) (b2 (aX (X_outlines x p) k)) (stI (X_outlines x p) k) (b2 (upS (X_outlines x p) k)) (nI j) s) n (fun j s => yR (partQ (X_outlines x p) k n m j Q) (m + j) s ∧ yG x s c nk nb nw) (fun r => ∃ y', r = some y' ∧ yR (partQ (X_outlines x p) k n m n Q) (m + n) y' ∧ yG x y' c nk nb nw) ?_ ?_ 100000 0 y (Nat.zero_le _) (by omega) ⟨by rw [partQ_0]; exact hR, hG⟩
    · intro rr s hs
      refine ⟨s, ?_, hs⟩
      show f_MaskEdgesModel_addPieces_138 rr _ (nI n) _ _ _ _ _ (nI n) s = _
      unfold f_MaskEdgesModel_addPieces_138
      rw [if_pos (Int32.le_refl _)]
    · intro rr j s hj hs
      right
      exact ⟨_, ⟨yR_s hs.1, yG_pc hs.2 _ _⟩, v_138 ho hc hk hn hd hj hp (hs.2.1.2.2 p hp).2 (by omega) hs.1.1 rr⟩
  obtain ⟨r1, r2, r3⟩ := hr
  have hr : relP (X_outlines x p) y p := ⟨r1, r2, r3⟩
  have gp : xin (nI p) 4 = true := xin_n hp (by decide)
  have cp : (nI p).toNatClampNeg = p := nI_clamp (by omega)
  have hx := nx_lt hk
  have rm := rem_nx hk hn16
  have ga : xin (nI (16 * p + k)) 64 = true := xin_n (by omega) (by decide)
  have gb : xin (nI (16 * p + nx (on (X_outlines x p)) k)) 64 = true := xin_n (by omega) (by decide)
  have ca : (nI (16 * p + k)).toNatClampNeg = 16 * p + k := nI_clamp (by omega)
  have cb : (nI (16 * p + nx (on (X_outlines x p)) k)).toNatClampNeg = 16 * p + nx (on (X_outlines x p)) k := nI_clamp (by omega)
  have k133 : f_MaskEdgesModel_addPieces_133 (nI p) (nI n) (nI (16 * p + k)) (nI (lenN (X_outlines x p) k)) (b2 (aX (X_outlines x p) k)) (stI (X_outlines x p) k) (b2 (upS (X_outlines x p) k)) y = (xloop (fun r => f_MaskEdgesModel_addPieces_138 r) (fun _ _ _ _ _ _ _ _ _ => none) 100000) (nI p) (nI n) (nI (16 * p + k)) (nI (lenN (X_outlines x p) k)) (b2 (aX (X_outlines x p) k)) (stI (X_outlines x p) k) (b2 (upS (X_outlines x p) k)) (nI 0) y := by
    unfold f_MaskEdgesModel_addPieces_133
    rw [show nI 0 = (0 : Int32) from rfl]
  rw [← k133] at lp
  have key : f_MaskEdgesModel_addPieces (nI p) (nI k) (nI n) y = f_MaskEdgesModel_addPieces_133 (nI p) (nI n) (nI (16 * p + k)) (nI (lenN (X_outlines x p) k)) (b2 (aX (X_outlines x p) k)) (stI (X_outlines x p) k) (b2 (upS (X_outlines x p) k)) y := by
    have up : ∀ {α : Type} (A B : α), (if enI (X_outlines x p) k ≤ stI (X_outlines x p) k then A else B) = (if upS (X_outlines x p) k = true then B else A) := by
      intro α A B
      unfold upS
      by_cases q : enI (X_outlines x p) k ≤ stI (X_outlines x p) k
      · rw [if_pos q, if_neg (by rw [decide_eq_true_eq, i_lt]; rw [i_le] at q; omega)]
      · rw [if_neg q, if_pos (by rw [decide_eq_true_eq, i_lt]; rw [i_le] at q; omega)]
    unfold f_MaskEdgesModel_addPieces
    rw [if_pos gp, cp, r1, if_neg (n_ne0 (by omega) (by omega)), v_lengthOf ho hc hp hr hk, Option.bind_some, rm, ix16, ix16, if_pos ga, if_pos gb, ca, cb, (r3 k (by omega)).2, (r3 (nx (on (X_outlines x p)) k) (by omega)).2]
    have k55 : ∀ a : Bool, a = aX (X_outlines x p) k → f_MaskEdgesModel_addPieces_55 (nI p) (nI n) (nI (16 * p + k)) (nI (16 * p + nx (on (X_outlines x p)) k)) (nI (lenN (X_outlines x p) k)) (b2 a) y = f_MaskEdgesModel_addPieces_133 (nI p) (nI n) (nI (16 * p + k)) (nI (lenN (X_outlines x p) k)) (b2 (aX (X_outlines x p) k)) (stI (X_outlines x p) k) (b2 (upS (X_outlines x p) k)) y := by
      intro a ha
      unfold f_MaskEdgesModel_addPieces_55 f_MaskEdgesModel_addPieces_79
      simp only [ga, gb, ca, cb, if_true, (r3 k (by omega)).1, (r3 k (by omega)).2, (r3 (nx (on (X_outlines x p)) k) (by omega)).1, (r3 (nx (on (X_outlines x p)) k) (by omega)).2, b2_if]
      rw [← ha]
      have u1 := up (f_MaskEdgesModel_addPieces_133 (nI p) (nI n) (nI (16 * p + k)) (nI (lenN (X_outlines x p) k)) (b2 a) (stI (X_outlines x p) k) 0 y) (f_MaskEdgesModel_addPieces_133 (nI p) (nI n) (nI (16 * p + k)) (nI (lenN (X_outlines x p) k)) (b2 a) (stI (X_outlines x p) k) 1 y)
      have u2 : (if upS (X_outlines x p) k = true then f_MaskEdgesModel_addPieces_133 (nI p) (nI n) (nI (16 * p + k)) (nI (lenN (X_outlines x p) k)) (b2 a) (stI (X_outlines x p) k) 1 y else f_MaskEdgesModel_addPieces_133 (nI p) (nI n) (nI (16 * p + k)) (nI (lenN (X_outlines x p) k)) (b2 a) (stI (X_outlines x p) k) 0 y) = f_MaskEdgesModel_addPieces_133 (nI p) (nI n) (nI (16 * p + k)) (nI (lenN (X_outlines x p) k)) (b2 a) (stI (X_outlines x p) k) (b2 (upS (X_outlines x p) k)) y := by
        cases upS (X_outlines x p) k <;> rfl
      rw [u2] at u1
      rw [← u1]
      unfold stI enI
      rw [← ha]
      cases a with
      | true => simp only [if_true]
      | false => simp only [Bool.false_eq_true, if_false]
    by_cases q : Outline_ys (X_outlines x p) k = Outline_ys (X_outlines x p) (nx (on (X_outlines x p)) k)
    · rw [if_pos q]
      exact k55 true (by unfold aX; rw [decide_eq_true q])
    · rw [if_neg q]
      exact k55 false (by unfold aX; rw [decide_eq_false q])
  rw [key]
  exact lp
def sumO (o : t_Outline) (L : Nat) : Nat → Nat
  | 0 => 0
  | t + 1 => sumO o L t + prt o L t
def outQ (o : t_Outline) (L m : Nat) (Q : Nat → t_Piece) : Nat → Nat → t_Piece
  | 0 => Q
  | t + 1 => partQ o t (prt o L t) (m + sumO o L t) (prt o L t) (outQ o L m Q t)
theorem sumO_mono (o : t_Outline) (L : Nat) {a b : Nat} (h : a ≤ b) : sumO o L a ≤ sumO o L b := by
  induction b with
  | zero => rw [show a = 0 from by omega]; exact Nat.le_refl _
  | succ b ih =>
    by_cases e : a = b + 1
    · rw [e]; exact Nat.le_refl _
    · have := ih (by omega)
      show _ ≤ sumO o L b + prt o L b
      omega
def tot (P : Nat → t_Outline) (L : Nat) : Nat → Nat
  | 0 => 0
  | p + 1 => tot P L p + (if Outline_closed (P p) = 0 then 0 else sumO (P p) L (on (P p)))
def totQ (P : Nat → t_Outline) (L : Nat) (Q : Nat → t_Piece) : Nat → Nat → t_Piece
  | 0 => Q
  | p + 1 => if Outline_closed (P p) = 0 then totQ P L Q p else outQ (P p) L (tot P L p) (totQ P L Q p) (on (P p))
theorem tot_mono (P : Nat → t_Outline) (L : Nat) {a b : Nat} (h : a ≤ b) : tot P L a ≤ tot P L b := by
  induction b with
  | zero => rw [show a = 0 from by omega]; exact Nat.le_refl _
  | succ b ih =>
    by_cases e : a = b + 1
    · rw [e]; exact Nat.le_refl _
    · have := ih (by omega)
      show _ ≤ tot P L b + _
      omega
def good (Q : Nat → t_Piece) (m : Nat) : Prop := ∀ k, k < m → (okP (Q k) ∧ okIn (Q k) ∧ fl01 (Q k)) ∧ sdG Q m k
theorem sdG_mono {Q R : Nat → t_Piece} {m m' k : Nat} (hm : m ≤ m') (hk : k < m) (hq : ∀ j, j < m → R j = Q j) (h : sdG Q m k) : sdG R m' k := by
  intro hf
  rw [hq k hk] at hf
  obtain ⟨l, l1, l2, l3, l4, l5, l6⟩ := h hf
  refine ⟨l, l1, by omega, ?_, fun j j1 j2 => ?_, ?_, ?_⟩
  · rw [hq l l2]; exact l3
  · rw [hq j (by omega)]; exact l4 j j1 j2
  · rw [hq k hk, hq l l2]; exact l5
  · rw [hq k hk, hq l l2]; exact l6
theorem good_part {o : t_Outline} (h : okO o) (hc : Outline_closed o = 1) {s n m : Nat} {Q : Nat → t_Piece} (hs : s < on o) (hn : 1 ≤ n) (hd : n ≤ lenN o s) (hg : good Q m) : good (partQ o s n m n Q) (m + n) := by
  have old : ∀ j, j < m → partQ o s n m n Q j = Q j := fun j hj => by unfold partQ; rw [if_neg (by omega)]
  have new : ∀ j, j < n → partQ o s n m n Q (m + j) = pcQ o s j n := fun j hj => by unfold partQ; rw [if_pos (by omega), Nat.add_sub_cancel_left]
  intro k hk
  by_cases e : k < m
  · rw [old k e]
    exact ⟨(hg k e).1, sdG_mono (by omega) e old (hg k e).2⟩
  · obtain ⟨j, rfl⟩ : ∃ j, k = m + j := ⟨k - m, by omega⟩
    rw [new j (by omega)]
    refine ⟨pcQ_ok h hc hs hn hd (by omega), ?_⟩
    intro hf
    rw [new j (by omega)] at hf
    have hj0 : j = 0 := by
      have hf' : b2 (decide (j = 0)) = 1 := hf
      by_cases q : j = 0
      · exact q
      · rw [decide_eq_false q] at hf'
        exact absurd hf' (by decide)
    subst hj0
    refine ⟨m + (n - 1), by omega, by omega, ?_, fun i i1 i2 => ?_, ?_, ?_⟩
    · rw [new (n - 1) (by omega)]
      show b2 (decide (n - 1 + 1 = n)) = 1
      rw [decide_eq_true (by omega)]
      rfl
    · obtain ⟨q, rfl⟩ : ∃ q, i = m + q := ⟨i - m, by omega⟩
      rw [new q (by omega)]
      show b2 (decide (q + 1 = n)) = 0
      rw [decide_eq_false (by omega)]
      rfl
    · rw [new 0 (by omega), new (n - 1) (by omega)]
      show (if enI o s < stI o s then enI o s else stI o s) = (if loI o s (n - 1) n ≤ loI o s 0 n then loI o s (n - 1) n else loI o s 0 n)
      obtain ⟨a1, a2, a3, a4, a5⟩ := loI_ok h hc hs hn hd (show 0 < n by omega)
      obtain ⟨b1, b2', b3, b4, b5⟩ := loI_ok h hc hs hn hd (show n - 1 < n by omega)
      have z0 : lenN o s * 0 / n = 0 := by rw [Nat.mul_zero, Nat.zero_div]
      have zn : lenN o s * (n - 1 + 1) / n = lenN o s := by rw [show n - 1 + 1 = n from by omega, Nat.mul_div_cancel _ (by omega)]
      have st0 := (side_ok h hc hs).2.2.1
      cases u : upS o s with
      | true =>
        obtain ⟨q1, q2, q3⟩ := a4 u
        obtain ⟨w1, w2, w3⟩ := b4 u
        rw [z0] at q1
        generalize lenN o s * (n - 1) / n = zz at w1
        rw [if_neg (by rw [i_lt]; omega)]
        by_cases le : loI o s (n - 1) n ≤ loI o s 0 n
        · rw [if_pos le, i_eq]
          rw [i_le] at le
          omega
        · rw [if_neg le, i_eq]
          omega
      | false =>
        obtain ⟨q1, q2, q3⟩ := a5 u
        obtain ⟨w1, w2, w3⟩ := b5 u
        rw [zn] at w1
        have q := (cutP hn hd (show 0 < n by omega)).2
        rw [if_pos (by rw [i_lt]; omega), if_pos (by rw [i_le]; omega), i_eq]
        omega
    · rw [new 0 (by omega), new (n - 1) (by omega)]
      show (if stI o s < enI o s then enI o s else stI o s) = (if hiI o s 0 n ≤ hiI o s (n - 1) n then hiI o s (n - 1) n else hiI o s 0 n)
      obtain ⟨a1, a2, a3, a4, a5⟩ := loI_ok h hc hs hn hd (show 0 < n by omega)
      obtain ⟨b1, b2', b3, b4, b5⟩ := loI_ok h hc hs hn hd (show n - 1 < n by omega)
      have z0 : lenN o s * 0 / n = 0 := by rw [Nat.mul_zero, Nat.zero_div]
      have zn : lenN o s * (n - 1 + 1) / n = lenN o s := by rw [show n - 1 + 1 = n from by omega, Nat.mul_div_cancel _ (by omega)]
      have st0 := (side_ok h hc hs).2.2.1
      cases u : upS o s with
      | true =>
        obtain ⟨q1, q2, q3⟩ := a4 u
        obtain ⟨w1, w2, w3⟩ := b4 u
        rw [zn] at w2
        have q := (cutP hn hd (show 0 < n by omega)).2
        rw [if_pos (by rw [i_lt]; omega), if_pos (by rw [i_le]; omega), i_eq]
        omega
      | false =>
        obtain ⟨q1, q2, q3⟩ := a5 u
        obtain ⟨w1, w2, w3⟩ := b5 u
        rw [z0] at q2
        generalize lenN o s * (n - 1) / n = zz at w2
        rw [if_neg (by rw [i_lt]; omega)]
        by_cases le : hiI o s 0 n ≤ hiI o s (n - 1) n
        · rw [if_pos le, i_eq]
          rw [i_le] at le
          omega
        · rw [if_neg le, i_eq]
          omega
theorem good_out {o : t_Outline} (h : okO o) (hc : Outline_closed o = 1) {L m : Nat} {Q : Nat → t_Piece} (hL : 1 ≤ L) (hg : good Q m) : ∀ t, t ≤ on o → good (outQ o L m Q t) (m + sumO o L t) := by
  intro t
  induction t with
  | zero => intro _; exact hg
  | succ t ih =>
    intro ht
    obtain ⟨-, -, l1, l2, -⟩ := side_ok h hc (show t < on o by omega)
    obtain ⟨p1, p2⟩ := prt_ok (L := L) l1 l2 hL
    have := good_part h hc (show t < on o by omega) p1 p2 (ih (by omega))
    rw [Nat.add_assoc] at this
    exact this
theorem good_tot {P : Nat → t_Outline} (h : ∀ p, p < 4 → okO (P p)) {L : Nat} (Q : Nat → t_Piece) (hL : 1 ≤ L) : ∀ c, c ≤ 4 → good (totQ P L Q c) (tot P L c) := by
  intro c
  induction c with
  | zero => intro _ k hk; exact absurd hk (Nat.not_lt_zero _)
  | succ c ih =>
    intro hc
    show good (if Outline_closed (P c) = 0 then totQ P L Q c else outQ (P c) L (tot P L c) (totQ P L Q c) (on (P c))) (tot P L c + (if Outline_closed (P c) = 0 then 0 else sumO (P c) L (on (P c))))
    by_cases e : Outline_closed (P c) = 0
    · rw [if_pos e, if_pos e]; exact ih (by omega)
    · rw [if_neg e, if_neg e]
      have ec : Outline_closed (P c) = 1 := by
        rcases (h c (by omega)).2.2.1 with q | q
        · exact absurd q e
        · exact q
      exact good_out (h c (by omega)) ec hL (ih (by omega)) _ (Nat.le_refl _)
