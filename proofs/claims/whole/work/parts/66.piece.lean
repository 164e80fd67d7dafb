/-! cut: the pieces of a side. -/
def upS (o : t_Outline) (k : Nat) : Bool := decide (stI o k < enI o k)
def loI (o : t_Outline) (k i n : Nat) : Int32 := if upS o k = true then stI o k + nI (lenN o k * i / n) else stI o k - nI (lenN o k * (i + 1) / n)
def hiI (o : t_Outline) (k i n : Nat) : Int32 := if upS o k = true then stI o k + nI (lenN o k * (i + 1) / n) else stI o k - nI (lenN o k * i / n)
def lnI (o : t_Outline) (k : Nat) : Int32 := if aX o k = true then Outline_ys o k else Outline_xs o k
def mdI (o : t_Outline) (k i n : Nat) : Int32 := (loI o k i n + hiI o k i n - 1) / 2
/-- is the cell beside the piece's middle in the polygon; before the line, behind it -/
def inW (o : t_Outline) (k i n : Nat) (f : Int32) : Bool := if aX o k = true then hld o (mdI o k i n).toInt (lnI o k + f).toInt else hld o (lnI o k + f).toInt (mdI o k i n).toInt
def ouI (o : t_Outline) (k i n : Nat) : Int32 := if inW o k i n (-1) = inW o k i n 0 then 0 else if inW o k i n (-1) = true then 1 else -1
def acrI (o : t_Outline) (k i n : Nat) : Int32 := if inW o k i n (-1) = true then lnI o k - 1 else lnI o k
def pcQ (o : t_Outline) (k i n : Nat) : t_Piece := (b2 (aX o k), lnI o k, loI o k i n, hiI o k i n, (if enI o k < stI o k then enI o k else stI o k), (if stI o k < enI o k then enI o k else stI o k), b2 (decide (i = 0)), b2 (decide (i + 1 = n)), ouI o k i n, (if aX o k = true then mdI o k i n else acrI o k i n), (if aX o k = true then acrI o k i n else mdI o k i n), 0)
theorem cutP {d n i : Nat} (hn : 1 ≤ n) (hd : n ≤ d) (hi : i < n) : d * i / n < d * (i + 1) / n ∧ d * (i + 1) / n ≤ d := by
  constructor
  · apply Nat.lt_of_lt_of_le (Nat.lt_succ_self _)
    rw [Nat.succ_eq_add_one, Nat.le_div_iff_mul_le (by omega), Nat.add_mul, Nat.one_mul, Nat.mul_add, Nat.mul_one]
    have := Nat.div_mul_le_self (d * i) n
    omega
  · apply Nat.div_le_of_le_mul
    rw [Nat.mul_comm n d]
    exact Nat.mul_le_mul_left d (by omega)
theorem loI_ok {o : t_Outline} (h : okO o) (hc : Outline_closed o = 1) {k i n : Nat} (hk : k < on o) (hn : 1 ≤ n) (hd : n ≤ lenN o k) (hi : i < n) : 0 ≤ (loI o k i n).toInt ∧ (loI o k i n).toInt < (hiI o k i n).toInt ∧ (hiI o k i n).toInt ≤ 48 ∧ (upS o k = true → (loI o k i n).toInt = (stI o k).toInt + (lenN o k * i / n : Nat) ∧ (hiI o k i n).toInt = (stI o k).toInt + (lenN o k * (i + 1) / n : Nat) ∧ (enI o k).toInt = (stI o k).toInt + lenN o k) ∧ (upS o k = false → (loI o k i n).toInt = (stI o k).toInt - (lenN o k * (i + 1) / n : Nat) ∧ (hiI o k i n).toInt = (stI o k).toInt - (lenN o k * i / n : Nat) ∧ (enI o k).toInt = (stI o k).toInt - lenN o k) := by
  obtain ⟨c1', c2', l1, l2, -⟩ := side_ok h hc hk
  obtain ⟨q1, q2⟩ := cutP hn hd hi
  have el : lenN o k = ((enI o k).toInt - (stI o k).toInt).natAbs := rfl
  unfold c49 at c1' c2'
  unfold loI hiI
  generalize lenN o k * i / n = a at *
  generalize lenN o k * (i + 1) / n = b at *
  have ia : (nI a).toInt = a := i_n (by omega)
  have ib : (nI b).toInt = b := i_n (by omega)
  cases u : upS o k with
  | true =>
    have hu : (stI o k).toInt < (enI o k).toInt := i_lt.mp (of_decide_eq_true u)
    have e1 : (stI o k + nI a).toInt = (stI o k).toInt + a := by rw [i_add (by omega) (by omega), ia]
    have e2 : (stI o k + nI b).toInt = (stI o k).toInt + b := by rw [i_add (by omega) (by omega), ib]
    rw [if_pos rfl, if_pos rfl, e1, e2]
    exact ⟨by omega, by omega, by omega, fun _ => ⟨rfl, rfl, by omega⟩, fun w => by cases w⟩
  | false =>
    have hu : ¬ (stI o k).toInt < (enI o k).toInt := fun w => (of_decide_eq_false u) (i_lt.mpr w)
    have e1 : (stI o k - nI a).toInt = (stI o k).toInt - a := by rw [i_sub (by omega) (by omega), ia]
    have e2 : (stI o k - nI b).toInt = (stI o k).toInt - b := by rw [i_sub (by omega) (by omega), ib]
    rw [if_neg (by decide), if_neg (by decide), e1, e2]
    exact ⟨by omega, by omega, by omega, fun w => (by cases w), fun _ => ⟨rfl, rfl, by omega⟩⟩
theorem ln_ok {o : t_Outline} (h : okO o) {k : Nat} (hk : k < on o) : 0 ≤ (lnI o k).toInt ∧ (lnI o k).toInt ≤ 48 := by
  obtain ⟨x1, y1⟩ := h.2.2.2.1 k hk
  unfold lnI
  split
  · exact y1
  · exact x1
theorem pcQ_ok {o : t_Outline} (h : okO o) (hc : Outline_closed o = 1) {k i n : Nat} (hk : k < on o) (hn : 1 ≤ n) (hd : n ≤ lenN o k) (hi : i < n) : okP (pcQ o k i n) ∧ okIn (pcQ o k i n) ∧ fl01 (pcQ o k i n) := by
  obtain ⟨a1, a2, a3, -⟩ := loI_ok h hc hk hn hd hi
  have ln := ln_ok h hk
  refine ⟨⟨?_, ?_, ln, ⟨a1, a2, a3⟩, ⟨(by show -6 ≤ (0 : Int32).toInt; decide), (by show (0 : Int32).toInt ≤ 6; decide)⟩, fun _ => rfl⟩, ?_, ?_, ?_⟩
  · show b2 (aX o k) = 0 ∨ b2 (aX o k) = 1
    cases aX o k
    · exact Or.inl rfl
    · exact Or.inr rfl
  · show (ouI o k i n).toInt = -1 ∨ (ouI o k i n).toInt = 0 ∨ (ouI o k i n).toInt = 1
    unfold ouI
    split
    · exact Or.inr (Or.inl rfl)
    · split
      · exact Or.inr (Or.inr rfl)
      · exact Or.inl rfl
  · intro ho
    have ho' : ¬ inW o k i n (-1) = inW o k i n 0 := by
      intro e
      apply ho
      show (ouI o k i n).toInt = 0
      unfold ouI
      rw [if_pos e]
      rfl
    have fin : lnI o k + finI (pcQ o k i n) = acrI o k i n := by
      unfold finI upP acrI
      show lnI o k + (if decide (0 < (ouI o k i n).toInt) = true then -1 else 0) = _
      unfold ouI
      rw [if_neg ho']
      cases inW o k i n (-1) with
      | true => rw [if_pos rfl, if_pos rfl, if_pos (by decide), Int32.sub_eq_add_neg]
      | false => rw [if_neg (show ¬ false = true by decide), if_neg (show ¬ false = true by decide), if_neg (by decide), add0]
    constructor
    · show (if aX o k = true then mdI o k i n else acrI o k i n) = bXI (pcQ o k i n) (finI (pcQ o k i n))
      unfold bXI
      show _ = if b2 (aX o k) = 0 then lnI o k + finI (pcQ o k i n) else mdI o k i n
      rw [b2_if, fin]
    · show (if aX o k = true then acrI o k i n else mdI o k i n) = bYI (pcQ o k i n) (finI (pcQ o k i n))
      unfold bYI
      show _ = if b2 (aX o k) = 0 then mdI o k i n else lnI o k + finI (pcQ o k i n)
      rw [b2_if, fin]
  · show b2 (decide (i = 0)) = 0 ∨ b2 (decide (i = 0)) = 1
    cases decide (i = 0)
    · exact Or.inl rfl
    · exact Or.inr rfl
  · show b2 (decide (i + 1 = n)) = 0 ∨ b2 (decide (i + 1 = n)) = 1
    cases decide (i + 1 = n)
    · exact Or.inl rfl
    · exact Or.inr rfl
theorem v_pointAt {o : t_Outline} (h : okO o) (hc : Outline_closed o = 1) {k n : Nat} (hk : k < on o) (hn : 1 ≤ n) (hn2 : n ≤ 48) {i : Nat} (hi : i ≤ 48) : f_Piece_pointAt (stI o k) (enI o k) (nI i) (nI n) = some (if upS o k = true then stI o k + nI (lenN o k * i / n) else stI o k - nI (lenN o k * i / n)) := by
  obtain ⟨c1', c2', l1, l2, -⟩ := side_ok h hc hk
  unfold f_Piece_pointAt
  have hm : lenN o k * i ≤ 48 * 48 := Nat.mul_le_mul l2 hi
  rw [if_pos (by rw [i_le, c1, i_n (by omega)]; omega), if_neg (n_ne0 (by omega) (by omega)), absD c1' c2']
  show (if enI o k ≤ stI o k then some (stI o k - nI (lenN o k) * nI i / nI n) else some (stI o k + nI (lenN o k) * nI i / nI n)) = _
  rw [pk_mul, pk_div (by omega) (by omega) (by omega)]
  unfold upS
  by_cases q : enI o k ≤ stI o k
  · rw [if_pos q, decide_eq_false (by rw [i_lt]; rw [i_le] at q; omega), if_neg (by decide)]
  · rw [if_neg q, decide_eq_true (by rw [i_lt]; rw [i_le] at q; omega), if_pos rfl]
