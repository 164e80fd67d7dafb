/-! Numbers of the machine as whole numbers; booleans; loops of the functional models. -/
theorem i_add {a b : Int32} (h1 : -2147483648 ≤ a.toInt + b.toInt) (h2 : a.toInt + b.toInt < 2147483648) : (a + b).toInt = a.toInt + b.toInt := by
  rw [Int32.toInt_add]; exact Int.bmod_eq_of_le (by omega) (by omega)
theorem i_sub {a b : Int32} (h1 : -2147483648 ≤ a.toInt - b.toInt) (h2 : a.toInt - b.toInt < 2147483648) : (a - b).toInt = a.toInt - b.toInt := by
  rw [Int32.toInt_sub]; exact Int.bmod_eq_of_le (by omega) (by omega)
theorem i_mul {a b : Int32} (h1 : -2147483648 ≤ a.toInt * b.toInt) (h2 : a.toInt * b.toInt < 2147483648) : (a * b).toInt = a.toInt * b.toInt := by
  rw [Int32.toInt_mul]; exact Int.bmod_eq_of_le (by omega) (by omega)
theorem i_neg {a : Int32} (h1 : -2147483648 < a.toInt) : (-a).toInt = -a.toInt := by
  have := a.toInt_lt
  rw [Int32.toInt_neg]; exact Int.bmod_eq_of_le (by omega) (by omega)
theorem i_lt {a b : Int32} : a < b ↔ a.toInt < b.toInt := Int32.lt_iff_toInt_lt
theorem i_le {a b : Int32} : a ≤ b ↔ a.toInt ≤ b.toInt := Int32.le_iff_toInt_le
theorem i_eq {a b : Int32} : a = b ↔ a.toInt = b.toInt := Int32.toInt_inj.symm
theorem i_b (a : Int32) : -2147483648 ≤ a.toInt ∧ a.toInt < 2147483648 := ⟨a.le_toInt, a.toInt_lt⟩
theorem i_n {n : Nat} (h : n < 2147483648) : (nI n).toInt = n := nI_toInt h
theorem i_of {a : Int32} (h : 0 ≤ a.toInt) : a = nI a.toInt.toNat := by
  rw [i_eq, i_n (by have := i_b a; omega)]; omega
theorem i_cl {a : Int32} (h : 0 ≤ a.toInt) : a.toNatClampNeg = a.toInt.toNat := rfl
theorem xin_i {a : Int32} {n : Nat} (h0 : 0 ≤ a.toInt) (h1 : a.toInt < n) : xin a n = true := by
  unfold xin
  rw [decide_eq_true_iff]
  rintro (h | h)
  · rw [i_lt] at h; have : (0 : Int32).toInt = 0 := rfl; omega
  · have : a.toNatClampNeg = a.toInt.toNat := rfl; omega
theorem xin_n {j n : Nat} (h : j < n) (hn : n < 2147483648) : xin (nI j) n = true := xin_i (by rw [i_n (by omega)]; omega) (by rw [i_n (by omega)]; omega)
def b2 (b : Bool) : Int32 := if b then 1 else 0
theorem b2_if {α : Type} {b : Bool} {A B : α} : (if b2 b = 0 then A else B) = (if b = true then B else A) := by cases b <;> rfl
theorem b2_t : b2 true = 1 := rfl
theorem b2_f : b2 false = 0 := rfl
theorem b2_z (b : Bool) : xz (b2 b) = true := by cases b <;> rfl
theorem b2_inj {a b : Bool} : b2 a = b2 b ↔ a = b := by cases a <;> cases b <;> decide
theorem b2_nar (b : Bool) : vp_nar .boolean (b2 b) = b2 b := by cases b <;> rfl
theorem b2_01 {v : Int32} (h : v = 0 ∨ v = 1) : v = b2 (decide (v = 1)) := by rcases h with rfl | rfl <;> rfl
theorem b2_i (b : Bool) : (b2 b).toInt = if b then 1 else 0 := by cases b <;> rfl
/-- a loop by a counter that goes up to e -/
theorem xlp {σ R : Type} (W : Nat → Nat → σ → Option R) (e : Nat) (I : Nat → σ → Prop) (Q : Option R → Prop) (hx : ∀ n s, I e s → Q (W (n + 1) e s)) (hs : ∀ n j s, j < e → I j s → Q (W (n + 1) j s) ∨ ∃ s', I (j + 1) s' ∧ W (n + 1) j s = W n (j + 1) s') : ∀ n j s, j ≤ e → e - j < n → I j s → Q (W n j s) := by
  intro n
  induction n with
  | zero => intro j s _ h; omega
  | succ n ih =>
    intro j s hj hn hI
    rcases Nat.lt_or_ge j e with h | h
    · rcases hs n j s h hI with q | ⟨s', hI', q⟩
      · exact q
      · rw [q]; exact ih (j + 1) s' (by omega) (by omega) hI'
    · have : j = e := by omega
      subst this
      exact hx n s hI
/-- the same, where the loop's state is known exactly -/
theorem xlf {σ R : Type} (W : Nat → Nat → σ → Option R) (e : Nat) (g : Nat → σ) (r : Option R) (hx : ∀ n, W (n + 1) e (g e) = r) (hs : ∀ n j, j < e → W (n + 1) j (g j) = r ∨ W (n + 1) j (g j) = W n (j + 1) (g (j + 1))) : ∀ n j, j ≤ e → e - j < n → W n j (g j) = r := by
  intro n j hj hn
  refine xlp W e (fun j s => s = g j) (fun o => o = r) (fun n s h => by rw [h]; exact hx n) (fun n j s h1 h2 => ?_) n j (g j) hj hn rfl
  rw [h2]
  rcases hs n j h1 with q | q
  · exact Or.inl q
  · exact Or.inr ⟨_, rfl, q⟩
-- words of 64 bits
def uw (x : Int64) : Nat := x.toUInt64.toNat
def tb (x : Int64) (j : Nat) : Bool := (uw x).testBit j
theorem uw_lt (x : Int64) : uw x < 18446744073709551616 := x.toUInt64.toNat_lt
theorem uw_inj {x y : Int64} (h : uw x = uw y) : x = y := congrArg UInt64.toInt64 (UInt64.toNat_inj.mp h)
theorem uw_and (x y : Int64) : uw (x &&& y) = uw x &&& uw y := UInt64.toNat_and _ _
theorem uw_or (x y : Int64) : uw (x ||| y) = uw x ||| uw y := UInt64.toNat_or _ _
theorem uw_xor (x y : Int64) : uw (x ^^^ y) = uw x ^^^ uw y := UInt64.toNat_xor _ _
theorem uw_add {x y : Int64} (h : uw x + uw y < 18446744073709551616) : uw (x + y) = uw x + uw y := by
  show (x.toUInt64 + y.toUInt64).toNat = _
  rw [UInt64.toNat_add]
  exact Nat.mod_eq_of_lt h
theorem uw_sub {x y : Int64} (h : uw y ≤ uw x) : uw (x - y) = uw x - uw y := by
  show (x.toUInt64 - y.toUInt64).toNat = _
  exact UInt64.toNat_sub_of_le _ _ h
theorem uw_shr (x : Int64) {s : UInt64} {k : Nat} (h : s.toNat % 64 = k) : uw (x.toUInt64 >>> s).toInt64 = uw x / 2 ^ k := by
  show (x.toUInt64 >>> s).toNat = _
  rw [UInt64.toNat_shiftRight, Nat.shiftRight_eq_div_pow, h]
  rfl
theorem uw_shl1 : ∀ k, k < 64 → uw ((1 : Int64) <<< ((nI k).toInt64 &&& 63)) = 2 ^ k := by decide +kernel
theorem tb_and (x y : Int64) (j : Nat) : tb (x &&& y) j = (tb x j && tb y j) := by unfold tb; rw [uw_and, Nat.testBit_and]
theorem tb_or (x y : Int64) (j : Nat) : tb (x ||| y) j = (tb x j || tb y j) := by unfold tb; rw [uw_or, Nat.testBit_or]
theorem tb_not (x : Int64) {j : Nat} (hj : j < 64) : tb (x ^^^ (-1)) j = !tb x j := by
  unfold tb
  rw [uw_xor, Nat.testBit_xor, show uw (-1) = 2 ^ 64 - 1 from rfl, Nat.testBit_two_pow_sub_one]
  simp [hj]
theorem tb_big (x : Int64) {j : Nat} (hj : 64 ≤ j) : tb x j = false := Nat.testBit_lt_two_pow (Nat.lt_of_lt_of_le (uw_lt x) (Nat.pow_le_pow_right (by decide) hj : 2 ^ 64 ≤ 2 ^ j))
theorem tb_0 (j : Nat) : tb 0 j = false := by unfold tb; rw [show uw 0 = 0 from rfl]; exact Nat.zero_testBit j
theorem tb_ne0 {x : Int64} : x ≠ 0 ↔ ∃ j, j < 64 ∧ tb x j = true := by
  constructor
  · intro h
    apply Classical.byContradiction
    intro hc
    apply h
    apply uw_inj
    apply Nat.eq_of_testBit_eq
    intro i
    have h2 : tb 0 i = false := tb_0 i
    have h1 : tb x i = false := by
      rcases Nat.lt_or_ge i 64 with q | q
      · cases e : tb x i with
        | false => rfl
        | true => exact absurd ⟨i, q, e⟩ hc
      · exact tb_big x q
    exact h1.trans h2.symm
  · rintro ⟨j, -, h⟩ e
    rw [e, tb_0] at h
    cases h
theorem tb_shl1 {k : Nat} (hk : k < 64) (j : Nat) : tb ((1 : Int64) <<< ((nI k).toInt64 &&& 63)) j = decide (k = j) := by
  unfold tb; rw [uw_shl1 k hk, Nat.testBit_two_pow]
theorem tb_cols {f e : Nat} (h : f < e) (he : e < 64) (j : Nat) : tb (((1 : Int64) <<< ((nI e).toInt64 &&& 63)) - ((1 : Int64) <<< ((nI f).toInt64 &&& 63))) j = decide (f ≤ j ∧ j < e) := by
  have hp : 2 ^ f ≤ 2 ^ e := Nat.pow_le_pow_right (by decide) (by omega)
  unfold tb
  rw [uw_sub (by rw [uw_shl1 e he, uw_shl1 f (by omega)]; exact hp), uw_shl1 e he, uw_shl1 f (by omega)]
  have e1 : 2 ^ e - 2 ^ f = 2 ^ f * (2 ^ (e - f) - 1) := by
    rw [Nat.mul_sub, Nat.mul_one, ← Nat.pow_add, show f + (e - f) = e from by omega]
  rw [e1, Nat.testBit_two_pow_mul, Nat.testBit_two_pow_sub_one]
  by_cases h1 : f ≤ j
  · by_cases h2 : j < e
    · simp [h1, h2, show j - f < e - f from by omega]
    · simp [h1, h2, show ¬ j - f < e - f from by omega]
  · simp [h1]
-- the JDK's count of bits
theorem uw_s : ∀ k, k < 64 → ((nI k).toInt64.toUInt64 &&& Int64.toUInt64 63).toNat % 64 = k := by decide +kernel
theorem v_bitCount (w : Int64) : f_Long_bitCount w = some (nI (pcN 64 (uw w))) := by
  rw [← bcN_ok (uw_lt w)]
  unfold f_Long_bitCount
  congr 1
  have hw := uw_lt w
  have l1 : (uw w / 2) &&& 6148914691236517205 ≤ uw w := Nat.le_trans Nat.and_le_left (Nat.div_le_self _ _)
  generalize ha : w - ((w.toUInt64 >>> ((1 : Int32).toInt64.toUInt64 &&& Int64.toUInt64 63)).toInt64 &&& (6148914691236517205 : Int64)) = a
  have ea : uw a = uw w - ((uw w / 2) &&& 6148914691236517205) := by
    have e1 : uw ((w.toUInt64 >>> ((1 : Int32).toInt64.toUInt64 &&& Int64.toUInt64 63)).toInt64 &&& (6148914691236517205 : Int64)) = (uw w / 2) &&& 6148914691236517205 := by
      rw [uw_and, uw_shr w (k := 1) rfl]; rfl
    rw [← ha, uw_sub (by rw [e1]; exact l1), e1]
  have ha2 : uw a < 18446744073709551616 := uw_lt a
  generalize hb : (a &&& (3689348814741910323 : Int64)) + ((a.toUInt64 >>> ((2 : Int32).toInt64.toUInt64 &&& Int64.toUInt64 63)).toInt64 &&& (3689348814741910323 : Int64)) = b
  have eb : uw b = (uw a &&& 3689348814741910323) + ((uw a / 4) &&& 3689348814741910323) := by
    have m1 : (uw a &&& 3689348814741910323) ≤ 3689348814741910323 := Nat.and_le_right
    have m2 : ((uw a / 4) &&& 3689348814741910323) ≤ 3689348814741910323 := Nat.and_le_right
    have e1 : uw (a &&& (3689348814741910323 : Int64)) = uw a &&& 3689348814741910323 := by rw [uw_and]; rfl
    have e2 : uw ((a.toUInt64 >>> ((2 : Int32).toInt64.toUInt64 &&& Int64.toUInt64 63)).toInt64 &&& (3689348814741910323 : Int64)) = (uw a / 4) &&& 3689348814741910323 := by rw [uw_and, uw_shr a (k := 2) rfl]; rfl
    rw [← hb, uw_add (by rw [e1, e2]; omega), e1, e2]
  have hb2 : uw b ≤ 7378697629483820646 := by
    have m1 : (uw a &&& 3689348814741910323) ≤ 3689348814741910323 := Nat.and_le_right
    have m2 : ((uw a / 4) &&& 3689348814741910323) ≤ 3689348814741910323 := Nat.and_le_right
    omega
  generalize hc : (b + (b.toUInt64 >>> ((4 : Int32).toInt64.toUInt64 &&& Int64.toUInt64 63)).toInt64) &&& (1085102592571150095 : Int64) = c
  have ec : uw c = (uw b + uw b / 16) &&& 1085102592571150095 := by
    have e1 : uw (b.toUInt64 >>> ((4 : Int32).toInt64.toUInt64 &&& Int64.toUInt64 63)).toInt64 = uw b / 16 := uw_shr b (k := 4) rfl
    rw [← hc, uw_and, uw_add (by rw [e1]; omega), e1]; rfl
  have hc2 : uw c ≤ 1085102592571150095 := by rw [ec]; exact Nat.and_le_right
  generalize hd : c + (c.toUInt64 >>> ((8 : Int32).toInt64.toUInt64 &&& Int64.toUInt64 63)).toInt64 = d
  have ed : uw d = uw c + uw c / 256 := by
    have e1 : uw (c.toUInt64 >>> ((8 : Int32).toInt64.toUInt64 &&& Int64.toUInt64 63)).toInt64 = uw c / 256 := uw_shr c (k := 8) rfl
    rw [← hd, uw_add (by rw [e1]; omega), e1]
  generalize he : d + (d.toUInt64 >>> ((16 : Int32).toInt64.toUInt64 &&& Int64.toUInt64 63)).toInt64 = e
  have ee : uw e = uw d + uw d / 65536 := by
    have e1 : uw (d.toUInt64 >>> ((16 : Int32).toInt64.toUInt64 &&& Int64.toUInt64 63)).toInt64 = uw d / 65536 := uw_shr d (k := 16) rfl
    rw [← he, uw_add (by rw [e1]; omega), e1]
  generalize hg : e + (e.toUInt64 >>> ((32 : Int32).toInt64.toUInt64 &&& Int64.toUInt64 63)).toInt64 = g
  have eg : uw g = uw e + uw e / 4294967296 := by
    have e1 : uw (e.toUInt64 >>> ((32 : Int32).toInt64.toUInt64 &&& Int64.toUInt64 63)).toInt64 = uw e / 4294967296 := uw_shr e (k := 32) rfl
    rw [← hg, uw_add (by rw [e1]; omega), e1]
  have hbc : bcN (uw w) = uw g % 128 := by
    unfold bcN
    dsimp only
    rw [← ea, ← eb, ← ec, ← ed, ← ee, ← eg]
  rw [hbc]
  apply Int32.toBitVec_inj.mp
  apply BitVec.eq_of_toNat_eq
  have e1 : (g.toInt32 &&& (127 : Int32)).toBitVec.toNat = (uw g % 2 ^ 32) &&& 127 := by
    rw [Int32.toBitVec_and, BitVec.toNat_and]
    have : g.toInt32.toBitVec.toNat = uw g % 2 ^ 32 := by
      show (BitVec.signExtend 32 g.toBitVec).toNat = _
      rw [BitVec.signExtend_eq_setWidth_of_le _ (by decide), BitVec.toNat_setWidth]
      rfl
    rw [this]
    rfl
  rw [e1, show (127 : Nat) = 2 ^ 7 - 1 from rfl, Nat.and_two_pow_sub_one_eq_mod]
  show _ = (BitVec.ofNat 32 (uw g % 128)).toNat
  rw [BitVec.toNat_ofNat]
  omega
