/-! How many cells of a set are in a rectangle; the image. -/
/-- of the cells 0 .. j - 1 of a row; of such rows 0 .. i - 1 -/
def rP (M : Nat → Nat → Bool) (y : Nat) : Nat → Nat
  | 0 => 0
  | j + 1 => rP M y j + (if M j y then 1 else 0)
def rS (M : Nat → Nat → Bool) (j : Nat) : Nat → Nat
  | 0 => 0
  | i + 1 => rS M j i + rP M i j
theorem rP_le (M : Nat → Nat → Bool) (y : Nat) : ∀ j, rP M y j ≤ j := by
  intro j
  induction j with
  | zero => exact Nat.le_refl _
  | succ j ih => show rP M y j + (if M j y then 1 else 0) ≤ j + 1; split <;> omega
theorem rP_mono (M : Nat → Nat → Bool) (y a : Nat) : ∀ d, rP M y a ≤ rP M y (a + d) ∧ rP M y (a + d) ≤ rP M y a + d := by
  intro d
  induction d with
  | zero => exact ⟨Nat.le_refl _, Nat.le_refl _⟩
  | succ d ih =>
    have : rP M y (a + (d + 1)) = rP M y (a + d) + (if M (a + d) y then 1 else 0) := rfl
    rw [this]
    split <;> omega
theorem rP_mono' {M : Nat → Nat → Bool} {y a b : Nat} (h : a ≤ b) : rP M y a ≤ rP M y b ∧ rP M y b ≤ rP M y a + (b - a) := by
  have := rP_mono M y a (b - a)
  rw [show a + (b - a) = b from by omega] at this
  exact this
theorem rS_le (M : Nat → Nat → Bool) (j : Nat) : ∀ i, rS M j i ≤ j * i := by
  intro i
  induction i with
  | zero => exact Nat.zero_le _
  | succ i ih => show rS M j i + rP M i j ≤ _; have := rP_le M i j; rw [Nat.mul_succ]; omega
theorem rS_mono {M : Nat → Nat → Bool} {a b : Nat} (h : a ≤ b) : ∀ i, rS M a i ≤ rS M b i := by
  intro i
  induction i with
  | zero => exact Nat.le_refl _
  | succ i ih => show rS M a i + rP M i a ≤ rS M b i + rP M i b; have := (rP_mono' (M := M) (y := i) h).1; omega
theorem rP_congr {M N : Nat → Nat → Bool} {y J : Nat} (h : ∀ x, x < J → M x y = N x y) : ∀ j, j ≤ J → rP M y j = rP N y j := by
  intro j
  induction j with
  | zero => intro _; rfl
  | succ j ih => intro hj; show rP M y j + (if M j y then 1 else 0) = rP N y j + (if N j y then 1 else 0); rw [ih (by omega), h j (by omega)]
/-- the cells of the columns l .. r - 1 in the rows a .. b - 1 -/
def rC (M : Nat → Nat → Bool) (l r a b : Nat) : Nat := (rS M r b - rS M l b) - (rS M r a - rS M l a)
theorem rC_step {M : Nat → Nat → Bool} {l r a b : Nat} (hl : l ≤ r) (hab : a ≤ b) : rC M l r a (b + 1) = rC M l r a b + (rP M b r - rP M b l) ∧ rS M r a - rS M l a ≤ rS M r b - rS M l b := by
  have h1 := rS_mono (M := M) hl a
  have h2 := rS_mono (M := M) hl b
  have h3 := (rP_mono' (M := M) (y := b) hl).1
  have h4 : rS M r a - rS M l a ≤ rS M r b - rS M l b := by
    have key : ∀ d, rS M r a - rS M l a ≤ rS M r (a + d) - rS M l (a + d) := by
      intro d
      induction d with
      | zero => exact Nat.le_refl _
      | succ d ih =>
        have e1 : rS M r (a + (d + 1)) = rS M r (a + d) + rP M (a + d) r := rfl
        have e2 : rS M l (a + (d + 1)) = rS M l (a + d) + rP M (a + d) l := rfl
        have h5 := rS_mono (M := M) hl (a + d)
        have h6 := (rP_mono' (M := M) (y := a + d) hl).1
        omega
    have := key (b - a)
    rw [show a + (b - a) = b from by omega] at this
    exact this
  refine ⟨?_, h4⟩
  unfold rC
  have e1 : rS M r (b + 1) = rS M r b + rP M b r := rfl
  have e2 : rS M l (b + 1) = rS M l b + rP M b l := rfl
  omega
theorem rC_le {M : Nat → Nat → Bool} {l r : Nat} (hl : l ≤ r) (a : Nat) : ∀ d, rC M l r a (a + d) ≤ (r - l) * d := by
  intro d
  induction d with
  | zero => unfold rC; simp
  | succ d ih =>
    have h1 := (rC_step (M := M) hl (show a ≤ a + d by omega)).1
    have h2 := (rP_mono' (M := M) (y := a + d) hl).2
    have : rC M l r a (a + (d + 1)) = rC M l r a (a + d + 1) := rfl
    rw [this, h1, Nat.mul_succ]
    omega
/-- loops of the models, their step alone in sight: by an invariant; where the state is known exactly -/
theorem xpA {α σ R : Type} (F : α → α) (z : α) (A : α → Nat → σ → Option R) (e : Nat) (I : Nat → σ → Prop) (Q : Option R → Prop) (hx : ∀ rr s, I e s → Q (A (F rr) e s)) (hs : ∀ rr j s, j < e → I j s → Q (A (F rr) j s) ∨ ∃ s', I (j + 1) s' ∧ A (F rr) j s = A rr (j + 1) s') : ∀ n j s, j ≤ e → e - j < n → I j s → Q (A (xloop F z n) j s) :=
  xlp (fun n j s => A (xloop F z n) j s) e I Q (fun _ s h => hx _ s h) (fun _ j s h1 h2 => hs _ j s h1 h2)
theorem xgA {α σ R : Type} (F : α → α) (z : α) (A : α → Nat → σ → Option R) (e lo : Nat) (g : Nat → σ) (r : Option R) (hx : ∀ rr, A (F rr) e (g e) = r) (hs : ∀ rr j, lo ≤ j → j < e → A (F rr) j (g j) = r ∨ A (F rr) j (g j) = A rr (j + 1) (g (j + 1))) : ∀ n j, lo ≤ j → j ≤ e → e - j < n → A (xloop F z n) j (g j) = r := by
  intro n j hl hj hn
  refine xpA F z A e (fun j s => lo ≤ j ∧ s = g j) (fun o => o = r) (fun rr s h => by rw [h.2]; exact hx rr) (fun rr j s h1 h2 => ?_) n j (g j) hj hn ⟨hl, rfl⟩
  rw [h2.2]
  rcases hs rr j h2.1 h1 with q | q
  · exact Or.inl q
  · exact Or.inr ⟨_, ⟨by omega, rfl⟩, q⟩
/-- bits of a word -/
theorem pcN_bits : ∀ (k n : Nat), pcN k n = rP (fun x _ => n.testBit x) 0 k := by
  intro k
  induction k with
  | zero => intro n; rfl
  | succ k ih =>
    intro n
    have e : pcN (k + 1) n = pcN k n + pcN 1 (n / 2 ^ k) := pcN_split k 1 n
    rw [e, ih]
    show _ = rP (fun x _ => n.testBit x) 0 k + (if n.testBit k then 1 else 0)
    congr 1
    show n / 2 ^ k % 2 + 0 = _
    rw [Nat.testBit_eq_decide_div_mod_eq]
    by_cases h : n / 2 ^ k % 2 = 1
    · simp [h]
    · have : n / 2 ^ k % 2 = 0 := by omega
      simp [this]
theorem rP_cut {M : Nat → Nat → Bool} {y l r : Nat} (hl : l ≤ r) : ∀ j, rP (fun x y => M x y && decide (l ≤ x ∧ x < r)) y j = rP M y (if j < r then j else r) - rP M y (if j < l then j else l) := by
  intro j
  induction j with
  | zero =>
    rw [show (if 0 < r then 0 else r) = 0 from by split <;> omega, show (if 0 < l then 0 else l) = 0 from by split <;> omega]
    rfl
  | succ j ih =>
    show rP _ y j + (if M j y && decide (l ≤ j ∧ j < r) then 1 else 0) = _
    rw [ih]
    by_cases h1 : j < l
    · rw [if_pos (show j < r by omega), if_pos h1, decide_eq_false (by omega), Bool.and_false]
      by_cases h2 : j + 1 < l
      · rw [if_pos (show j + 1 < r by omega), if_pos h2]; simp
      · have : l = j + 1 := by omega
        subst this
        rw [if_neg (show ¬ j + 1 < j + 1 by omega)]
        by_cases h3 : j + 1 < r
        · rw [if_pos h3]; simp
        · rw [if_neg h3, show r = j + 1 from by omega]; simp
    · rw [if_neg h1, if_neg (show ¬ j + 1 < l by omega)]
      by_cases h2 : j < r
      · rw [if_pos h2, decide_eq_true (by omega), Bool.and_true]
        have hm := (rP_mono' (M := M) (y := y) (show l ≤ j by omega)).1
        have e : rP M y (j + 1) = rP M y j + (if M j y then 1 else 0) := rfl
        by_cases h3 : j + 1 < r
        · rw [if_pos h3, e]; omega
        · rw [if_neg h3, show r = j + 1 from by omega, e]; omega
      · rw [show decide (l ≤ j ∧ j < r) = false from decide_eq_false (by omega), Bool.and_false, if_neg h2, if_neg (show ¬ j + 1 < r by omega)]; simp
theorem v_rowCount {r : t_CellSet} {y l e : Nat} {w : Int64} (hl : l ≤ e) (he : e ≤ 48) (hw : ∀ j : Nat, tb w j = decide (j < 48 ∧ (l : Int) ≤ j ∧ (j : Int) < e)) : f_Long_bitCount (r y &&& w) = some (nI (rP (cs r) y e - rP (cs r) y l)) := by
  rw [v_bitCount, pcN_bits]
  congr 2
  have h1 : rP (fun x _ => (uw (r y &&& w)).testBit x) 0 64 = rP (fun x y => cs r x y && decide (l ≤ x ∧ x < e)) y 64 := by
    have key : ∀ j, rP (fun x _ => (uw (r y &&& w)).testBit x) 0 j = rP (fun x y => cs r x y && decide (l ≤ x ∧ x < e)) y j := by
      intro j
      induction j with
      | zero => rfl
      | succ j ih =>
        show rP _ 0 j + (if (uw (r y &&& w)).testBit j then 1 else 0) = rP _ y j + _
        rw [ih]
        congr 1
        have : (uw (r y &&& w)).testBit j = (cs r j y && decide (l ≤ j ∧ j < e)) := by
          show tb (r y &&& w) j = _
          rw [tb_and, hw]
          unfold cs
          congr 1
          rw [decide_eq_decide]
          omega
        rw [this]
    exact key 64
  rw [h1, rP_cut hl, if_neg (by omega), if_neg (by omega)]
theorem v_countAround {r : t_CellSet} {x y w : Nat} (hx : x < 48) (hy : y < 48) (hw : w ≤ 6) : f_CellSet_countAround r (nI x) (nI y) (nI w) = some (nI (rC (cs r) (x - w) (if 48 < x + w + 1 then 48 else x + w + 1) (y - w) (if 48 < y + w + 1 then 48 else y + w + 1))) := by
  have bx : (nI x).toInt = x := i_n (by omega)
  have by' : (nI y).toInt = y := i_n (by omega)
  have bw : (nI w).toInt = w := i_n (by omega)
  have s1 : (nI x - nI w).toInt = (x : Int) - w := by rw [i_sub (by omega) (by omega), bx, bw]
  have s2 : (nI y - nI w).toInt = (y : Int) - w := by rw [i_sub (by omega) (by omega), by', bw]
  have a1 : nI x + nI w + 1 = nI (x + w + 1) := by rw [nI_add, nI_1]
  have a2 : nI y + nI w + 1 = nI (y + w + 1) := by rw [nI_add, nI_1]
  unfold f_CellSet_countAround
  rw [a1, a2]
  obtain ⟨cw, hcw, hb⟩ := v_columnBits (nI x - nI w) (nI (x + w + 1))
  rw [hcw]
  rw [s1, i_n (by omega)] at hb
  have eE : (if (48 : Int32) < nI (y + w + 1) then (48 : Int32) else nI (y + w + 1)) = nI (if 48 < y + w + 1 then 48 else y + w + 1) := by
    by_cases h : 48 < y + w + 1
    · rw [if_pos h, if_pos (by rw [i_lt, c48, i_n (by omega)]; omega)]; rfl
    · rw [if_neg h, if_neg (by rw [i_lt, c48, i_n (by omega)]; omega)]
  have eL : (if nI y - nI w < (0 : Int32) then (0 : Int32) else nI y - nI w) = nI (y - w) := by
    by_cases h : y < w
    · rw [if_pos (by rw [i_lt, s2, c0]; omega), show y - w = 0 from by omega]; rfl
    · rw [if_neg (by rw [i_lt, s2, c0]; omega), i_eq, s2, i_n (by omega)]; omega
  show xloop (fun q => f_CellSet_countAround_37 r q) (fun _ _ _ _ => none) 100000 cw _ 0 _ = _
  rw [eE, eL]
  generalize hE : (if 48 < y + w + 1 then 48 else y + w + 1) = E
  generalize hR : (if 48 < x + w + 1 then 48 else x + w + 1) = R
  have hE2 : y - w < E ∧ E ≤ 48 := by rw [← hE]; split <;> omega
  have hR2 : x - w < R ∧ R ≤ 48 := by rw [← hR]; split <;> omega
  have hb2 : ∀ j : Nat, tb cw j = decide (j < 48 ∧ ((x - w : Nat) : Int) ≤ j ∧ (j : Int) < R) := by
    intro j
    rw [hb, decide_eq_decide]
    split at hR <;> omega
  have hstart : nI (rC (cs r) (x - w) R (y - w) (y - w)) = 0 := by unfold rC; rw [Nat.sub_self]; rfl
  have key := xgA (fun q => f_CellSet_countAround_37 r q) (fun _ _ _ _ => none) (fun q j (s : Int32) => q cw (nI E) s (nI j)) E (y - w) (fun j => nI (rC (cs r) (x - w) R (y - w) j)) (some (nI (rC (cs r) (x - w) R (y - w) E))) (fun rr => by
    show f_CellSet_countAround_37 r rr cw (nI E) _ (nI E) = _
    unfold f_CellSet_countAround_37
    rw [if_pos (Int32.le_refl _)]) (fun rr j h1 h2 => by
    right
    show f_CellSet_countAround_37 r rr cw (nI E) _ (nI j) = rr cw (nI E) _ (nI (j + 1))
    unfold f_CellSet_countAround_37
    rw [if_neg (nle_n hE2.2 h2), if_pos (xin_n (by omega) (by decide)), nI_clamp (by omega)]
    have e1 : CellSet_rows r j = r j := rfl
    rw [e1, v_rowCount (Nat.le_of_lt hR2.1) hR2.2 hb2]
    show rr cw (nI E) (nI _ + nI _) (nI j + 1) = _
    rw [nI_add, nI_1, ← (rC_step (M := cs r) (Nat.le_of_lt hR2.1) h1).1]) 100000 (y - w) (Nat.le_refl _) (Nat.le_of_lt hE2.1) (by omega)
  rw [hstart] at key
  exact key
/-- what the image is, by a count -/
def im (cnt : Nat → Nat) (wt : Nat → Int32) : Nat → Int32
  | 0 => 0
  | k + 1 => im cnt wt k + wt k * nI (cnt k)
theorem im_b {cnt : Nat → Nat} {wt : Nat → Int32} : ∀ k, k ≤ 6 → (∀ j, j < k → cnt j ≤ 169 ∧ -20 ≤ (wt j).toInt ∧ (wt j).toInt ≤ 20) → -(3380 * (k : Int)) ≤ (im cnt wt k).toInt ∧ (im cnt wt k).toInt ≤ 3380 * (k : Int) := by
  intro k
  induction k with
  | zero => intro _ _; have : (im cnt wt 0).toInt = 0 := rfl; omega
  | succ k ih =>
    intro hk h
    obtain ⟨h1, h2⟩ := ih (by omega) (fun j hj => h j (by omega))
    obtain ⟨q1, q2, q3⟩ := h k (by omega)
    have c1 : (nI (cnt k)).toInt = cnt k := i_n (by omega)
    have m1 : -3380 ≤ (wt k).toInt * (cnt k : Int) ∧ (wt k).toInt * (cnt k : Int) ≤ 3380 := by
      have hc : (0 : Int) ≤ cnt k ∧ (cnt k : Int) ≤ 169 := by omega
      constructor
      · have : -20 * (cnt k : Int) ≤ (wt k).toInt * (cnt k : Int) := Int.mul_le_mul_of_nonneg_right q2 hc.1
        omega
      · have : (wt k).toInt * (cnt k : Int) ≤ 20 * (cnt k : Int) := Int.mul_le_mul_of_nonneg_right q3 hc.1
        omega
    have e1 : (wt k * nI (cnt k)).toInt = (wt k).toInt * (cnt k : Int) := by rw [i_mul (by rw [c1]; omega) (by rw [c1]; omega), c1]
    have e2 : (im cnt wt (k + 1)).toInt = (im cnt wt k).toInt + (wt k).toInt * (cnt k : Int) := by
      show (im cnt wt k + wt k * nI (cnt k)).toInt = _
      rw [i_add (by rw [e1]; omega) (by rw [e1]; omega), e1]
    rw [e2]
    omega
def cnt48 (M : Nat → Nat → Bool) (x y w : Nat) : Nat := rC M (x - w) (if 48 < x + w + 1 then 48 else x + w + 1) (y - w) (if 48 < y + w + 1 then 48 else y + w + 1)
theorem cnt48_le {M : Nat → Nat → Bool} {x y w : Nat} (hx : x < 48) (hy : y < 48) (hw : w ≤ 6) : cnt48 M x y w ≤ 169 := by
  unfold cnt48
  generalize hE : (if 48 < y + w + 1 then 48 else y + w + 1) = E
  generalize hR : (if 48 < x + w + 1 then 48 else x + w + 1) = R
  have hE2 : y - w < E ∧ E ≤ y - w + 13 := by rw [← hE]; split <;> omega
  have hR2 : x - w < R ∧ R - (x - w) ≤ 13 := by rw [← hR]; split <;> omega
  have := rC_le (M := M) (Nat.le_of_lt hR2.1) (y - w) (E - (y - w))
  rw [show y - w + (E - (y - w)) = E from by omega] at this
  have h2 : (R - (x - w)) * (E - (y - w)) ≤ 13 * 13 := Nat.mul_le_mul hR2.2 (by omega)
  omega
/-- kernels as they may be -/
def okE (e : t_Exposure) (n : Nat) : Prop := Exposure_kernels e = nI n ∧ n ≤ 6 ∧ (∀ k, k < n → (-20 ≤ (Exposure_weights e k).toInt ∧ (Exposure_weights e k).toInt ≤ 20) ∧ (0 ≤ (Exposure_widths e k).toInt ∧ (Exposure_widths e k).toInt ≤ 6)) ∧ 1 ≤ (Exposure_threshold e).toInt ∧ (Exposure_threshold e).toInt ≤ 100000
def imE (e : t_Exposure) (n : Nat) (M : Nat → Nat → Bool) (x y : Nat) : Int32 := im (fun k => cnt48 M x y (Exposure_widths e k).toInt.toNat) (Exposure_weights e) n
theorem v_imageAt {e : t_Exposure} {n : Nat} (hE : okE e n) (r : t_CellSet) {x y : Nat} (hx : x < 48) (hy : y < 48) : f_Exposure_imageAt e r (nI x) (nI y) = some (imE e n (cs r) x y) := by
  obtain ⟨h1, h2, h3, -⟩ := hE
  unfold f_Exposure_imageAt
  refine xgA (fun q => f_Exposure_imageAt_6 e r q) (fun _ _ _ _ => none) (fun q j (s : Int32) => q (nI x) (nI y) s (nI j)) n 0 (fun j => imE e j (cs r) x y) (some (imE e n (cs r) x y)) (fun rr => by
    show f_Exposure_imageAt_6 e r rr (nI x) (nI y) _ (nI n) = _
    unfold f_Exposure_imageAt_6
    rw [h1, if_pos (Int32.le_refl _)]) (fun rr j _ hj => by
    right
    show f_Exposure_imageAt_6 e r rr (nI x) (nI y) _ (nI j) = rr (nI x) (nI y) _ (nI (j + 1))
    unfold f_Exposure_imageAt_6
    obtain ⟨-, q3, q4⟩ := h3 j hj
    rw [h1, if_neg (by rw [i_le, i_n (by omega), i_n (by omega)]; omega), if_pos (xin_n (by omega) (by decide)), if_pos (xin_n (by omega) (by decide)), nI_clamp (by omega)]
    have e3 : f_CellSet_countAround r (nI x) (nI y) (Exposure_widths e j) = some (nI (cnt48 (cs r) x y (Exposure_widths e j).toInt.toNat)) := by
      conv => lhs; rw [i_of q3]
      exact v_countAround hx hy (by omega)
    rw [e3]
    show rr (nI x) (nI y) (_ + _ * _) (nI j + 1) = _
    rw [nI_1]
    rfl) 100000 0 (Nat.le_refl _) (Nat.zero_le _) (by omega)
theorem imE_b {e : t_Exposure} {n : Nat} (hE : okE e n) (M : Nat → Nat → Bool) {x y : Nat} (hx : x < 48) (hy : y < 48) : -20280 ≤ (imE e n M x y).toInt ∧ (imE e n M x y).toInt ≤ 20280 := by
  obtain ⟨h1, h2, h3, -⟩ := hE
  have := im_b (cnt := fun k => cnt48 M x y (Exposure_widths e k).toInt.toNat) (wt := Exposure_weights e) n h2 (fun j hj => ⟨cnt48_le hx hy (by have := (h3 j hj).2; omega), (h3 j hj).1⟩)
  unfold imE
  omega
/-- does a cell print -/
def pr (e : t_Exposure) (n : Nat) (M : Nat → Nat → Bool) (x y d : Int) : Bool := gr x y && decide (100 * (Exposure_threshold e).toInt ≤ (imE e n M x.toNat y.toNat).toInt * d)
theorem v_printsAt {e : t_Exposure} {n : Nat} (hE : okE e n) (r : t_CellSet) (x y d : Int32) (hd : 1 ≤ d.toInt ∧ d.toInt ≤ 1000) : f_Exposure_printsAt e r x y d = some (b2 (pr e n (cs r) x.toInt y.toInt d.toInt)) := by
  unfold f_Exposure_printsAt pr
  rw [v_onGrid]
  show (if b2 _ = 0 then _ else _) = _
  rw [b2_if]
  cases hg : gr x.toInt y.toInt with
  | false => rfl
  | true =>
    obtain ⟨h1, h2, h3, h4⟩ := gr_t hg
    rw [if_pos rfl]
    have e1 : x = nI x.toInt.toNat := i_of h1
    have e2 : y = nI y.toInt.toNat := i_of h3
    have e3 : f_Exposure_imageAt e r x y = some (imE e n (cs r) x.toInt.toNat y.toInt.toNat) := by
      conv => lhs; rw [e1, e2]
      exact v_imageAt hE r (by omega) (by omega)
    rw [e3]
    show (if _ < _ then _ else _) = _
    have hb := imE_b hE (cs r) (x := x.toInt.toNat) (y := y.toInt.toNat) (by omega) (by omega)
    obtain ⟨-, -, -, t1, t2⟩ := hE
    generalize imE e n (cs r) x.toInt.toNat y.toInt.toNat = v at hb
    have m1 : -20280000 ≤ v.toInt * d.toInt ∧ v.toInt * d.toInt ≤ 20280000 := by
      constructor
      · have a1 : -20280 * d.toInt ≤ v.toInt * d.toInt := Int.mul_le_mul_of_nonneg_right hb.1 (by omega)
        omega
      · have a1 : v.toInt * d.toInt ≤ 20280 * d.toInt := Int.mul_le_mul_of_nonneg_right hb.2 (by omega)
        omega
    have e4 : (v * d).toInt = v.toInt * d.toInt := i_mul (by omega) (by omega)
    have e5 : ((100 : Int32) * Exposure_threshold e).toInt = 100 * (Exposure_threshold e).toInt := i_mul (by show _ ≤ 100 * _; omega) (by show 100 * _ < _; omega)
    rw [Bool.true_and]
    by_cases h : (v * d) < ((100 : Int32) * Exposure_threshold e)
    · rw [if_pos h]
      rw [i_lt, e4, e5] at h
      rw [decide_eq_false (by omega)]
      rfl
    · rw [if_neg h]
      rw [i_lt, e4, e5] at h
      rw [decide_eq_true (by omega)]
      rfl
