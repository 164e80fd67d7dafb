/-! The image, what prints, the errors: the reference as the class. -/
theorem rS_congr {M N : Nat → Nat → Bool} {J I : Nat} (h : ∀ a b, a < J → b < I → M a b = N a b) : ∀ i, i ≤ I → ∀ j, j ≤ J → rS M j i = rS N j i := by
  intro i
  induction i with
  | zero => intro _ j _; rfl
  | succ i ih =>
    intro hi j hj
    show rS M j i + rP M i j = rS N j i + rP N i j
    rw [ih (by omega) j hj, rP_congr (fun x hx => h x i hx (by omega)) j hj]
theorem cnt48_congr {M N : Nat → Nat → Bool} (h : ∀ a b, a < 48 → b < 48 → M a b = N a b) {x y w : Nat} (hx : x < 48) (hy : y < 48) : cnt48 M x y w = cnt48 N x y w := by
  unfold cnt48 rC
  have a1 : (if 48 < x + w + 1 then 48 else x + w + 1) ≤ 48 := by split <;> omega
  have a2 : (if 48 < y + w + 1 then 48 else y + w + 1) ≤ 48 := by split <;> omega
  rw [rS_congr h _ a2 _ a1, rS_congr h _ a2 (x - w) (by omega), rS_congr h (y - w) (by omega) _ a1, rS_congr h (y - w) (by omega) (x - w) (by omega)]
theorem im_congr {c1 c2 : Nat → Nat} {wt : Nat → Int32} (h : ∀ k, c1 k = c2 k) : ∀ k, im c1 wt k = im c2 wt k := by
  intro k
  induction k with
  | zero => rfl
  | succ k ih => show im c1 wt k + wt k * nI (c1 k) = im c2 wt k + wt k * nI (c2 k); rw [ih, h]
theorem imE_congr {e : t_Exposure} {n : Nat} {M N : Nat → Nat → Bool} (h : ∀ a b, a < 48 → b < 48 → M a b = N a b) {x y : Nat} (hx : x < 48) (hy : y < 48) : imE e n M x y = imE e n N x y := by
  have key : ∀ k, cnt48 M x y (Exposure_widths e k).toInt.toNat = cnt48 N x y (Exposure_widths e k).toInt.toNat := fun k => cnt48_congr h hx hy
  unfold imE
  generalize hc : (fun k => cnt48 M x y (Exposure_widths e k).toInt.toNat) = c1
  generalize hd : (fun k => cnt48 N x y (Exposure_widths e k).toInt.toNat) = c2
  refine im_congr (fun k => ?_) n
  rw [← hc, ← hd]
  exact key k
theorem pr_congr {e : t_Exposure} {n : Nat} {M N : Nat → Nat → Bool} (h : ∀ a b, a < 48 → b < 48 → M a b = N a b) (x y d : Int) : pr e n M x y d = pr e n N x y d := by
  unfold pr
  by_cases hg : gr x y = true
  · have hb := gr_t hg
    have hx : x.toNat < 48 := by omega
    have hy : y.toNat < 48 := by omega
    rw [imE_congr (e := e) (n := n) h hx hy]
  · rw [Bool.not_eq_true] at hg
    rw [hg, Bool.false_and, Bool.false_and]
def relE (e : t_Exposure) (y : ySt) (n : Nat) : Prop := Y_kernels y = nI n ∧ (∀ k, k < 6 → Y_weights y k = Exposure_weights e k ∧ Y_widths y k = Exposure_widths e k) ∧ Y_threshold y = Exposure_threshold e
theorem v_rwithin {a : Int32} : f_MaskEdgesModel_within a = some (nI (if a.toInt < 0 then 0 else if 48 < a.toInt then 48 else a.toInt.toNat)) := by
  unfold f_MaskEdgesModel_within
  simp only [i_le, c0, c48]
  by_cases h1 : 0 ≤ a.toInt
  · rw [if_pos h1, if_neg (show ¬ a.toInt < 0 by omega)]
    by_cases h2 : a.toInt ≤ 48
    · rw [if_pos h2, if_neg (by omega), ← i_of h1]
    · rw [if_neg h2, if_pos (by omega)]; rfl
  · rw [if_neg h1, if_pos (by omega)]; rfl
theorem sum4 {A B C D : Nat} (h1 : B ≤ A) (h2 : D ≤ C) (h3 : C - D ≤ A - B) (hA : A ≤ 3000) (hC : C ≤ 3000) : nI A - nI B - nI C + nI D = nI ((A - B) - (C - D)) := by
  have a1 := i_n (n := A) (by omega)
  have a2 := i_n (n := B) (by omega)
  have a3 := i_n (n := C) (by omega)
  have a4 := i_n (n := D) (by omega)
  have s1 : (nI A - nI B).toInt = (A : Int) - B := by rw [i_sub (by omega) (by omega), a1, a2]
  have s2 : (nI A - nI B - nI C).toInt = (A : Int) - B - C := by rw [i_sub (by omega) (by omega), s1, a3]
  rw [i_eq, i_add (by omega) (by omega), s2, a4, i_n (by omega)]
  omega
theorem v_countAt {y : ySt} {M : Nat → Nat → Bool} (hS : gS (Y_sums y) M) {x z w : Nat} (hx : x < 48) (hz : z < 48) (hw : w ≤ 6) : f_MaskEdgesModel_countAt y (nI x) (nI z) (nI w) = some (nI (cnt48 M x z w)) := by
  have bx : (nI x).toInt = x := i_n (by omega)
  have bz : (nI z).toInt = z := i_n (by omega)
  have bw : (nI w).toInt = w := i_n (by omega)
  have s1 : (nI x - nI w).toInt = (x : Int) - w := by rw [i_sub (by omega) (by omega), bx, bw]
  have s2 : (nI z - nI w).toInt = (z : Int) - w := by rw [i_sub (by omega) (by omega), bz, bw]
  have a1 : nI x + nI w + 1 = nI (x + w + 1) := by rw [nI_add, nI_1]
  have a2 : nI z + nI w + 1 = nI (z + w + 1) := by rw [nI_add, nI_1]
  unfold f_MaskEdgesModel_countAt cnt48
  rw [a1, a2, v_rwithin, v_rwithin, v_rwithin, v_rwithin, s1, s2, i_n (by omega), i_n (by omega)]
  have q1 : (if (x : Int) - w < 0 then 0 else if 48 < (x : Int) - w then 48 else ((x : Int) - w).toNat) = x - w := by
    split
    · omega
    · split <;> omega
  have q2 : (if (z : Int) - w < 0 then 0 else if 48 < (z : Int) - w then 48 else ((z : Int) - w).toNat) = z - w := by
    split
    · omega
    · split <;> omega
  have q3 : (if ((x + w + 1 : Nat) : Int) < 0 then 0 else if 48 < ((x + w + 1 : Nat) : Int) then 48 else ((x + w + 1 : Nat) : Int).toNat) = (if 48 < x + w + 1 then 48 else x + w + 1) := by
    rw [if_neg (by omega)]
    by_cases q : 48 < x + w + 1
    · rw [if_pos q, if_pos (by omega)]
    · rw [if_neg q, if_neg (by omega)]; omega
  have q4 : (if ((z + w + 1 : Nat) : Int) < 0 then 0 else if 48 < ((z + w + 1 : Nat) : Int) then 48 else ((z + w + 1 : Nat) : Int).toNat) = (if 48 < z + w + 1 then 48 else z + w + 1) := by
    rw [if_neg (by omega)]
    by_cases q : 48 < z + w + 1
    · rw [if_pos q, if_pos (by omega)]
    · rw [if_neg q, if_neg (by omega)]; omega
  rw [q1, q2, q3, q4]
  generalize hR : (if 48 < x + w + 1 then 48 else x + w + 1) = R
  generalize hE : (if 48 < z + w + 1 then 48 else z + w + 1) = E
  have r1 : x - w ≤ R ∧ R ≤ 48 := by rw [← hR]; split <;> omega
  have r2 : z - w ≤ E ∧ E ≤ 48 := by rw [← hE]; split <;> omega
  rw [Option.bind_some, Option.bind_some, Option.bind_some, Option.bind_some, ix49, ix49, ix49, ix49]
  rw [if_pos (xin_n (by omega) (by omega)), if_pos (xin_n (by omega) (by omega)), if_pos (xin_n (by omega) (by omega)), if_pos (xin_n (by omega) (by omega)), nI_clamp (by omega), nI_clamp (by omega), nI_clamp (by omega), nI_clamp (by omega)]
  rw [hS E R r2.2 r1.2, hS E (x - w) r2.2 (by omega), hS (z - w) R (by omega) r1.2, hS (z - w) (x - w) (by omega) (by omega)]
  have l1 := rS_mono (M := M) r1.1 E
  have l2 := rS_mono (M := M) r1.1 (z - w)
  have l3 := (rC_step (M := M) r1.1 r2.1).2
  have l4 := rS_le M R E
  have l5 := rS_le M R (z - w)
  have l6 : R * E ≤ 48 * 48 := Nat.mul_le_mul r1.2 r2.2
  have l7 : R * (z - w) ≤ 48 * 48 := Nat.mul_le_mul r1.2 (by omega)
  rw [sum4 l1 l2 l3 (by omega) (by omega)]
  rfl
theorem v_rimageAt {e : t_Exposure} {n : Nat} (hE : okE e n) {y : ySt} (hr : relE e y n) {M : Nat → Nat → Bool} (hS : gS (Y_sums y) M) {x z : Nat} (hx : x < 48) (hz : z < 48) : f_MaskEdgesModel_imageAt y (nI x) (nI z) = some (imE e n M x z) := by
  obtain ⟨h1, h2, h3, -⟩ := hE
  obtain ⟨k1, k2, -⟩ := hr
  unfold f_MaskEdgesModel_imageAt
  refine xgA (fun q => f_MaskEdgesModel_imageAt_5 y q) (fun _ _ _ _ => none) (fun q j (s : Int32) => q (nI x) (nI z) s (nI j)) n 0 (fun j => imE e j M x z) (some (imE e n M x z)) (fun rr => by
    show f_MaskEdgesModel_imageAt_5 y rr (nI x) (nI z) _ (nI n) = _
    unfold f_MaskEdgesModel_imageAt_5
    rw [k1, if_pos (Int32.le_refl _)]) (fun rr j _ hj => by
    right
    show f_MaskEdgesModel_imageAt_5 y rr (nI x) (nI z) _ (nI j) = rr (nI x) (nI z) _ (nI (j + 1))
    unfold f_MaskEdgesModel_imageAt_5
    obtain ⟨-, q3, q4⟩ := h3 j hj
    rw [k1, if_neg (by rw [i_le, i_n (by omega), i_n (by omega)]; omega), if_pos (xin_n (by omega) (by omega)), if_pos (xin_n (by omega) (by omega)), nI_clamp (by omega), (k2 j (by omega)).1, (k2 j (by omega)).2]
    have e3 : f_MaskEdgesModel_countAt y (nI x) (nI z) (Exposure_widths e j) = some (nI (cnt48 M x z (Exposure_widths e j).toInt.toNat)) := by
      conv => lhs; rw [i_of q3]
      exact v_countAt hS hx hz (by omega)
    rw [e3, Option.bind_some, nI_1]
    rfl) 100000 0 (Nat.le_refl _) (Nat.zero_le _) (by omega)
theorem l_mul {a b : Int64} (h1 : -9223372036854775808 ≤ a.toInt * b.toInt) (h2 : a.toInt * b.toInt < 9223372036854775808) : (a * b).toInt = a.toInt * b.toInt := by
  rw [Int64.toInt_mul]; exact Int.bmod_eq_of_le (by omega) (by omega)
theorem v_doesPrint {e : t_Exposure} {n : Nat} (hE : okE e n) {y : ySt} (hr : relE e y n) {M : Nat → Nat → Bool} (hS : gS (Y_sums y) M) (a b d : Int32) (hd : 1 ≤ d.toInt ∧ d.toInt ≤ 1000) : f_MaskEdgesModel_doesPrint y a b d = some (b2 (pr e n M a.toInt b.toInt d.toInt)) := by
  unfold f_MaskEdgesModel_doesPrint pr
  rw [v_isCell, Option.bind_some, b2_if]
  by_cases hg : gr a.toInt b.toInt = true
  · have hb := gr_t hg
    rw [if_pos hg, hg, Bool.true_and]
    have e3 : f_MaskEdgesModel_imageAt y a b = some (imE e n M a.toInt.toNat b.toInt.toNat) := by
      conv => lhs; rw [i_of (a := a) (by omega), i_of (a := b) (by omega)]
      exact v_rimageAt hE hr hS (by omega) (by omega)
    rw [e3, Option.bind_some]
    have hv := imE_b hE M (x := a.toInt.toNat) (y := b.toInt.toNat) (by omega) (by omega)
    obtain ⟨-, -, -, t1, t2⟩ := hE
    rw [hr.2.2]
    generalize imE e n M a.toInt.toNat b.toInt.toNat = v at hv
    have m1 : -20280000 ≤ v.toInt * d.toInt ∧ v.toInt * d.toInt ≤ 20280000 := by
      constructor
      · have a1 : -20280 * d.toInt ≤ v.toInt * d.toInt := Int.mul_le_mul_of_nonneg_right hv.1 (by omega)
        omega
      · have a1 : v.toInt * d.toInt ≤ 20280 * d.toInt := Int.mul_le_mul_of_nonneg_right hv.2 (by omega)
        omega
    have e4 : (v.toInt64 * d.toInt64).toInt = v.toInt * d.toInt := by rw [l_mul (by rw [l_i, l_i]; omega) (by rw [l_i, l_i]; omega), l_i, l_i]
    have c100 : (100 : Int64).toInt = 100 := rfl
    have e5 : ((100 : Int64) * (Exposure_threshold e).toInt64).toInt = 100 * (Exposure_threshold e).toInt := by rw [l_mul (by rw [l_i, c100]; omega) (by rw [l_i, c100]; omega), l_i, c100]
    by_cases h : lg_cmp (v.toInt64 * d.toInt64) ((100 : Int64) * (Exposure_threshold e).toInt64) < 0
    · rw [if_pos h]
      rw [lgc_lt, e4, e5] at h
      rw [decide_eq_false (by omega)]; rfl
    · rw [if_neg h]
      rw [lgc_lt, e4, e5] at h
      rw [decide_eq_true (by omega)]; rfl
  · rw [Bool.not_eq_true] at hg
    rw [hg]; rfl
