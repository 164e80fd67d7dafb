/-! The reference's make: its mask and its sums. -/
def relB (b : t_Box) (y : ySt) (k : Nat) : Prop := Y_barX y k = Box_left b ∧ Y_barY y k = Box_top b ∧ Y_barFarX y k = Box_right b - 1 ∧ Y_barFarY y k = Box_bottom b - 1
def okBx (b : t_Box) : Prop := (0 ≤ (Box_left b).toInt ∧ (Box_left b).toInt < (Box_right b).toInt ∧ (Box_right b).toInt ≤ 48) ∧ (0 ≤ (Box_top b).toInt ∧ (Box_top b).toInt < (Box_bottom b).toInt ∧ (Box_bottom b).toInt ≤ 48)
def anyB (B : Nat → t_Box) (x z : Nat) : Nat → Bool
  | 0 => false
  | k + 1 => anyB B x z k || inb (B k) x z
theorem v_make1 {P : Nat → t_Outline} {y : ySt} {c : Nat} (hO : relO P y c) : ∃ m, f_MaskEdgesModel_make y = f_MaskEdgesModel_make_45 (Y_u_mask y m) ∧ gM m (fun a b => tgt P a b c) := by
  unfold f_MaskEdgesModel_make
  refine xpA (fun r => f_MaskEdgesModel_make_2 r f_MaskEdgesModel_make_45) (fun _ _ => none) (fun q j (s : ySt) => q (nI j) s) 48 (fun j s => ∃ m, s = Y_u_mask y m ∧ ∀ a b : Nat, a < 48 → b < j → m (48 * b + a) = b2 (tgt P a b c)) (fun o => ∃ m, o = f_MaskEdgesModel_make_45 (Y_u_mask y m) ∧ gM m (fun a b => tgt P a b c)) ?_ ?_ 100000 0 y (by decide) (by decide) ⟨Y_mask y, rfl, fun a b _ h => absurd h (by omega)⟩
  · rintro rr s ⟨m, rfl, hm⟩
    refine ⟨m, ?_, fun a b ha hb => hm a b ha hb⟩
    show f_MaskEdgesModel_make_2 rr f_MaskEdgesModel_make_45 (nI 48) _ = _
    unfold f_MaskEdgesModel_make_2
    rw [if_pos (by decide)]
  · rintro rr j s hj ⟨m, rfl, hm⟩
    right
    show ∃ s', _ ∧ f_MaskEdgesModel_make_2 rr f_MaskEdgesModel_make_45 (nI j) (Y_u_mask y m) = rr (nI (j + 1)) s'
    unfold f_MaskEdgesModel_make_2
    rw [if_neg (nlt48 hj)]
    refine xpA (fun r => f_MaskEdgesModel_make_10 r (f_MaskEdgesModel_make_39 rr)) (fun _ _ _ => none) (fun q i (s : ySt) => q (nI j) (nI i) s) 48 (fun i s => ∃ m, s = Y_u_mask y m ∧ ∀ a b : Nat, a < 48 → (b < j ∨ (b = j ∧ a < i)) → m (48 * b + a) = b2 (tgt P a b c)) (fun o => ∃ s', (∃ m, s' = Y_u_mask y m ∧ ∀ a b : Nat, a < 48 → b < j + 1 → m (48 * b + a) = b2 (tgt P a b c)) ∧ o = rr (nI (j + 1)) s') ?_ ?_ 100000 0 (Y_u_mask y m) (by decide) (by decide) ⟨m, rfl, fun a b ha hb => hm a b ha (by omega)⟩
    · rintro r2 s ⟨m2, rfl, h2⟩
      refine ⟨Y_u_mask y m2, ⟨m2, rfl, fun a b ha hb => h2 a b ha (by omega)⟩, ?_⟩
      show f_MaskEdgesModel_make_10 r2 (f_MaskEdgesModel_make_39 rr) (nI j) (nI 48) _ = _
      unfold f_MaskEdgesModel_make_10 f_MaskEdgesModel_make_39
      rw [if_pos (by decide), nI_1]
    · rintro r2 i s hi ⟨m2, rfl, h2⟩
      right
      show ∃ s', _ ∧ f_MaskEdgesModel_make_10 r2 (f_MaskEdgesModel_make_39 rr) (nI j) (nI i) (Y_u_mask y m2) = r2 (nI j) (nI (i + 1)) s'
      unfold f_MaskEdgesModel_make_10
      have hO2 : relO P (Y_u_mask y m2) c := hO
      rw [if_neg (nlt48 hi), v_isTarget hO2, Option.bind_some, ix48, if_pos (xin_n (by omega) (by decide)), nI_clamp (by omega), b2_nar, nI_1, i_n (by omega), i_n (by omega)]
      refine ⟨Y_u_mask y (upd m2 (48 * j + i) (b2 (tgt P i j c))), ⟨_, rfl, fun a b ha hb => ?_⟩, rfl⟩
      by_cases q : b = j ∧ a = i
      · rw [q.1, q.2, pk_us]
      · rw [pk_un (by omega)]
        exact h2 a b ha (by omega)
theorem v_make2 {Q : Nat → t_Piece} {y : ySt} {n : Nat} (hn : Y_pieces y = nI n) (hn2 : n ≤ 120) (hQ : ∀ k, k < n → okP (Q k) ∧ relQ (Q k) y k) (m : Nat → Int32) (M : Nat → Nat → Bool) (hm : gM m M) : ∃ m', f_MaskEdgesModel_make_45 (Y_u_mask y m) = f_MaskEdgesModel_make_66 (Y_u_mask y m') ∧ gM m' (fm Q M n) := by
  unfold f_MaskEdgesModel_make_45
  refine xpA (fun r => f_MaskEdgesModel_make_47 r f_MaskEdgesModel_make_66) (fun _ _ => none) (fun q j (s : ySt) => q (nI j) s) n (fun j s => ∃ m', s = Y_u_mask y m' ∧ gM m' (fm Q M j)) (fun o => ∃ m', o = f_MaskEdgesModel_make_66 (Y_u_mask y m') ∧ gM m' (fm Q M n)) ?_ ?_ 100000 0 _ (Nat.zero_le _) (by omega) ⟨m, rfl, hm⟩
  · rintro rr s ⟨m', rfl, h⟩
    refine ⟨m', ?_, h⟩
    show f_MaskEdgesModel_make_47 rr f_MaskEdgesModel_make_66 (nI n) _ = _
    unfold f_MaskEdgesModel_make_47
    rw [show Y_pieces (Y_u_mask y m') = nI n from hn, if_pos (Int32.le_refl _)]
  · rintro rr j s hj ⟨m', rfl, h⟩
    right
    obtain ⟨m2, e2, q2⟩ := v_putPiece (hQ j hj).1 (y := Y_u_mask y m') (by omega) (hQ j hj).2
    refine ⟨Y_u_mask y m2, ⟨m2, rfl, q2 _ h⟩, ?_⟩
    show f_MaskEdgesModel_make_47 rr f_MaskEdgesModel_make_66 (nI j) _ = _
    unfold f_MaskEdgesModel_make_47
    rw [show Y_pieces (Y_u_mask y m') = nI n from hn, if_neg (by rw [i_le, i_n (by omega), i_n (by omega)]; omega), e2, Option.bind_some, nI_1]
    rfl
theorem v_make3 {B : Nat → t_Box} {y : ySt} {nb : Nat} (hn : Y_bars y = nI nb) (hn2 : nb ≤ 24) (hB : ∀ k, k < nb → okBx (B k) ∧ relB (B k) y k) (m : Nat → Int32) (M : Nat → Nat → Bool) (hm : gM m M) : ∃ m', f_MaskEdgesModel_make_66 (Y_u_mask y m) = f_MaskEdgesModel_make_135 (Y_u_mask y m') ∧ gM m' (fun x z => M x z || anyB B x z nb) := by
  unfold f_MaskEdgesModel_make_66
  refine xpA (fun r => f_MaskEdgesModel_make_68 r f_MaskEdgesModel_make_135) (fun _ _ => none) (fun q j (s : ySt) => q (nI j) s) nb (fun j s => ∃ m', s = Y_u_mask y m' ∧ gM m' (fun x z => M x z || anyB B x z j)) (fun o => ∃ m', o = f_MaskEdgesModel_make_135 (Y_u_mask y m') ∧ gM m' (fun x z => M x z || anyB B x z nb)) ?_ ?_ 100000 0 _ (Nat.zero_le _) (by omega) ⟨m, rfl, gM_congr hm (fun x z _ _ => by simp [anyB])⟩
  · rintro rr s ⟨m', rfl, h⟩
    refine ⟨m', ?_, h⟩
    show f_MaskEdgesModel_make_68 rr f_MaskEdgesModel_make_135 (nI nb) _ = _
    unfold f_MaskEdgesModel_make_68
    rw [show Y_bars (Y_u_mask y m') = nI nb from hn, if_pos (Int32.le_refl _)]
  · rintro rr j s hj ⟨m', rfl, h⟩
    right
    obtain ⟨⟨⟨l1, l2, l3⟩, t1, t2, t3⟩, b1, b2', b3, b4⟩ := hB j hj
    have gj : xin (nI j) 24 = true := xin_n (by omega) (by decide)
    have cj : (nI j).toNatClampNeg = j := nI_clamp (by omega)
    have eR : (Box_right (B j) - 1).toInt = (Box_right (B j)).toInt - 1 := i_sub (by rw [c1]; omega) (by rw [c1]; omega)
    have eB : (Box_bottom (B j) - 1).toInt = (Box_bottom (B j)).toInt - 1 := i_sub (by rw [c1]; omega) (by rw [c1]; omega)
    show ∃ s', _ ∧ f_MaskEdgesModel_make_68 rr f_MaskEdgesModel_make_135 (nI j) (Y_u_mask y m') = rr (nI (j + 1)) s'
    unfold f_MaskEdgesModel_make_68
    rw [show Y_bars (Y_u_mask y m') = nI nb from hn, if_neg (by rw [i_le, i_n (by omega), i_n (by omega)]; omega), if_pos gj, cj, show Y_barY (Y_u_mask y m') j = nI (Box_top (B j)).toInt.toNat from b2'.trans (i_of t1)]
    -- rows of the bar
    refine xpA (fun r => f_MaskEdgesModel_make_83 r (f_MaskEdgesModel_make_129 rr)) (fun _ _ _ => none) (fun q i (s : ySt) => q (nI j) (nI i) s) (Box_bottom (B j)).toInt.toNat (fun i s => (Box_top (B j)).toInt ≤ (i : Int) ∧ ∃ m2, s = Y_u_mask y m2 ∧ gM m2 (fun x z => (M x z || anyB B x z j) || (inb (B j) x z && decide (z < i)))) (fun o => ∃ s', (∃ m2, s' = Y_u_mask y m2 ∧ gM m2 (fun x z => M x z || anyB B x z (j + 1))) ∧ o = rr (nI (j + 1)) s') ?_ ?_ 100000 (Box_top (B j)).toInt.toNat _ (by omega) (by omega) ⟨by omega, m', rfl, gM_congr h (fun x z hx hz => ?_)⟩
    · rintro r2 s ⟨-, m2, rfl, h2⟩
      refine ⟨Y_u_mask y m2, ⟨m2, rfl, gM_congr h2 (fun x z hx hz => ?_)⟩, ?_⟩
      · show _ = (M x z || (anyB B x z j || inb (B j) x z))
        have : (inb (B j) x z && decide (z < (Box_bottom (B j)).toInt.toNat)) = inb (B j) x z := by
          cases hh : inb (B j) x z with
          | false => rfl
          | true => have := of_decide_eq_true hh; rw [decide_eq_true (by omega)]; rfl
        rw [this, Bool.or_assoc]
      · show f_MaskEdgesModel_make_83 r2 (f_MaskEdgesModel_make_129 rr) (nI j) (nI _) _ = _
        unfold f_MaskEdgesModel_make_83 f_MaskEdgesModel_make_129
        rw [if_pos gj, cj, show Y_barFarY (Y_u_mask y m2) j = Box_bottom (B j) - 1 from b4, if_pos (by rw [i_lt, eB, i_n (by omega)]; omega), nI_1]
    · rintro r2 i s hi ⟨hti, m2, rfl, h2⟩
      right
      show ∃ s', _ ∧ f_MaskEdgesModel_make_83 r2 (f_MaskEdgesModel_make_129 rr) (nI j) (nI i) (Y_u_mask y m2) = r2 (nI j) (nI (i + 1)) s'
      unfold f_MaskEdgesModel_make_83
      rw [if_pos gj, cj, show Y_barFarY (Y_u_mask y m2) j = Box_bottom (B j) - 1 from b4, if_neg (by rw [i_lt, eB, i_n (by omega)]; omega), if_pos gj, show Y_barX (Y_u_mask y m2) j = nI (Box_left (B j)).toInt.toNat from b1.trans (i_of l1)]
      refine xpA (fun r => f_MaskEdgesModel_make_100 r (f_MaskEdgesModel_make_123 r2)) (fun _ _ _ _ => none) (fun q k (s : ySt) => q (nI j) (nI i) (nI k) s) (Box_right (B j)).toInt.toNat (fun k s => (Box_left (B j)).toInt ≤ (k : Int) ∧ ∃ m3, s = Y_u_mask y m3 ∧ gM m3 (fun x z => (M x z || anyB B x z j) || (inb (B j) x z && decide (z < i ∨ (z = i ∧ x < k))))) (fun o => ∃ s', (((Box_top (B j)).toInt ≤ ((i + 1 : Nat) : Int)) ∧ ∃ m3, s' = Y_u_mask y m3 ∧ gM m3 (fun x z => (M x z || anyB B x z j) || (inb (B j) x z && decide (z < i + 1)))) ∧ o = r2 (nI j) (nI (i + 1)) s') ?_ ?_ 100000 (Box_left (B j)).toInt.toNat _ (by omega) (by omega) ⟨by omega, m2, rfl, gM_congr h2 (fun x z hx hz => ?_)⟩
      · rintro r3 s ⟨-, m3, rfl, h3⟩
        refine ⟨Y_u_mask y m3, ⟨by omega, m3, rfl, gM_congr h3 (fun x z hx hz => ?_)⟩, ?_⟩
        · congr 1
          cases hh : inb (B j) x z with
          | false => rfl
          | true => have := of_decide_eq_true hh; rw [Bool.true_and, Bool.true_and, decide_eq_decide]; omega
        · show f_MaskEdgesModel_make_100 r3 (f_MaskEdgesModel_make_123 r2) (nI j) (nI i) (nI _) _ = _
          unfold f_MaskEdgesModel_make_100 f_MaskEdgesModel_make_123
          rw [if_pos gj, cj, show Y_barFarX (Y_u_mask y m3) j = Box_right (B j) - 1 from b3, if_pos (by rw [i_lt, eR, i_n (by omega)]; omega), nI_1]
      · rintro r3 k s hk ⟨hlk, m3, rfl, h3⟩
        right
        obtain ⟨m4, e4, q4⟩ := v_put (nI k) (nI i) true (Y_u_mask y m3)
        refine ⟨Y_u_mask y m4, ⟨by omega, m4, rfl, gM_congr (q4 _ h3) (fun x z hx hz => ?_)⟩, ?_⟩
        · rw [i_n (by omega), i_n (by omega)]
          unfold setC
          by_cases q : (x : Int) = k ∧ (z : Int) = i
          · rw [if_pos q]
            have : inb (B j) x z = true := decide_eq_true (by omega)
            rw [this, decide_eq_true (by omega)]; simp
          · rw [if_neg q]
            show ((M x z || anyB B x z j) || (inb (B j) x z && decide (z < i ∨ (z = i ∧ x < k)))) = _
            rw [show decide (z < i ∨ (z = i ∧ x < k)) = decide (z < i ∨ (z = i ∧ x < k + 1)) from by rw [decide_eq_decide]; omega]
        · show f_MaskEdgesModel_make_100 r3 (f_MaskEdgesModel_make_123 r2) (nI j) (nI i) (nI k) _ = _
          unfold f_MaskEdgesModel_make_100
          rw [if_pos gj, cj, show Y_barFarX (Y_u_mask y m3) j = Box_right (B j) - 1 from b3, if_neg (by rw [i_lt, eR, i_n (by omega)]; omega), show (1 : Int32) = b2 true from rfl, e4, Option.bind_some, show b2 true = (1 : Int32) from rfl, nI_1]
          rfl
      · congr 1
        cases hh : inb (B j) x z with
        | false => rfl
        | true => have := of_decide_eq_true hh; rw [Bool.true_and, Bool.true_and, decide_eq_decide]; omega
    · cases hh : inb (B j) x z with
      | false => simp
      | true => have := of_decide_eq_true hh; rw [decide_eq_false (show ¬ z < (Box_top (B j)).toInt.toNat by omega)]; simp

/-- the sums -/
def gS (t : Nat → Int32) (M : Nat → Nat → Bool) : Prop := ∀ i j : Nat, i ≤ 48 → j ≤ 48 → t (49 * i + j) = nI (rS M j i)
def zS (t : Nat → Int32) : Prop := (∀ j, j ≤ 48 → t j = 0) ∧ ∀ i, i ≤ 48 → t (49 * i) = 0
theorem rS_0 (M : Nat → Nat → Bool) : ∀ i, rS M 0 i = 0 := by
  intro i
  induction i with
  | zero => rfl
  | succ i ih => show rS M 0 i + rP M i 0 = 0; rw [ih]; rfl
theorem gS_z {t : Nat → Int32} {M : Nat → Nat → Bool} (h : gS t M) : zS t := by
  refine ⟨fun j hj => ?_, fun i hi => ?_⟩
  · have := h 0 j (by decide) hj
    rw [show 49 * 0 + j = j from by omega] at this
    rw [this]; rfl
  · have := h i 0 hi (by decide)
    rw [show 49 * i + 0 = 49 * i from rfl, rS_0] at this
    rw [this]; rfl
theorem ix49 {p k : Nat} : (49 : Int32) * nI p + nI k = nI (49 * p + k) := by
  rw [show (49 : Int32) = nI 49 from rfl, pk_mul, nI_add]
theorem yss (y : ySt) (a b : Nat → Int32) : Y_u_sums (Y_u_sums y a) b = Y_u_sums y b := rfl
theorem ysg (y : ySt) (a : Nat → Int32) : Y_sums (Y_u_sums y a) = a := rfl
theorem yse (y : ySt) : Y_u_sums y (Y_sums y) = y := rfl
theorem ysm (y : ySt) (a : Nat → Int32) : Y_mask (Y_u_sums y a) = Y_mask y := rfl
theorem ymg (y : ySt) (a : Nat → Int32) : Y_mask (Y_u_mask y a) = a := rfl
theorem yms (y : ySt) (a : Nat → Int32) : Y_sums (Y_u_mask y a) = Y_sums y := rfl
theorem nI_one : nI 1 = 1 := rfl
theorem nI_49 : nI 49 = 49 := rfl
theorem v_mk145 {s : ySt} {r2 : Int32 → Int32 → ySt → Option ySt} {kk : Int32 → ySt → Option ySt} {j i A B C : Nat} {v : Bool} (hi : i < 48) (hj : j < 48) (a1 : Y_sums s (49 * (j + 1) + i) = nI A) (a2 : Y_sums s (49 * j + (i + 1)) = nI B) (a3 : Y_sums s (49 * j + i) = nI C) (a4 : Y_mask s (48 * j + i) = b2 v) (hC : C ≤ A + B) : f_MaskEdgesModel_make_145 r2 kk (nI j) (nI i) s = r2 (nI j) (nI (i + 1)) (Y_u_sums s (upd (Y_sums s) (49 * (j + 1) + (i + 1)) (nI (A + B - C + (if v then 1 else 0))))) := by
  have e0 : (49 : Int32) * (nI j + 1) + nI i + 1 = nI (49 * (j + 1) + (i + 1)) := by rw [nI_1, ix49, nI_1, Nat.add_assoc]
  have e1 : nI (49 * (j + 1) + (i + 1)) - 1 = nI (49 * (j + 1) + i) := by
    rw [n_sub (b := 1) (by omega) 1 nI_one.symm, show 49 * (j + 1) + (i + 1) - 1 = 49 * (j + 1) + i from by omega]
  have e2 : nI (49 * (j + 1) + (i + 1)) - 49 = nI (49 * j + (i + 1)) := by
    rw [n_sub (b := 49) (by omega) 49 nI_49.symm, show 49 * (j + 1) + (i + 1) - 49 = 49 * j + (i + 1) from by omega]
  have e3 : nI (49 * j + (i + 1)) - 1 = nI (49 * j + i) := by
    rw [n_sub (b := 1) (by omega) 1 nI_one.symm, show 49 * j + (i + 1) - 1 = 49 * j + i from by omega]
  have g1 : xin (nI (49 * (j + 1) + i)) 2401 = true := xin_n (by omega) (by omega)
  have g2 : xin (nI (49 * j + (i + 1))) 2401 = true := xin_n (by omega) (by omega)
  have g3 : xin (nI (49 * j + i)) 2401 = true := xin_n (by omega) (by omega)
  have g4 : xin (nI (48 * j + i)) 2304 = true := xin_n (by omega) (by omega)
  have g5 : xin (nI (49 * (j + 1) + (i + 1))) 2401 = true := xin_n (by omega) (by omega)
  have k1 : (nI (49 * (j + 1) + i)).toNatClampNeg = 49 * (j + 1) + i := nI_clamp (by omega)
  have k2 : (nI (49 * j + (i + 1))).toNatClampNeg = 49 * j + (i + 1) := nI_clamp (by omega)
  have k3 : (nI (49 * j + i)).toNatClampNeg = 49 * j + i := nI_clamp (by omega)
  have k4 : (nI (48 * j + i)).toNatClampNeg = 48 * j + i := nI_clamp (by omega)
  have k5 : (nI (49 * (j + 1) + (i + 1))).toNatClampNeg = 49 * (j + 1) + (i + 1) := nI_clamp (by omega)
  have key : ∀ w : Int32, w = (if v then 1 else 0) → (nI A + nI B) - nI C + w = nI (A + B - C + (if v then 1 else 0)) := by
    intro w hw
    rw [nI_add, pk_sub hC, hw]
    cases v with
    | false => rw [if_neg (by decide), if_neg (by decide), add0, Nat.add_zero]
    | true => rw [if_pos rfl, if_pos rfl, nI_1]
  unfold f_MaskEdgesModel_make_145 f_MaskEdgesModel_make_216
  rw [if_neg (nlt48 hi), e0, e1, e2, e3, if_pos g1, if_pos g2, if_pos g3, ix48, if_pos g4, k1, k2, k3, k4, k5, a1, a2, a3, a4, b2_if, if_pos g5, if_pos g5, nI_1]
  by_cases q : v = true
  · rw [if_pos q, key 1 (by rw [if_pos q])]
  · rw [if_neg q, key 0 (by rw [if_neg q])]
theorem v_make4 {y : ySt} (m : Nat → Int32) (M : Nat → Nat → Bool) (hm : gM m M) (hz : zS (Y_sums y)) : ∃ t, f_MaskEdgesModel_make_135 (Y_u_mask y m) = some (Y_u_sums (Y_u_mask y m) t) ∧ gS t M := by
  unfold f_MaskEdgesModel_make_135
  refine xpA (fun r => f_MaskEdgesModel_make_137 r) (fun _ _ => none) (fun q j (s : ySt) => q (nI j) s) 48 (fun j s => ∃ t, s = Y_u_sums (Y_u_mask y m) t ∧ zS t ∧ ∀ i k : Nat, i ≤ j → k ≤ 48 → t (49 * i + k) = nI (rS M k i)) (fun o => ∃ t, o = some (Y_u_sums (Y_u_mask y m) t) ∧ gS t M) ?_ ?_ 100000 0 _ (by decide) (by decide) ⟨Y_sums (Y_u_mask y m), (yse _).symm, by rw [yms]; exact hz, fun i k hi hk => ?_⟩
  · rintro rr s ⟨t, rfl, -, ht⟩
    refine ⟨t, ?_, fun i j hi hj => ht i j hi hj⟩
    show f_MaskEdgesModel_make_137 rr (nI 48) _ = _
    unfold f_MaskEdgesModel_make_137
    rw [if_pos (by decide)]
  · rintro rr j s hj ⟨t, rfl, hz2, ht⟩
    right
    show ∃ s', _ ∧ f_MaskEdgesModel_make_137 rr (nI j) _ = rr (nI (j + 1)) s'
    unfold f_MaskEdgesModel_make_137
    rw [if_neg (nlt48 hj)]
    refine xpA (fun r => f_MaskEdgesModel_make_145 r (f_MaskEdgesModel_make_224 rr)) (fun _ _ _ => none) (fun q i (s : ySt) => q (nI j) (nI i) s) 48 (fun i s => ∃ t, s = Y_u_sums (Y_u_mask y m) t ∧ zS t ∧ (∀ a k : Nat, a ≤ j → k ≤ 48 → t (49 * a + k) = nI (rS M k a)) ∧ ∀ k, k ≤ i → t (49 * (j + 1) + k) = nI (rS M k (j + 1))) (fun o => ∃ s', (∃ t, s' = Y_u_sums (Y_u_mask y m) t ∧ zS t ∧ ∀ i k : Nat, i ≤ j + 1 → k ≤ 48 → t (49 * i + k) = nI (rS M k i)) ∧ o = rr (nI (j + 1)) s') ?_ ?_ 100000 0 _ (by decide) (by decide) ⟨t, rfl, hz2, ht, fun k hk => ?_⟩
    · rintro r2 s ⟨t2, rfl, z2, h2, h3⟩
      refine ⟨_, ⟨t2, rfl, z2, fun i k hi hk => ?_⟩, ?_⟩
      · by_cases q : i = j + 1
        · rw [q]; exact h3 k hk
        · exact h2 i k (by omega) hk
      · show f_MaskEdgesModel_make_145 r2 (f_MaskEdgesModel_make_224 rr) (nI j) (nI 48) _ = _
        unfold f_MaskEdgesModel_make_145 f_MaskEdgesModel_make_224
        rw [if_pos (by decide), nI_1]
    · rintro r2 i s hi ⟨t2, rfl, z2, h2, h3⟩
      right
      show ∃ s', _ ∧ f_MaskEdgesModel_make_145 r2 (f_MaskEdgesModel_make_224 rr) (nI j) (nI i) _ = r2 (nI j) (nI (i + 1)) s'
      have a1 : t2 (49 * (j + 1) + i) = nI (rS M i (j + 1)) := h3 i (Nat.le_refl _)
      have a2 : t2 (49 * j + (i + 1)) = nI (rS M (i + 1) j) := h2 j (i + 1) (Nat.le_refl _) (by omega)
      have a3 : t2 (49 * j + i) = nI (rS M i j) := h2 j i (Nat.le_refl _) (by omega)
      have a4 : m (48 * j + i) = b2 (M i j) := hm i j hi hj
      have q1 : rS M i (j + 1) = rS M i j + rP M j i := rfl
      have q2 : rS M (i + 1) (j + 1) = rS M (i + 1) j + (rP M j i + (if M i j then 1 else 0)) := rfl
      have e := v_mk145 (s := Y_u_sums (Y_u_mask y m) t2) (r2 := r2) (kk := f_MaskEdgesModel_make_224 rr) hi hj (by rw [ysg]; exact a1) (by rw [ysg]; exact a2) (by rw [ysg]; exact a3) (by rw [ysm, ymg]; exact a4) (by omega)
      have q3 : rS M i (j + 1) + rS M (i + 1) j - rS M i j + (if M i j then 1 else 0) = rS M (i + 1) (j + 1) := by omega
      rw [q3, yss, ysg] at e
      refine ⟨Y_u_sums (Y_u_mask y m) (upd t2 (49 * (j + 1) + (i + 1)) (nI (rS M (i + 1) (j + 1)))), ⟨_, rfl, ⟨fun k hk => ?_, fun k hk => ?_⟩, fun a k ha hk => ?_, fun k hk => ?_⟩, ?_⟩
      · rw [pk_un (by omega)]; exact z2.1 k hk
      · rw [pk_un (by omega)]; exact z2.2 k hk
      · rw [pk_un (by omega)]; exact h2 a k ha hk
      · by_cases q : k = i + 1
        · rw [q, pk_us]
        · rw [pk_un (by omega)]; exact h3 k (by omega)
      · exact e
    · have : k = 0 := by omega
      subst this
      rw [show 49 * (j + 1) + 0 = 49 * (j + 1) from rfl, hz2.2 (j + 1) (by omega), rS_0]; rfl
  · have : i = 0 := by omega
    subst this
    rw [show 49 * 0 + k = k from by omega, yms, hz.1 k hk]; rfl
