/-! Where a bar may come. -/
theorem pRow_iff {P : Nat → Nat → Bool} {z : Nat} : ∀ f a, pAny.pRow P z f a = true ↔ ∃ b, a ≤ b ∧ b < a + f ∧ P b z = true := by
  intro f
  induction f with
  | zero => intro a; exact ⟨fun h => (by cases h), fun ⟨b, h1, h2, _⟩ => by omega⟩
  | succ f ih =>
    intro a
    show (P a z || pAny.pRow P z f (a + 1)) = true ↔ _
    rw [Bool.or_eq_true, ih]
    constructor
    · rintro (h | ⟨b, h1, h2, h3⟩)
      · exact ⟨a, Nat.le_refl _, by omega, h⟩
      · exact ⟨b, by omega, by omega, h3⟩
    · rintro ⟨b, h1, h2, h3⟩
      by_cases e : b = a
      · exact Or.inl (e ▸ h3)
      · exact Or.inr ⟨b, by omega, by omega, h3⟩
theorem pAny_iff {P : Nat → Nat → Bool} {l r : Nat} (hl : l ≤ r) : ∀ f z, pAny P l r f z = true ↔ ∃ a w, l ≤ a ∧ a < r ∧ z ≤ w ∧ w < z + f ∧ P a w = true := by
  intro f
  induction f with
  | zero => intro z; exact ⟨fun h => (by cases h), fun ⟨a, w, _, _, h1, h2, _⟩ => by omega⟩
  | succ f ih =>
    intro z
    show (pAny.pRow P z (r - l) l || pAny P l r f (z + 1)) = true ↔ _
    rw [Bool.or_eq_true, ih, pRow_iff]
    constructor
    · rintro (⟨a, h1, h2, h3⟩ | ⟨a, w, h1, h2, h3, h4, h5⟩)
      · exact ⟨a, z, h1, by omega, Nat.le_refl _, by omega, h3⟩
      · exact ⟨a, w, h1, h2, by omega, by omega, h5⟩
    · rintro ⟨a, w, h1, h2, h3, h4, h5⟩
      by_cases e : w = z
      · exact Or.inl ⟨a, h1, by omega, e ▸ h5⟩
      · exact Or.inr ⟨a, w, h1, h2, by omega, by omega, h5⟩
theorem anyB_iff {B : Nat → t_Box} {a b : Nat} : ∀ n, anyB B a b n = true ↔ ∃ k, k < n ∧ inb (B k) a b = true := by
  intro n
  induction n with
  | zero => exact ⟨fun h => (by cases h), fun ⟨k, h, _⟩ => by omega⟩
  | succ n ih =>
    show (anyB B a b n || inb (B n) a b) = true ↔ _
    rw [Bool.or_eq_true, ih]
    constructor
    · rintro (⟨k, h1, h2⟩ | h)
      · exact ⟨k, by omega, h2⟩
      · exact ⟨n, by omega, h⟩
    · rintro ⟨k, h1, h2⟩
      by_cases e : k = n
      · exact Or.inr (e ▸ h2)
      · exact Or.inl ⟨k, by omega, h2⟩
def clr (b c : t_Box) : Bool := decide ((Box_right c).toInt ≤ (Box_left b).toInt ∨ (Box_right b).toInt ≤ (Box_left c).toInt ∨ (Box_bottom c).toInt ≤ (Box_top b).toInt ∨ (Box_bottom b).toInt ≤ (Box_top c).toInt)
def nob (B : Nat → t_Box) (c : t_Box) : Nat → Bool
  | 0 => true
  | k + 1 => nob B c k && clr (B k) c
theorem nob_iff {B : Nat → t_Box} {c : t_Box} : ∀ n, nob B c n = false ↔ ∃ k, k < n ∧ clr (B k) c = false := by
  intro n
  induction n with
  | zero => exact ⟨fun h => (by cases h), fun ⟨k, h, _⟩ => by omega⟩
  | succ n ih =>
    show (nob B c n && clr (B n) c) = false ↔ _
    rw [Bool.and_eq_false_iff, ih]
    constructor
    · rintro (⟨k, h1, h2⟩ | h)
      · exact ⟨k, by omega, h2⟩
      · exact ⟨n, by omega, h⟩
    · rintro ⟨k, h1, h2⟩
      by_cases e : k = n
      · exact Or.inr (e ▸ h2)
      · exact Or.inl ⟨k, by omega, h2⟩
theorem clr_iff {b c : t_Box} (hb : okBx b) (hc : okBx c) : clr b c = false ↔ ∃ x y, x < 48 ∧ y < 48 ∧ inb b x y = true ∧ inb c x y = true := by
  obtain ⟨⟨b1, b2', b3⟩, ⟨b4, b5, b6⟩⟩ := hb
  obtain ⟨⟨c1', c2', c3⟩, ⟨c4', c5', c6⟩⟩ := hc
  unfold clr inb
  simp only [decide_eq_false_iff_not, decide_eq_true_eq]
  constructor
  · intro h
    refine ⟨(if (Box_left b).toInt ≤ (Box_left c).toInt then (Box_left c).toInt else (Box_left b).toInt).toNat, (if (Box_top b).toInt ≤ (Box_top c).toInt then (Box_top c).toInt else (Box_top b).toInt).toNat, ?_⟩
    split <;> split <;> omega
  · rintro ⟨x, y, h1, h2, h3, h4⟩
    omega
def onG (c : t_Box) : Bool := decide (0 ≤ (Box_left c).toInt ∧ 0 ≤ (Box_top c).toInt ∧ (Box_right c).toInt ≤ 48 ∧ (Box_bottom c).toInt ≤ 48)
theorem v_isOnGrid (c : t_Box) : f_Box_isOnGrid c = some (b2 (onG c)) := by
  unfold f_Box_isOnGrid onG
  by_cases a : Box_left c < 0
  · rw [if_pos a, decide_eq_false (by rw [i_lt, c0] at a; omega)]; rfl
  · rw [if_neg a]
    by_cases b : Box_top c < 0
    · rw [if_pos b, decide_eq_false (by rw [i_lt, c0] at b; omega)]; rfl
    · rw [if_neg b]
      by_cases d : 48 < Box_right c
      · rw [if_pos d, decide_eq_false (by rw [i_lt, c48] at d; omega)]; rfl
      · rw [if_neg d]
        by_cases e : 48 < Box_bottom c
        · rw [if_pos e, decide_eq_false (by rw [i_lt, c48] at e; omega)]; rfl
        · rw [if_neg e, decide_eq_true (by rw [i_lt, c0] at a b; rw [i_lt, c48] at d e; omega)]; rfl
/-- a box that isn't empty, not far from the grid -/
def nrB (c : t_Box) : Prop := (-1000 ≤ (Box_left c).toInt ∧ (Box_left c).toInt < (Box_right c).toInt ∧ (Box_right c).toInt ≤ 1000) ∧ (-1000 ≤ (Box_top c).toInt ∧ (Box_top c).toInt < (Box_bottom c).toInt ∧ (Box_bottom c).toInt ≤ 1000)
theorem nr_ok {c : t_Box} (h : nrB c) (g : onG c = true) : okBx c := by
  obtain ⟨⟨h1, h2, h3⟩, ⟨h4, h5, h6⟩⟩ := h
  obtain ⟨g1, g2, g3, g4⟩ := of_decide_eq_true g
  exact ⟨⟨g1, h2, g3⟩, ⟨g2, h5, g4⟩⟩
theorem v_isFree {P0 : Nat → t_Outline} {y : ySt} {c nb : Nat} {B : Nat → t_Box} (hO : relO P0 y c) (hb2 : nb ≤ 24) (hY : Y_bars y = nI nb) (hB : ∀ k, k < nb → okBx (B k) ∧ relB (B k) y k) {C : t_Box} (hC : nrB C) : f_MaskEdgesModel_isFree y (Box_left C) (Box_top C) (Box_right C - 1) (Box_bottom C - 1) = some (b2 (onG C && nob B C nb && !pAny (fun a z => tgt P0 a z c) (Box_left C).toInt.toNat (Box_right C).toInt.toNat ((Box_bottom C).toInt.toNat - (Box_top C).toInt.toNat) (Box_top C).toInt.toNat)) := by
  obtain ⟨⟨q1, q2, q3⟩, ⟨q4, q5, q6⟩⟩ := hC
  have ir : (Box_right C - 1).toInt = (Box_right C).toInt - 1 := by rw [i_sub (by rw [c1]; omega) (by rw [c1]; omega), c1]
  have ib : (Box_bottom C - 1).toInt = (Box_bottom C).toInt - 1 := by rw [i_sub (by rw [c1]; omega) (by rw [c1]; omega), c1]
  -- the rows
  have rows : onG C = true → ∀ (f z fuel : Nat) (s : Bool), f + z = (Box_bottom C).toInt.toNat → f + 1 ≤ fuel → xloop (fun r => f_MaskEdgesModel_isFree_102 y r) (fun _ _ _ _ _ => none) fuel (Box_left C) (Box_right C - 1) (Box_bottom C - 1) (b2 s) (nI z) = some (b2 (s && !pAny (fun a z => tgt P0 a z c) (Box_left C).toInt.toNat (Box_right C).toInt.toNat f z)) := by
    intro g
    obtain ⟨g1, g2, g3, g4⟩ := of_decide_eq_true g
    have row : ∀ (kk : Int32 → Int32 → Int32 → Int32 → Int32 → Option Int32) (z f a fuel : Nat) (s : Bool), f + a = (Box_right C).toInt.toNat → z < 48 → f + 1 ≤ fuel → xloop (fun r => f_MaskEdgesModel_isFree_117 y r kk) (fun _ _ _ _ _ _ => none) fuel (Box_left C) (Box_right C - 1) (Box_bottom C - 1) (b2 s) (nI z) (nI a) = kk (Box_left C) (Box_right C - 1) (Box_bottom C - 1) (b2 (s && !pAny.pRow (fun a z => tgt P0 a z c) z f a)) (nI z) := by
      intro kk z f
      induction f with
      | zero =>
        intro a fuel s ha hz hf
        obtain ⟨fl, rfl⟩ : ∃ fl, fuel = fl + 1 := ⟨fuel - 1, by omega⟩
        show f_MaskEdgesModel_isFree_117 y _ kk (Box_left C) (Box_right C - 1) (Box_bottom C - 1) (b2 s) (nI z) (nI a) = _
        unfold f_MaskEdgesModel_isFree_117
        rw [if_pos (by rw [i_lt, ir, i_n (by omega)]; omega)]
        show _ = kk (Box_left C) (Box_right C - 1) (Box_bottom C - 1) (b2 (s && true)) (nI z)
        rw [Bool.and_true]
      | succ f ih =>
        intro a fuel s ha hz hf
        obtain ⟨fl, rfl⟩ : ∃ fl, fuel = fl + 1 := ⟨fuel - 1, by omega⟩
        have ihn := fun s => ih (a + 1) fl s (by omega) hz (by omega)
        show f_MaskEdgesModel_isFree_117 y (xloop (fun r => f_MaskEdgesModel_isFree_117 y r kk) (fun _ _ _ _ _ _ => none) fl) kk (Box_left C) (Box_right C - 1) (Box_bottom C - 1) (b2 s) (nI z) (nI a) = _
        generalize xloop (fun r => f_MaskEdgesModel_isFree_117 y r kk) (fun _ _ _ _ _ _ => none) fl = rr at ihn
        unfold f_MaskEdgesModel_isFree_117 f_MaskEdgesModel_isFree_143 f_MaskEdgesModel_isFree_144
        have t1 := ihn true
        have t0 := ihn false
        rw [b2_t] at t1
        rw [b2_f] at t0
        rw [if_neg (by rw [i_lt, ir, i_n (by omega)]; omega), b2_if, v_isTarget hO, Option.bind_some, b2_if, nI_1, i_n (by omega), i_n (by omega), t1, t0]
        show _ = kk (Box_left C) (Box_right C - 1) (Box_bottom C - 1) (b2 (s && !(tgt P0 a z c || pAny.pRow (fun a z => tgt P0 a z c) z f (a + 1)))) (nI z)
        cases s <;> cases tgt P0 a z c <;> rfl
    intro f
    induction f with
    | zero =>
      intro z fuel s hz hf
      obtain ⟨fl, rfl⟩ : ∃ fl, fuel = fl + 1 := ⟨fuel - 1, by omega⟩
      show f_MaskEdgesModel_isFree_102 y _ (Box_left C) (Box_right C - 1) (Box_bottom C - 1) (b2 s) (nI z) = _
      unfold f_MaskEdgesModel_isFree_102
      rw [if_pos (by rw [i_lt, ib, i_n (by omega)]; omega), if_pos (b2_z _)]
      show _ = some (b2 (s && true))
      rw [Bool.and_true]
    | succ f ih =>
      intro z fuel s hz hf
      obtain ⟨fl, rfl⟩ : ∃ fl, fuel = fl + 1 := ⟨fuel - 1, by omega⟩
      have ihn := fun s => ih (z + 1) fl s (by omega) (by omega)
      show f_MaskEdgesModel_isFree_102 y (xloop (fun r => f_MaskEdgesModel_isFree_102 y r) (fun _ _ _ _ _ => none) fl) (Box_left C) (Box_right C - 1) (Box_bottom C - 1) (b2 s) (nI z) = _
      generalize xloop (fun r => f_MaskEdgesModel_isFree_102 y r) (fun _ _ _ _ _ => none) fl = rr at ihn
      unfold f_MaskEdgesModel_isFree_102
      have el : Box_left C = nI (Box_left C).toInt.toNat := i_of g1
      have rw1 := row (f_MaskEdgesModel_isFree_152 y rr) z ((Box_right C).toInt.toNat - (Box_left C).toInt.toNat) (Box_left C).toInt.toNat 100000 s (by omega) (by omega) (by omega)
      rw [← el] at rw1
      rw [if_neg (by rw [i_lt, ib, i_n (by omega)]; omega), if_pos (b2_z _), b2_if, rw1]
      unfold f_MaskEdgesModel_isFree_152
      rw [nI_1, ihn]
      show (if s = true then some (b2 (s && !pAny.pRow (fun a z => tgt P0 a z c) z ((Box_right C).toInt.toNat - (Box_left C).toInt.toNat) (Box_left C).toInt.toNat && !pAny (fun a z => tgt P0 a z c) (Box_left C).toInt.toNat (Box_right C).toInt.toNat f (z + 1))) else some (b2 s)) = some (b2 (s && !(pAny.pRow (fun a z => tgt P0 a z c) z ((Box_right C).toInt.toNat - (Box_left C).toInt.toNat) (Box_left C).toInt.toNat || pAny (fun a z => tgt P0 a z c) (Box_left C).toInt.toNat (Box_right C).toInt.toNat f (z + 1))))
      generalize pAny.pRow (fun a z => tgt P0 a z c) z ((Box_right C).toInt.toNat - (Box_left C).toInt.toNat) (Box_left C).toInt.toNat = u1
      generalize pAny (fun a z => tgt P0 a z c) (Box_left C).toInt.toNat (Box_right C).toInt.toNat f (z + 1) = u2
      cases s <;> cases u1 <;> cases u2 <;> rfl
  have k99 : ∀ s : Bool, (s = true → onG C = true) → f_MaskEdgesModel_isFree_99 y (Box_left C) (Box_top C) (Box_right C - 1) (Box_bottom C - 1) (b2 s) = some (b2 (s && !pAny (fun a z => tgt P0 a z c) (Box_left C).toInt.toNat (Box_right C).toInt.toNat ((Box_bottom C).toInt.toNat - (Box_top C).toInt.toNat) (Box_top C).toInt.toNat)) := by
    intro s hs
    unfold f_MaskEdgesModel_isFree_99
    cases s with
    | false =>
      show f_MaskEdgesModel_isFree_102 y _ (Box_left C) (Box_right C - 1) (Box_bottom C - 1) (b2 false) (Box_top C) = some (b2 (false && _))
      unfold f_MaskEdgesModel_isFree_102
      rw [Bool.false_and, if_pos (b2_z _), if_pos (show b2 false = 0 from rfl)]
      split <;> rfl
    | true =>
      obtain ⟨g1, g2, g3, g4⟩ := of_decide_eq_true (hs rfl)
      have := rows (hs rfl) ((Box_bottom C).toInt.toNat - (Box_top C).toInt.toNat) (Box_top C).toInt.toNat 100000 true (by omega) (by omega)
      rw [← i_of g2] at this
      exact this
  have k22 : ∀ s : Bool, (s = true → onG C = true) → f_MaskEdgesModel_isFree_22 y (Box_left C) (Box_top C) (Box_right C - 1) (Box_bottom C - 1) (b2 s) = some (b2 (s && nob B C nb && !pAny (fun a z => tgt P0 a z c) (Box_left C).toInt.toNat (Box_right C).toInt.toNat ((Box_bottom C).toInt.toNat - (Box_top C).toInt.toNat) (Box_top C).toInt.toNat)) := by
    intro s hs
    rw [← k99 (s && nob B C nb) (fun h => hs (by rw [Bool.and_eq_true] at h; exact h.1))]
    unfold f_MaskEdgesModel_isFree_22
    have key := xgA (fun r => f_MaskEdgesModel_isFree_27 y r (f_MaskEdgesModel_isFree_99 y)) (fun _ _ _ _ _ _ => none) (fun rr j (v : Int32) => rr (Box_left C) (Box_top C) (Box_right C - 1) (Box_bottom C - 1) v (nI j)) nb 0 (fun j => b2 (s && nob B C j)) (f_MaskEdgesModel_isFree_99 y (Box_left C) (Box_top C) (Box_right C - 1) (Box_bottom C - 1) (b2 (s && nob B C nb))) ?_ ?_ 100000 0 (Nat.le_refl _) (Nat.zero_le _) (by omega)
    · try dsimp only at key
      rw [show (s && nob B C 0) = s from Bool.and_true s] at key
      exact key
    · intro rr
      try dsimp only
      unfold f_MaskEdgesModel_isFree_27
      rw [if_pos (by rw [hY]; exact Int32.le_refl _)]
    · intro rr j _ hj
      right
      try dsimp only
      have gj : xin (nI j) 24 = true := xin_n (by omega) (by omega)
      have cj : (nI j).toNatClampNeg = j := nI_clamp (by omega)
      obtain ⟨⟨⟨o1, o2, o3⟩, ⟨o4, o5, o6⟩⟩, ⟨b1, b2', b3, b4⟩⟩ := hB j hj
      have jr : (Box_right (B j) - 1).toInt = (Box_right (B j)).toInt - 1 := by rw [i_sub (by rw [c1]; omega) (by rw [c1]; omega), c1]
      have jb : (Box_bottom (B j) - 1).toInt = (Box_bottom (B j)).toInt - 1 := by rw [i_sub (by rw [c1]; omega) (by rw [c1]; omega), c1]
      unfold f_MaskEdgesModel_isFree_27 f_MaskEdgesModel_isFree_86 f_MaskEdgesModel_isFree_90 f_MaskEdgesModel_isFree_91
      simp only [gj, cj, if_true, b1, b2', b3, b4]
      rw [if_neg (by rw [hY, i_le, i_n (by omega), i_n (by omega)]; omega), b2_if, nI_1]
      show _ = rr (Box_left C) (Box_top C) (Box_right C - 1) (Box_bottom C - 1) (b2 (s && (nob B C j && clr (B j) C))) (nI (j + 1))
      rw [← Bool.and_assoc]
      cases s && nob B C j with
      | false => rfl
      | true =>
        rw [if_pos rfl, Bool.true_and]
        unfold clr
        by_cases d1 : Box_right C - 1 < Box_left (B j)
        · rw [if_pos d1, decide_eq_true (by rw [i_lt, ir] at d1; omega)]; rfl
        · rw [if_neg d1]
          by_cases d2 : Box_right (B j) - 1 < Box_left C
          · rw [if_pos d2, decide_eq_true (by rw [i_lt, jr] at d2; omega)]; rfl
          · rw [if_neg d2]
            by_cases d3 : Box_bottom C - 1 < Box_top (B j)
            · rw [if_pos d3, decide_eq_true (by rw [i_lt, ib] at d3; omega)]; rfl
            · rw [if_neg d3]
              by_cases d4 : Box_top C ≤ Box_bottom (B j) - 1
              · rw [if_pos d4, decide_eq_false (by rw [i_lt, ir] at d1; rw [i_lt, jr] at d2; rw [i_lt, ib] at d3; rw [i_le, jb] at d4; omega)]; rfl
              · rw [if_neg d4, decide_eq_true (by rw [i_le, jb] at d4; omega)]; rfl
  unfold f_MaskEdgesModel_isFree f_MaskEdgesModel_isFree_21
  rw [v_isCell, Option.bind_some, b2_if, v_isCell, Option.bind_some, b2_if]
  have hg : (gr (Box_left C).toInt (Box_top C).toInt && gr (Box_right C - 1).toInt (Box_bottom C - 1).toInt) = onG C := by
    unfold gr onG
    rw [ir, ib, ← Bool.decide_and, decide_eq_decide]
    omega
  have t1 := k22 true
  have t0 := k22 false (fun h => by cases h)
  rw [b2_t] at t1
  rw [b2_f] at t0
  by_cases ga : gr (Box_left C).toInt (Box_top C).toInt = true
  · rw [if_pos ga]
    rw [ga, Bool.true_and] at hg
    by_cases gb : gr (Box_right C - 1).toInt (Box_bottom C - 1).toInt = true
    · rw [if_pos gb, t1 (fun _ => by rw [← hg]; exact gb), ← hg, gb]
    · rw [if_neg gb, t0]
      rw [Bool.not_eq_true] at gb
      rw [← hg, gb]
  · rw [if_neg ga, t0]
    rw [Bool.not_eq_true] at ga
    rw [← hg, ga]
    rfl
