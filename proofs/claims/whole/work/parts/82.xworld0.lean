/-! The world that MaskEdges() makes. -/
def wF (cf : Nat → Nat × va_E) (n : Nat) : va_W := (List.range n).map cf
theorem wF_len (cf : Nat → Nat × va_E) (n : Nat) : (wF cf n).length = n := by unfold wF; rw [List.length_map, List.length_range]
theorem wF_get {cf : Nat → Nat × va_E} {n k : Nat} (h : k < n) : (wF cf n)[k]? = some (cf k) := by
  unfold wF
  rw [List.getElem?_map, List.getElem?_range h]
  rfl
theorem wF_push (cf : Nat → Nat × va_E) (n : Nat) (x : Nat × va_E) : wF cf n ++ [x] = wF (va_up cf n x) (n + 1) := by
  apply List.ext_getElem?
  intro i
  by_cases h : i < n
  · rw [List.getElem?_append_left (by rw [wF_len]; exact h), wF_get h, wF_get (by omega), up_ne _ (by omega)]
  · rw [List.getElem?_append_right (by rw [wF_len]; omega), wF_len]
    by_cases e : i = n
    · subst e
      rw [Nat.sub_self, wF_get (by omega), up_at]
      rfl
    · rw [List.getElem?_eq_none (by simp; omega), List.getElem?_eq_none (by rw [wF_len]; omega)]
theorem wF_set {cf : Nat → Nat × va_E} {n k : Nat} (h : k < n) (x : Nat × va_E) : (wF cf n).set k x = wF (va_up cf k x) n := by
  apply List.ext_getElem?
  intro i
  by_cases hi : i < n
  · by_cases e : i = k
    · subst e
      rw [List.getElem?_set_self (by rw [wF_len]; exact hi), wF_get hi, up_at]
    · rw [List.getElem?_set_ne (Ne.symm e), wF_get hi, wF_get hi, up_ne _ e]
  · rw [List.getElem?_eq_none (by rw [List.length_set, wF_len]; omega), List.getElem?_eq_none (by rw [wF_len]; omega)]
def rfE (n : Nat) (cA : ClassId) (o : Nat → Option Nat) : va_E := .inl (cA, n, .inr (.inr (.inr (.inr o))))
def zP : t_Piece := (0, 0, 0, 0, 0, 0, 0, 0, 0, 0, 0, 0)
def x0 : xSt := (fun _ => (fun _ => 0, fun _ => 0, 0, 0), 0, fun _ => zP, 0, fun _ => 0, fun _ => (0, 0, 0, 0), 0, fun _ => 0, fun _ => 0, fun _ => 0, (fun _ => 0, fun _ => 0, 0, 1), fun _ => 0, 0, (0, 0, 0, 0))
def eO (a b : Nat) : va_E := .inr (3, [.ref a, .ref b, .int 0, .int 0])
def eZ (X : xG) : va_E := .inl (X.2 0, 16, .inl (fun _ => 0))
def eP : va_E := .inr (4, [.int 0, .int 0, .int 0, .int 0, .int 0, .int 0, .int 0, .int 0, .int 0, .int 0, .int 0, .int 0])
def eB : va_E := .inr (0, [.int 0, .int 0, .int 0, .int 0])
theorem cellq {cA : ClassId} {n : Nat} {f g : Nat → Option Nat} (h : ∀ j, j < n → f j = g j) : vp_cell cA (n, .inr (.inr (.inr (.inr f)))) = vp_cell cA (n, .inr (.inr (.inr (.inr g)))) := by
  show arrV cA n (fun j => va_rf (f j)) = arrV cA n (fun j => va_rf (g j))
  unfold arrV
  congr 1
  congr 1
  funext j
  show va_rf (f j.val) = va_rf (g j.val)
  rw [h j.val j.isLt]
def prm (j : Nat) : Nat := if j < 16 then j else if j < 20 then 16 + 3 * (j - 16) else if j < 24 then 17 + 3 * (j - 20) else if j < 28 then 18 + 3 * (j - 24) else j
theorem prm_lt {j : Nat} (h : j < 172) : prm j < 172 := by unfold prm; (repeat' split) <;> omega
theorem prm_inj {i j : Nat} (h : prm i = prm j) : i = j := by
  unfold prm at h
  (repeat' split at h) <;> omega
theorem x_final {X : xG} {H : Heap} {A : Nat → Prop} {cf : Nat → Nat × va_E} {q : Nat → Nat} {o1 o2 o3 : Nat → Option Nat} (hP : va_P X.1 vwCl (wF cf 172) H) (hD : va_D A (wF cf 172)) (hb : ∀ k, k < 16 → k ≠ 1 → k ≠ 2 → k ≠ 4 → cf k = (q k, xfix X q x0 k)) (h1 : cf 1 = (q 1, rfE 4 (X.2 2) o1)) (h1' : ∀ j, j < 4 → o1 j = some (cf (16 + 3 * j)).1) (h2 : cf 2 = (q 2, rfE 120 (X.2 3) o2)) (h2' : ∀ j, j < 120 → o2 j = some (cf (28 + j)).1) (h3 : cf 4 = (q 4, rfE 24 (X.2 4) o3)) (h3' : ∀ j, j < 24 → o3 j = some (cf (148 + j)).1) (c1 : ∀ j, j < 4 → (cf (16 + 3 * j)).2 = eO (cf (17 + 3 * j)).1 (cf (18 + 3 * j)).1 ∧ (cf (17 + 3 * j)).2 = eZ X ∧ (cf (18 + 3 * j)).2 = eZ X) (c2 : ∀ j, j < 120 → (cf (28 + j)).2 = eP) (c3 : ∀ j, j < 24 → (cf (148 + j)).2 = eB) : ∃ ad : Nat → Nat, ad 0 = q 0 ∧ okA ad ∧ (∀ j, j < 172 → A (ad j)) ∧ va_P X.1 vwCl (wX X ad x0) H := by
  obtain ⟨ad, hade⟩ : ∃ ad : Nat → Nat, ∀ j, ad j = (cf (prm j)).1 := ⟨fun j => (cf (prm j)).1, fun _ => rfl⟩
  have a16 : ∀ m, m < 16 → ad m = q m := by
    intro m hm
    rw [hade, show prm m = m from by unfold prm; rw [if_pos hm]]
    by_cases e1 : m = 1
    · rw [e1, h1]
    · by_cases e2 : m = 2
      · rw [e2, h2]
      · by_cases e4 : m = 4
        · rw [e4, h3]
        · rw [hb m hm e1 e2 e4]
  have aO : ∀ i, i < 4 → ad (16 + i) = (cf (16 + 3 * i)).1 ∧ ad (20 + i) = (cf (17 + 3 * i)).1 ∧ ad (24 + i) = (cf (18 + 3 * i)).1 := by
    intro i hi
    rw [hade, hade, hade, show prm (16 + i) = 16 + 3 * i from by unfold prm; (repeat' split) <;> omega, show prm (20 + i) = 17 + 3 * i from by unfold prm; (repeat' split) <;> omega, show prm (24 + i) = 18 + 3 * i from by unfold prm; (repeat' split) <;> omega]
    exact ⟨rfl, rfl, rfl⟩
  have aR : ∀ j, 28 ≤ j → ad j = (cf j).1 := fun j hj => by rw [hade, show prm j = j from by unfold prm; (repeat' split) <;> omega]
  have fx : ∀ k, k < 16 → k ≠ 1 → k ≠ 2 → k ≠ 4 → xfix X ad x0 k = xfix X q x0 k := by
    have e1 := a16 1 (by decide)
    have e2 := a16 2 (by decide)
    have e3 := a16 3 (by decide)
    have e4 := a16 4 (by decide)
    have e5 := a16 5 (by decide)
    have e6 := a16 6 (by decide)
    have e7 := a16 7 (by decide)
    have e8 := a16 8 (by decide)
    have e9 := a16 9 (by decide)
    have e10 := a16 10 (by decide)
    have e11 := a16 11 (by decide)
    have e12 := a16 12 (by decide)
    have e13 := a16 13 (by decide)
    have e14 := a16 14 (by decide)
    have e15 := a16 15 (by decide)
    intro k hk n1 n2 n4
    match k, hk, n1, n2, n4 with
    | 0, _, _, _, _ => simp only [xfix, e1, e2, e3, e4, e5, e7, e9, e11, e14, e15]
    | 1, _, n, _, _ => exact absurd rfl n
    | 2, _, _, n, _ => exact absurd rfl n
    | 3, _, _, _, _ => rfl
    | 4, _, _, _, n => exact absurd rfl n
    | 5, _, _, _, _ => simp only [xfix, e6]
    | 6, _, _, _, _ => rfl
    | 7, _, _, _, _ => simp only [xfix, e8]
    | 8, _, _, _, _ => rfl
    | 9, _, _, _, _ => simp only [xfix, e10]
    | 10, _, _, _, _ => rfl
    | 11, _, _, _, _ => simp only [xfix, e12, e13]
    | 12, _, _, _, _ => rfl
    | 13, _, _, _, _ => rfl
    | 14, _, _, _, _ => rfl
    | 15, _, _, _, _ => rfl
    | k + 16, hk, _, _, _ => omega
  have okad : okA ad := fun i j hi hj z => by
    rw [hade, hade] at z
    exact prm_inj (hD.1 (prm i) (prm j) _ _ (wF_get (prm_lt hi)) (wF_get (prm_lt hj)) z)
  refine ⟨ad, a16 0 (by decide), okad, fun j hj => by rw [hade]; exact hD.2 _ _ (wF_get (prm_lt hj)), fun k p hk => ?_⟩
  obtain ⟨hk2, rfl⟩ := x_at hk
  have at' : ∀ m, m < 172 → va_at X.1 vwCl (cf m) H := fun m hm => hP m _ (wF_get hm)
  by_cases k16 : k < 16
  · have ex : xcell X ad x0 k = xfix X ad x0 k := by unfold xcell; rw [if_pos k16]
    rw [ex]
    by_cases e1 : k = 1
    · subst e1
      have b := at' 1 (by decide)
      rw [h1] at b
      rw [a16 1 (by decide)]
      show H[q 1]? = some (vp_cell (X.2 2) (4, .inr (.inr (.inr (.inr (fun i => some (ad (16 + i))))))))
      rw [← cellq (f := o1) (fun j hj => by rw [h1' j hj, (aO j hj).1])]
      exact b
    · by_cases e2 : k = 2
      · subst e2
        have b := at' 2 (by decide)
        rw [h2] at b
        rw [a16 2 (by decide)]
        show H[q 2]? = some (vp_cell (X.2 3) (120, .inr (.inr (.inr (.inr (fun i => some (ad (28 + i))))))))
        rw [← cellq (f := o2) (fun j hj => by rw [h2' j hj, aR _ (by omega)])]
        exact b
      · by_cases e4 : k = 4
        · subst e4
          have b := at' 4 (by decide)
          rw [h3] at b
          rw [a16 4 (by decide)]
          show H[q 4]? = some (vp_cell (X.2 4) (24, .inr (.inr (.inr (.inr (fun i => some (ad (148 + i))))))))
          rw [← cellq (f := o3) (fun j hj => by rw [h3' j hj, aR _ (by omega)])]
          exact b
        · have b := at' k hk2
          rw [hb k k16 e1 e2 e4] at b
          rw [fx k k16 e1 e2 e4, a16 k k16]
          exact b
  · by_cases k20 : k < 20
    · obtain ⟨i, rfl⟩ : ∃ i, k = 16 + i := ⟨k - 16, by omega⟩
      have hi : i < 4 := by omega
      obtain ⟨a1, a2, a3⟩ := aO i hi
      have b := at' (16 + 3 * i) (by omega)
      rw [xc_outlines0 hi]
      have e : xp_outlines0 X ad x0 i = (cf (16 + 3 * i)).2 := by
        rw [(c1 i hi).1]
        unfold xp_outlines0 eO
        rw [a2, a3]
        rfl
      rw [e, a1]
      exact b
    · by_cases k24 : k < 24
      · obtain ⟨i, rfl⟩ : ∃ i, k = 20 + i := ⟨k - 20, by omega⟩
        have hi : i < 4 := by omega
        obtain ⟨a1, a2, a3⟩ := aO i hi
        have b := at' (17 + 3 * i) (by omega)
        rw [xc_outlines1 hi]
        have e : xp_outlines1 X ad x0 i = (cf (17 + 3 * i)).2 := by rw [(c1 i hi).2.1]; rfl
        rw [e, a2]
        exact b
      · by_cases k28 : k < 28
        · obtain ⟨i, rfl⟩ : ∃ i, k = 24 + i := ⟨k - 24, by omega⟩
          have hi : i < 4 := by omega
          obtain ⟨a1, a2, a3⟩ := aO i hi
          have b := at' (18 + 3 * i) (by omega)
          rw [xc_outlines2 hi]
          have e : xp_outlines2 X ad x0 i = (cf (18 + 3 * i)).2 := by rw [(c1 i hi).2.2]; rfl
          rw [e, a3]
          exact b
        · by_cases k148 : k < 148
          · obtain ⟨i, rfl⟩ : ∃ i, k = 28 + i := ⟨k - 28, by omega⟩
            have hi : i < 120 := by omega
            have b := at' (28 + i) (by omega)
            rw [xc_pieces0 hi]
            have e : xp_pieces0 X ad x0 i = (cf (28 + i)).2 := by rw [c2 i hi]; rfl
            rw [e, aR _ (by omega)]
            exact b
          · obtain ⟨i, rfl⟩ : ∃ i, k = 148 + i := ⟨k - 148, by omega⟩
            have hi : i < 24 := by omega
            have b := at' (148 + i) (by omega)
            rw [xc_bars0 hi]
            have e : xp_bars0 X ad x0 i = (cf (148 + i)).2 := by rw [c3 i hi]; rfl
            rw [e, aR _ (by omega)]
            exact b
theorem xw1 {n a : Nat} {e : va_E} (h : n ≤ a) : ∀ (k : Nat) (x : Nat × va_E), ([(a, e)] : va_W)[k]? = some x → n ≤ x.1 := by
  intro k x hk
  match k, hk with
  | 0, hk => cases hk; exact h
  | k + 1, hk => simp at hk
theorem xn1 {a : Nat} {e : va_E} : ∀ (i j : Nat) (x z : Nat × va_E), ([(a, e)] : va_W)[i]? = some x → ([(a, e)] : va_W)[j]? = some z → x.1 = z.1 → i = j := by
  intro i j x z hi hj _
  have h1 := (List.getElem?_eq_some_iff.mp hi).1
  have h2 := (List.getElem?_eq_some_iff.mp hj).1
  simp at h1 h2
  omega
theorem xw2 {n a b : Nat} {e f : va_E} (h : n ≤ a) (h' : n ≤ b) : ∀ (k : Nat) (x : Nat × va_E), ([(a, e), (b, f)] : va_W)[k]? = some x → n ≤ x.1 := by
  intro k x hk
  match k, hk with
  | 0, hk => cases hk; exact h
  | 1, hk => cases hk; exact h'
  | k + 2, hk => simp at hk
theorem xn2 {a b : Nat} {e f : va_E} (h : a ≠ b) : ∀ (i j : Nat) (x z : Nat × va_E), ([(a, e), (b, f)] : va_W)[i]? = some x → ([(a, e), (b, f)] : va_W)[j]? = some z → x.1 = z.1 → i = j := by
  intro i j x z hi hj hxz
  match i, j, hi, hj with
  | 0, 0, _, _ => rfl
  | 1, 1, _, _ => rfl
  | 0, 1, hi, hj => cases hi; cases hj; exact absurd hxz h
  | 1, 0, hi, hj => cases hi; cases hj; exact absurd hxz.symm h
  | i + 2, _, hi, _ => simp at hi
  | 0, j + 2, _, hj => simp at hj
  | 1, j + 2, _, hj => simp at hj
