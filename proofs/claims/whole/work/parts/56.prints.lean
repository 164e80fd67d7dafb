/-! prints, alike. -/
theorem v_yprints {e : t_Exposure} {nk : Nat} (hE : okE e nk) {y : ySt} (hr : relE e y nk) {M : Nat → Nat → Bool} (hS : gS (Y_sums y) M) {b : t_Box} {k : Nat} (hk : k < 24) (hb : relB b y k) {d : Int32} (hd : 1 ≤ d.toInt ∧ d.toInt ≤ 1000) {l r t u : Nat} (el : Box_left b = nI l) (er : Box_right b = nI r) (et : Box_top b = nI t) (eu : Box_bottom b = nI u) (h1 : l < r) (h2 : r ≤ 48) (h3 : t < u) (h4 : u ≤ 48) : (xloop (fun q => f_MaskEdgesModel_prints_44 q) (fun _ _ _ _ _ => none) 100000) (nI k) d (0 : Int32) (nI t) y = some (b2 (pAny (fun a z => pr e nk M a z d.toInt) l r (u - t) t), y) := by
  obtain ⟨b1, b2', b3, b4⟩ := hb
  have gk : xin (nI k) 24 = true := xin_n hk (by omega)
  have ck : (nI k).toNatClampNeg = k := nI_clamp (by omega)
  rw [el] at b1
  rw [et] at b2'
  rw [er] at b3
  rw [eu] at b4
  have i3 : (nI r - 1 : Int32).toInt = (r : Int) - 1 := by rw [i_sub (by rw [i_n (by omega), c1]; omega) (by rw [i_n (by omega), c1]; omega), i_n (by omega), c1]
  have i4 : (nI u - 1 : Int32).toInt = (u : Int) - 1 := by rw [i_sub (by rw [i_n (by omega), c1]; omega) (by rw [i_n (by omega), c1]; omega), i_n (by omega), c1]
  have row : ∀ (kk : Int32 → Int32 → Int32 → Int32 → ySt → Option (Int32 × ySt)) (z f a fuel : Nat) (some' : Bool), f + a = r → z < 48 → f + 1 ≤ fuel → xloop (fun q => f_MaskEdgesModel_prints_63 q kk) (fun _ _ _ _ _ _ => none) fuel (nI k) d (b2 some') (nI z) (nI a) y = kk (nI k) d (b2 (some' || pAny.pRow (fun a z => pr e nk M a z d.toInt) z f a)) (nI z) y := by
    intro kk z f
    induction f with
    | zero =>
      intro a fuel s ha hz hf
      obtain ⟨fl, rfl⟩ : ∃ fl, fuel = fl + 1 := ⟨fuel - 1, by omega⟩
      show f_MaskEdgesModel_prints_63 _ kk (nI k) d (b2 s) (nI z) (nI a) y = _
      unfold f_MaskEdgesModel_prints_63
      rw [if_pos gk, ck, b3, if_pos (by rw [i_lt, i3, i_n (by omega)]; omega)]
      show _ = kk (nI k) d (b2 (s || false)) (nI z) y
      rw [Bool.or_false]
    | succ f ih =>
      intro a fuel s ha hz hf
      obtain ⟨fl, rfl⟩ : ∃ fl, fuel = fl + 1 := ⟨fuel - 1, by omega⟩
      have ihn := fun s => ih (a + 1) fl s (by omega) hz (by omega)
      show f_MaskEdgesModel_prints_63 (xloop (fun q => f_MaskEdgesModel_prints_63 q kk) (fun _ _ _ _ _ _ => none) fl) kk (nI k) d (b2 s) (nI z) (nI a) y = _
      generalize xloop (fun q => f_MaskEdgesModel_prints_63 q kk) (fun _ _ _ _ _ _ => none) fl = rr at ihn
      unfold f_MaskEdgesModel_prints_63 f_MaskEdgesModel_prints_90 f_MaskEdgesModel_prints_95
      rw [if_pos gk, ck, b3, if_neg (by rw [i_lt, i3, i_n (by omega)]; omega), b2_if, v_doesPrint hE hr hS _ _ _ hd, Option.bind_some, b2_if, nI_1, i_n (by omega), i_n (by omega)]
      show _ = kk (nI k) d (b2 (s || (pr e nk M a z d.toInt || pAny.pRow (fun a z => pr e nk M a z d.toInt) z f (a + 1)))) (nI z) y
      have t1 := ihn true
      have t0 := ihn false
      rw [b2_t] at t1
      rw [b2_f] at t0
      rw [t1, t0]
      cases s <;> cases pr e nk M a z d.toInt <;> rfl
  have all : ∀ (f z fuel : Nat) (s : Bool), f + z = u → f + 1 ≤ fuel → xloop (fun q => f_MaskEdgesModel_prints_44 q) (fun _ _ _ _ _ => none) fuel (nI k) d (b2 s) (nI z) y = some (b2 (s || pAny (fun a z => pr e nk M a z d.toInt) l r f z), y) := by
    intro f
    induction f with
    | zero =>
      intro z fuel s hz hf
      obtain ⟨fl, rfl⟩ : ∃ fl, fuel = fl + 1 := ⟨fuel - 1, by omega⟩
      show f_MaskEdgesModel_prints_44 _ (nI k) d (b2 s) (nI z) y = _
      unfold f_MaskEdgesModel_prints_44
      rw [if_pos gk, ck, b4, if_pos (by rw [i_lt, i4, i_n (by omega)]; omega), if_pos (b2_z _)]
      show _ = some (b2 (s || false), y)
      rw [Bool.or_false]
    | succ f ih =>
      intro z fuel s hz hf
      obtain ⟨fl, rfl⟩ : ∃ fl, fuel = fl + 1 := ⟨fuel - 1, by omega⟩
      have ihn := fun s => ih (z + 1) fl s (by omega) (by omega)
      show f_MaskEdgesModel_prints_44 (xloop (fun q => f_MaskEdgesModel_prints_44 q) (fun _ _ _ _ _ => none) fl) (nI k) d (b2 s) (nI z) y = _
      generalize xloop (fun q => f_MaskEdgesModel_prints_44 q) (fun _ _ _ _ _ => none) fl = rr at ihn
      unfold f_MaskEdgesModel_prints_44
      rw [if_pos gk, ck, b4, if_neg (by rw [i_lt, i4, i_n (by omega)]; omega), if_pos gk, b1, row _ z (r - l) l 100000 s (by omega) (by omega) (by omega)]
      unfold f_MaskEdgesModel_prints_102
      rw [nI_1, ihn]
      show some (b2 (s || pAny.pRow (fun a z => pr e nk M a z d.toInt) z (r - l) l || pAny (fun a z => pr e nk M a z d.toInt) l r f (z + 1)), y) = some (b2 (s || (pAny.pRow (fun a z => pr e nk M a z d.toInt) z (r - l) l || pAny (fun a z => pr e nk M a z d.toInt) l r f (z + 1))), y)
      rw [Bool.or_assoc]
  have := all (u - t) t 100000 false (by omega) (by omega)
  rw [b2_f, Bool.false_or] at this
  exact this
theorem op_prints {x : xSt} {y : ySt} (h : rel x y) (a b : Int32) : ∃ v y', f_MaskEdges_prints x a b = some v ∧ f_MaskEdgesModel_prints a b y = some (v, y') ∧ rel x y' := by
  obtain ⟨c, nk, n, nb, nw, h⟩ := h
  obtain ⟨hn, hn2, hB⟩ := h.2.2.2.1
  obtain ⟨hE, rE⟩ := h.2.1
  have yB : f_MaskEdgesModel_isBetween a.toInt64 (0 : Int64) (((Y_bars y) - (1 : Int32)).toInt64) = some (b2 (decide (0 ≤ a.toInt ∧ a.toInt ≤ (nb : Int) - 1))) := by
    rw [hB.1, v_isB a (show (0 : Int64).toInt = 0 from rfl) (nm1 (by omega))]
  unfold f_MaskEdges_prints f_MaskEdgesModel_prints
  rw [yB, Option.bind_some, b2_iff, hn]
  by_cases g : 0 ≤ a.toInt ∧ a.toInt ≤ (nb : Int) - 1
  · obtain ⟨k, hk, rfl⟩ := isP g
    have ik : (nI k).toInt = k := i_n (by omega)
    have gk : xin (nI k) 24 = true := xin_n (by omega) (by omega)
    have ck : (nI k).toNatClampNeg = k := nI_clamp (by omega)
    rw [if_pos g, if_neg (by rw [i_lt, c0]; omega), if_neg (by rw [i_le, i_n (by omega)]; omega), v_wi b (show (1 : Int32).toInt = 1 from rfl) (show (1000 : Int32).toInt = 1000 from rfl), Option.bind_some, b2_iff, v_isB b (show (1 : Int64).toInt = 1 from rfl) (show (1000 : Int64).toInt = 1000 from rfl), Option.bind_some, b2_iff]
    by_cases d : 1 ≤ b.toInt ∧ b.toInt ≤ 1000
    · rw [if_pos d, if_pos d, if_pos gk, ck]
      obtain ⟨m, t, e, -, gs, hr⟩ := v_make h
      have hbk := (hr.2.2.2.1.2.2.2.1 k hk)
      obtain ⟨okb, rb⟩ := hbk
      obtain ⟨⟨q1, q2, q3⟩, ⟨q4, q5, q6⟩⟩ := okb
      rw [e, Option.bind_some, if_pos gk]
      have el := i_of q1
      have er := i_of (a := Box_right (X_bars x k)) (by omega)
      have et := i_of q4
      have eu := i_of (a := Box_bottom (X_bars x k)) (by omega)
      have v1 := v_xprints (x := x) (k := k) hE (hB.2.1 k hk).1 d el er et eu (by omega) (by omega) (by omega) (by omega)
      have v2 := v_yprints hE hr.2.1.2 (M := cs (X_mask x)) gs (b := X_bars x k) (k := k) (by omega) rb d el er et eu (by omega) (by omega) (by omega) (by omega)
      have yb : Y_barY (Y_u_sums (Y_u_mask y m) t) k = Box_top (X_bars x k) := rb.2.1
      rw [yb]
      rw [← et] at v1 v2
      exact ⟨_, _, v1, v2, c, nk, n, nb, nw, hr⟩
    · rw [if_neg d, if_neg d]
      exact ⟨_, _, rfl, rfl, c, nk, n, nb, nw, h⟩
  · rw [if_neg g]
    refine ⟨0, y, ?_, rfl, c, nk, n, nb, nw, h⟩
    by_cases q : a < 0
    · rw [if_pos q]
    · rw [if_neg q, if_pos (by rw [i_lt, c0] at q; rw [i_le, i_n (by omega)]; omega)]
