/-! The law's loop; the law from its entry. -/
theorem lgo {i L : Nat} (h : ¬ nI L - 6 < nI i) (hL : L ≤ 3072) (hi : i ≤ L + 6) : i + 6 ≤ L := by
  rw [i_lt, i_sub (by rw [i_n (by omega), show (6 : Int32).toInt = 6 from rfl]; omega) (by rw [i_n (by omega), show (6 : Int32).toInt = 6 from rfl]; omega), i_n (by omega), i_n (by omega), show (6 : Int32).toInt = 6 from rfl] at h
  omega
set_option maxHeartbeats 4000000 in
set_option maxRecDepth 100000 in
theorem law_loop {p : Program} {l : Launch} {e : Env} {s : State} {m : MethodId} {below : List Frame} {meth : Method} {c : Code} {b L : Nat} {xs : Nat → Int32} {X : xG} {ad bd : Nat → Nat} (C0 : lw_At p s m meth c b L xs) (hKK : xK X s) (hA : okA ad) (hB : okB bd) (had : ∀ j, j < 172 → s.heap.size ≤ ad j) (hbd : ∀ j, j < 23 → s.heap.size ≤ bd j) (hap : ∀ i j, i < 172 → j < 23 → ad i ≠ bd j) (hL : L ≤ 3072) : ∀ (n i : Nat), L + 6 ≤ i + 6 * n → i ≤ L + 6 → ∀ (ST : xSt) (SY : ySt) (H : Heap) (locs : List Loc), rel ST SY → va_P X.1 vwCl (wX X ad ST) H → va_P X.1 vwCl (wY X bd SY) H → va_S (fun q : Nat => s.heap.size ≤ q) s.heap H locs → ∀ (ls : Array Slot), lv_has ls 4 [(0, .ref b), (1, .ref (ad 0)), (2, .ref (bd 0)), (3, .int (nI i))] → W p l e room_1 s m #[Value.ref b] below meth c H locs 195 8228 (lw_Z below #[Value.ref b] s) (F0 m 18 ls []) := by
  obtain ⟨hx, hb, hr, hml, hown0, hts, hX, hbl, hlocks, hgv⟩ := id C0
  have hbA : ¬ (fun q : Nat => s.heap.size ≤ q) b := Nat.not_le.mpr hbl
  have fin : ∀ (H : Heap) (locs : List Loc) (ls : Array Slot), va_S (fun q : Nat => s.heap.size ≤ q) s.heap H locs → W p l e room_1 s m #[Value.ref b] below meth c H locs 195 8228 (lw_Z below #[Value.ref b] s) (F0 m 649 ls []) := by
    intro H locs ls hS
    refine lv_iconst (v := 1) hx hb d_Law_law_649 (by decide) ?_
    refine va_forget (fun q hq => hS.2.2 q hq) ?_
    refine W.widen (k := 600000) (n := 7302250) (by omega) (by omega) ?_
    exact lw_ret hx hb hr hlocks d_Law_law_650
  intro n
  induction n with
  | zero =>
    intro i h1 h2 ST SY H locs hrel hP hPy hS ls hl
    refine lv_iload_n hx hb d_Law_law_18 rfl (lv_at hl 3 rfl) ?_
    refine lv_aload_n hx hb d_Law_law_19 rfl (lv_at hl 0 rfl) ?_
    refine va_slen hx hb hX hbl hbA hS d_Law_law_20 ?_
    refine lv_bipush (v := 6) hx hb d_Law_law_21 (by decide) ?_
    refine lv_isub hx hb d_Law_law_23 ?_
    refine lv_icmp_gt (tgt := 649) hx hb d_Law_law_24 (by decide) (fun hc => fin _ _ _ hS) (fun hc => ?_)
    have := lgo (i := i) hc hL h2
    omega
  | succ n ih =>
    intro i h1 h2 ST SY H locs hrel hP hPy hS ls hl
    refine lv_iload_n hx hb d_Law_law_18 rfl (lv_at hl 3 rfl) ?_
    refine lv_aload_n hx hb d_Law_law_19 rfl (lv_at hl 0 rfl) ?_
    refine va_slen hx hb hX hbl hbA hS d_Law_law_20 ?_
    refine lv_bipush (v := 6) hx hb d_Law_law_21 (by decide) ?_
    refine lv_isub hx hb d_Law_law_23 ?_
    refine lv_icmp_gt (tgt := 649) hx hb d_Law_law_24 (by decide) (fun hc => fin _ _ _ hS) (fun hc => ?_)
    have hi : i + 6 ≤ L := lgo (i := i) hc hL h2
    have kk : ∀ (ST' : xSt) (SY' : ySt) (H : Heap) (locs : List Loc), rel ST' SY' → va_P X.1 vwCl (wX X ad ST') H → va_P X.1 vwCl (wY X bd SY') H → va_S (fun q : Nat => s.heap.size ≤ q) s.heap H locs → W p l e room_1 s m #[Value.ref b] below meth c H locs 195 8228 (lw_Z below #[Value.ref b] s) (F0 m 643 ls []) := by
      intro ST' SY' H locs r1 r2 r3 r4
      refine lv_iinc (v := nI (i + 6)) (lv' := [(3, .int (nI (i + 6))), (0, .ref b), (1, .ref (ad 0)), (2, .ref (bd 0))]) hx hb d_Law_law_643 hl (k := 3) rfl (by rw [← nadd]; rfl) (by decide) rfl (fun ls hl => ?_)
      refine lv_goto (tgt := 18) hx hb d_Law_law_646 (by decide) ?_
      exact ih (i + 6) (by omega) (by omega) ST' SY' H locs r1 r2 r3 r4 ls (lv_sub hl [1, 2, 3, 0] rfl)
    refine lv_aload_n hx hb d_Law_law_27 rfl (lv_at hl 0 rfl) ?_
    refine lv_iload_n hx hb d_Law_law_28 rfl (lv_at hl 3 rfl) ?_
    refine va_sld hx hb hX hbl hbA hS (vp_in_nI (by omega) (by omega)) d_Law_law_29 ?_
    refine lv_bipush (v := 15) hx hb d_Law_law_30 (by decide) ?_
    refine lv_iand hx hb d_Law_law_32 ?_
    generalize (xs (nI i).toNatClampNeg &&& 15) = w
    by_cases c0 : w = 0
    · refine lv_tableIn (x := w) (off := 75) (tgt := 108) hx hb d_Law_law_33 (by rw [c0]; decide) (by rw [c0]; decide) (by rw [c0]; decide +kernel) (by decide) ?_
      exact law_polygon C0 hKK hA hB had hbd hap hi hL hrel hP hPy hS hl kk
    by_cases c1 : w = 1
    · refine lv_tableIn (x := w) (off := 88) (tgt := 121) hx hb d_Law_law_33 (by rw [c1]; decide) (by rw [c1]; decide) (by rw [c1]; decide +kernel) (by decide) ?_
      exact law_corner C0 hKK hA hB had hbd hap hi hL hrel hP hPy hS hl kk
    by_cases c2 : w = 2
    · refine lv_tableIn (x := w) (off := 191) (tgt := 224) hx hb d_Law_law_33 (by rw [c2]; decide) (by rw [c2]; decide) (by rw [c2]; decide +kernel) (by decide) ?_
      exact law_kernel C0 hKK hA hB had hbd hap hi hL hrel hP hPy hS hl kk
    by_cases c3 : w = 3
    · refine lv_tableIn (x := w) (off := 224) (tgt := 257) hx hb d_Law_law_33 (by rw [c3]; decide) (by rw [c3]; decide) (by rw [c3]; decide +kernel) (by decide) ?_
      exact law_cut C0 hKK hA hB had hbd hap hi hL hrel hP hPy hS hl kk
    by_cases c4 : w = 4
    · refine lv_tableIn (x := w) (off := 247) (tgt := 280) hx hb d_Law_law_33 (by rw [c4]; decide) (by rw [c4]; decide) (by rw [c4]; decide +kernel) (by decide) ?_
      exact law_image C0 hKK hA hB had hbd hap hi hL hrel hP hPy hS hl kk
    by_cases c5 : w = 5
    · refine lv_tableIn (x := w) (off := 280) (tgt := 313) hx hb d_Law_law_33 (by rw [c5]; decide) (by rw [c5]; decide) (by rw [c5]; decide +kernel) (by decide) ?_
      exact law_error C0 hKK hA hB had hbd hap hi hL hrel hP hPy hS hl kk
    by_cases c6 : w = 6
    · refine lv_tableIn (x := w) (off := 303) (tgt := 336) hx hb d_Law_law_33 (by rw [c6]; decide) (by rw [c6]; decide) (by rw [c6]; decide +kernel) (by decide) ?_
      exact law_run C0 hKK hA hB had hbd hap hi hL hrel hP hPy hS hl kk
    by_cases c7 : w = 7
    · refine lv_tableIn (x := w) (off := 356) (tgt := 389) hx hb d_Law_law_33 (by rw [c7]; decide) (by rw [c7]; decide) (by rw [c7]; decide +kernel) (by decide) ?_
      exact law_moved C0 hKK hA hB had hbd hap hi hL hrel hP hPy hS hl kk
    by_cases c8 : w = 8
    · refine lv_tableIn (x := w) (off := 379) (tgt := 412) hx hb d_Law_law_33 (by rw [c8]; decide) (by rw [c8]; decide) (by rw [c8]; decide +kernel) (by decide) ?_
      exact law_worst C0 hKK hA hB had hbd hap hi hL hrel hP hPy hS hl kk
    by_cases c9 : w = 9
    · refine lv_tableIn (x := w) (off := 402) (tgt := 435) hx hb d_Law_law_33 (by rw [c9]; decide) (by rw [c9]; decide) (by rw [c9]; decide +kernel) (by decide) ?_
      exact law_helper C0 hKK hA hB had hbd hap hi hL hrel hP hPy hS hl kk
    by_cases c10 : w = 10
    · refine lv_tableIn (x := w) (off := 435) (tgt := 468) hx hb d_Law_law_33 (by rw [c10]; decide) (by rw [c10]; decide) (by rw [c10]; decide +kernel) (by decide) ?_
      exact law_prints C0 hKK hA hB had hbd hap hi hL hrel hP hPy hS hl kk
    by_cases c11 : w = 11
    · refine lv_tableIn (x := w) (off := 468) (tgt := 501) hx hb d_Law_law_33 (by rw [c11]; decide) (by rw [c11]; decide) (by rw [c11]; decide +kernel) (by decide) ?_
      exact law_edge C0 hKK hA hB had hbd hap hi hL hrel hP hPy hS hl kk
    by_cases c12 : w = 12
    · refine lv_tableIn (x := w) (off := 501) (tgt := 534) hx hb d_Law_law_33 (by rw [c12]; decide) (by rw [c12]; decide) (by rw [c12]; decide +kernel) (by decide) ?_
      exact law_alike C0 hKK hA hB had hbd hap hi hL hrel hP hPy hS hl kk
    by_cases c13 : w = 13
    · refine lv_tableIn (x := w) (off := 534) (tgt := 567) hx hb d_Law_law_33 (by rw [c13]; decide) (by rw [c13]; decide) (by rw [c13]; decide +kernel) (by decide) ?_
      exact law_shift C0 hKK hA hB had hbd hap hi hL hrel hP hPy hS hl kk
    by_cases c14 : w = 14
    · refine lv_tableIn (x := w) (off := 567) (tgt := 600) hx hb d_Law_law_33 (by rw [c14]; decide) (by rw [c14]; decide) (by rw [c14]; decide +kernel) (by decide) ?_
      exact law_is C0 hKK hA hB had hbd hap hi hL hrel hP hPy hS hl kk
    refine lv_tableOut (x := w) (tgt := 643) hx hb d_Law_law_33 (x_out (by decide) (by decide) (fun j h1 h2 => ?_)) (by decide) (kk ST SY H locs hrel hP hPy hS)
    obtain h | h | h | h | h | h | h | h | h | h | h | h | h | h | h : j = 0 ∨ j = 1 ∨ j = 2 ∨ j = 3 ∨ j = 4 ∨ j = 5 ∨ j = 6 ∨ j = 7 ∨ j = 8 ∨ j = 9 ∨ j = 10 ∨ j = 11 ∨ j = 12 ∨ j = 13 ∨ j = 14 := by omega
    · subst h; exact c0
    · subst h; exact c1
    · subst h; exact c2
    · subst h; exact c3
    · subst h; exact c4
    · subst h; exact c5
    · subst h; exact c6
    · subst h; exact c7
    · subst h; exact c8
    · subst h; exact c9
    · subst h; exact c10
    · subst h; exact c11
    · subst h; exact c12
    · subst h; exact c13
    · subst h; exact c14
theorem xPKo {X : xG} {s : State} {H : Heap} {As : List Value} (h : xKo X s) : PreS s H (va_Pc As (fun U => U.heap = H ∧ xKo X U)) As :=
  ⟨fun _ U _ _ q => ⟨q.1, q.2.1, xK.blind q.2.2.1, va_AO.moved (u := U) (Vm.Alike.refl U.vm) q.2.2.2.1, va_AO.moved (u := U) (Vm.Alike.refl U.vm) q.2.2.2.2.1, va_AO.moved (u := U) (Vm.Alike.refl U.vm) q.2.2.2.2.2⟩, fun _ hU hW => ⟨rfl, hU, xK.moved hW h.1, h.2.1.moved hW.alike, h.2.2.1.moved hW.alike, h.2.2.2.moved hW.alike⟩⟩
theorem law_K {b : Nat} {s : State} (hts : ∀ w ∈ lw_tbl, w.before #[Value.ref b] s = true) : ∃ X : xG, xKo X s := by
  have ht : ∀ w ∈ xT, w.before #[Value.ref b] s = true := fun w h => hts w (xTg w h).1
  obtain ⟨c0, i0, k0⟩ := u_known (C := "MaskEdges$Box") (T := F_Box) (N := 4) (n := 4) ht in_Box (ht _ xw_80)
  obtain ⟨c1, i1, k1⟩ := u_known (C := "MaskEdges$CellSet") (T := F_CellSet) (N := 1) (n := 1) ht in_CellSet (ht _ xw_58)
  obtain ⟨c2, i2, k2⟩ := u_known (C := "MaskEdges$Exposure") (T := F_Exposure) (N := 4) (n := 4) ht in_Exposure (ht _ xw_67)
  obtain ⟨c3, i3, k3⟩ := u_known (C := "MaskEdges$Outline") (T := F_Outline) (N := 4) (n := 4) ht in_Outline (ht _ xw_100)
  obtain ⟨c4, i4, k4⟩ := u_known (C := "MaskEdges$Piece") (T := F_Piece) (N := 12) (n := 12) ht in_Piece (ht _ xw_116)
  obtain ⟨c5, i5, k5⟩ := u_known (C := "MaskEdges") (T := F_MaskEdges) (N := 14) (n := 14) ht in_MaskEdges (ht _ xw_47)
  obtain ⟨c6, i6, k6⟩ := u_known (C := "MaskEdgesModel") (T := F_MaskEdgesModel) (N := 28) (n := 28) ht in_MaskEdgesModel (ht _ xw_442)
  obtain ⟨aI, kI, pI, f0, g0, h0⟩ := Cond.arrayClass_spec (ht _ xw_64)
  obtain ⟨aJ, kJ, pJ, f1, g1, h1⟩ := Cond.arrayClass_spec (ht _ xw_65)
  obtain ⟨aZ, kZ, pZ, f5, g5, h5⟩ := Cond.arrayClass_spec (ht _ xw_503)
  obtain ⟨pO, aO, kO, e2, -, g2, h2, f2⟩ := Cond.arrayOver_spec (hts _ ov_Outline)
  obtain ⟨pP, aP, kP, e3, -, g3, h3, f3⟩ := Cond.arrayOver_spec (hts _ ov_Piece)
  obtain ⟨pB, aB, kB, e4, -, g4, h4, f4⟩ := Cond.arrayOver_spec (hts _ ov_Box)
  have ar : ∀ {a : ClassId} {k : Class} {q : ClassId} {t : FieldType}, s.vm.classes[a]? = some k → k.kind = .array q t → ArrOfT s a t := fun {a k q t} g h n z => ⟨(fun _ h => by cases h), k, g, q, h⟩
  refine ⟨((fun k => if k = 0 then c0 else if k = 1 then c1 else if k = 2 then c2 else if k = 3 then c3 else if k = 4 then c4 else if k = 5 then c5 else c6, fun k => if k = 0 then i0 else if k = 1 then i1 else if k = 2 then i2 else if k = 3 then i3 else if k = 4 then i4 else if k = 5 then i5 else i6), fun k => if k = 0 then aI else if k = 1 then aJ else if k = 2 then aO else if k = 3 then aP else if k = 4 then aB else aZ), ⟨⟨?_, ?_⟩, ?_⟩, va_AO.of (hts _ ov_Outline), va_AO.of (hts _ ov_Piece), va_AO.of (hts _ ov_Box)⟩
  · intro k q hq
    match k, hq with
    | 0, hq => cases hq; exact k0
    | 1, hq => cases hq; exact k1
    | 2, hq => cases hq; exact k2
    | 3, hq => cases hq; exact k3
    | 4, hq => cases hq; exact k4
    | 5, hq => cases hq; exact k5
    | 6, hq => cases hq; exact k6
    | k + 7, hq => simp [vwCl] at hq
  · intro k q hq
    match k, hq with
    | 0, hq => cases hq; exact ⟨ar g0 h0, f0⟩
    | 1, hq => cases hq; exact ⟨ar g1 h1, f1⟩
    | 2, hq => cases hq; exact ⟨ar g2 h2, kO, pO, g2, h2, e2, f2⟩
    | 3, hq => cases hq; exact ⟨ar g3 h3, kP, pP, g3, h3, e3, f3⟩
    | 4, hq => cases hq; exact ⟨ar g4 h4, kB, pB, g4, h4, e4, f4⟩
    | 5, hq => cases hq; exact ⟨ar g5 h5, f5⟩
    | k + 6, hq => simp [xTy] at hq
  · intro w hw
    have h1 := hts w (nl_all w hw)
    obtain ⟨a, i, x, q, rfl⟩ := xNl_form w hw
    exact va_Nw.of rfl h1
set_option maxHeartbeats 4000000 in
set_option maxRecDepth 100000 in
theorem whole_start {p : Program} {e : Env} {s : State} {m : MethodId} {below : List Frame} {meth : Method} {c : Code} (l : Launch) {b L : Nat} {xs : Nat → Int32} (hL : L ≤ 3072) (C0 : lw_At p s m meth c b L xs) : W p l e room_1 s m #[Value.ref b] below meth c s.heap [] 0 0 (lw_Z below #[Value.ref b] s) (entryFrame m ([Value.ref b] : List Value).toArray 4) := by
  obtain ⟨hx, hb, hr, hml, hown0, hts, hX, hbl, hlocks, hgv⟩ := id C0
  have ht : ∀ w ∈ xT, w.before #[Value.ref b] s = true := fun w h => hts w (xTg w h).1
  have hown : s.vm.findClass "MaskEdgesLaw" = some m.cls := hown0
  have hA : ∀ q : Nat, s.heap.size ≤ q → (fun q : Nat => s.heap.size ≤ q) q := fun _ h => h
  obtain ⟨X, hKo⟩ := law_K hts
  have hKK := hKo.1
  have hK := hKK.1
  have hS : va_S (fun q : Nat => s.heap.size ≤ q) s.heap s.heap [] := va_S.rf
  have hP : va_P X.1 vwCl [] s.heap := xp_nil
  have hD : va_D (fun q : Nat => s.heap.size ≤ q) [] := ⟨fun i j p q h => by simp at h, fun k q h => by simp at h⟩
  have hl := lv_entry ([.ref b]) (n := 4) (Nat.le_of_ble_eq_true rfl)
  rw [lg_entry_eq]
  generalize (lg_sl ([.ref b]) ++ List.replicate (4 - (lg_sl ([.ref b])).length) Slot.unset).toArray = ls at hl ⊢
  replace hl : lv_has ls 4 [(0, .ref b)] := hl
  refine va_new (ci := 5) (fs := [.null, .int 0, .null, .int 0, .null, .null, .int 0, .null, .null, .null, .null, .null, .int 0, .null]) (C := "MaskEdges") (T := F_MaskEdges) (N := 14) hx hb ht in_MaskEdges ty_MaskEdges tyk_MaskEdges hown (ht _ xw_46) (ht _ xw_47) (ht _ xw_37) hK hP hD hS hA rfl (fun j hj => by rcases (show j = 0 ∨ j = 1 ∨ j = 2 ∨ j = 3 ∨ j = 4 ∨ j = 5 ∨ j = 6 ∨ j = 7 ∨ j = 8 ∨ j = 9 ∨ j = 10 ∨ j = 11 ∨ j = 12 ∨ j = 13 by omega) with rfl | rfl | rfl | rfl | rfl | rfl | rfl | rfl | rfl | rfl | rfl | rfl | rfl | rfl <;> rfl) (Nat.le_of_ble_eq_true rfl) (Nat.le_of_ble_eq_true rfl) d_Law_law_0 (fun qx H hP hD hS => ?_)
  replace hP : va_P X.1 vwCl [(qx, .inr (5, [.null, .int 0, .null, .int 0, .null, .null, .int 0, .null, .null, .null, .null, .null, .int 0, .null]))] H := hP
  replace hD : va_D (fun q : Nat => s.heap.size ≤ q) [(qx, .inr (5, [.null, .int 0, .null, .int 0, .null, .null, .int 0, .null, .null, .null, .null, .null, .int 0, .null]))] := hD
  have hqx : s.heap.size ≤ qx := hD.2 0 _ rfl
  refine lv_dup hx hb d_Law_law_3 rfl ?_
  refine xcI (va_runI (As := []) (rest := [.ref qx]) ⟨hx, hb, hml, hown, ht⟩ (c_MaskEdges_init l X qx hP) (cwI 0 ht (xgC xw_50) rfl rfl rfl (ht _ xw_37) (ht _ xw_48) (ht _ xw_49) rfl (by decide +kernel) ⟨Nat.le_of_ble_eq_true rfl, Nat.le_of_ble_eq_true rfl⟩) (xPKo hKo) rfl rfl hl.1 rfl (lv_room (Nat.le_of_ble_eq_true rfl)) d_Law_law_4 ⟨Nat.le_of_ble_eq_true rfl, Nat.le_of_ble_eq_true rfl⟩) (fun H1 L1 hq hz => ?_)
  obtain ⟨ad, a0, hokA, had1, hPx⟩ := hq
  have had : ∀ j, j < 172 → s.heap.size ≤ ad j := fun j hj => by
    by_cases z : j = 0
    · rw [z, a0]; exact hqx
    · exact Nat.le_trans hS.1 (had1 j (by omega) hj)
  replace hS := xS_call hS hz (fun q h => by
    rcases h with h | h
    · show s.heap.size ≤ q
      rw [h]; exact hqx
    · exact Nat.le_trans hS.1 h)
  clear hP hD hz
  refine W.eq (g2 := F0 m 7 ls [.ref qx]) rfl ?_
  rw [← a0]
  refine lv_astore_n (lv' := [(1, .ref (ad 0)), (0, .ref b)]) hx hb d_Law_law_7 rfl hl (by decide) rfl (fun ls hl => ?_)
  have hDx : va_D (fun q : Nat => s.heap.size ≤ q) (wX X ad x0) := ⟨fun i j p q hi hj hpq => by
    obtain ⟨hi2, rfl⟩ := x_at hi
    obtain ⟨hj2, rfl⟩ := x_at hj
    exact hokA i j hi2 hj2 hpq, fun k q hk => by
    obtain ⟨hk2, rfl⟩ := x_at hk
    exact had k hk2⟩
  refine va_new (ci := 6) (fs := [.int 0, .null, .null, .null, .null, .int 0, .null, .null, .int 0, .int 0, .null, .null, .null, .null, .null, .null, .null, .null, .null, .int 0, .null, .null, .null, .null, .null, .null, .int 0, .null]) (C := "MaskEdgesModel") (T := F_MaskEdgesModel) (N := 28) hx hb ht in_MaskEdgesModel ty_MaskEdgesModel tyk_MaskEdgesModel hown (ht _ xw_441) (ht _ xw_442) (ht _ xw_43) hK hPx hDx hS hA rfl (fun j hj => by rcases (show j = 0 ∨ j = 1 ∨ j = 2 ∨ j = 3 ∨ j = 4 ∨ j = 5 ∨ j = 6 ∨ j = 7 ∨ j = 8 ∨ j = 9 ∨ j = 10 ∨ j = 11 ∨ j = 12 ∨ j = 13 ∨ j = 14 ∨ j = 15 ∨ j = 16 ∨ j = 17 ∨ j = 18 ∨ j = 19 ∨ j = 20 ∨ j = 21 ∨ j = 22 ∨ j = 23 ∨ j = 24 ∨ j = 25 ∨ j = 26 ∨ j = 27 by omega) with rfl | rfl | rfl | rfl | rfl | rfl | rfl | rfl | rfl | rfl | rfl | rfl | rfl | rfl | rfl | rfl | rfl | rfl | rfl | rfl | rfl | rfl | rfl | rfl | rfl | rfl | rfl | rfl <;> rfl) (Nat.le_of_ble_eq_true rfl) (Nat.le_of_ble_eq_true rfl) d_Law_law_8 (fun qy H hP hD hS => ?_)
  have hwl : (wX X ad x0).length = 172 := xlen
  have hPl : va_P X.1 vwCl [(qy, .inr (6, [.int 0, .null, .null, .null, .null, .int 0, .null, .null, .int 0, .int 0, .null, .null, .null, .null, .null, .null, .null, .null, .null, .int 0, .null, .null, .null, .null, .null, .null, .int 0, .null]))] H := xp_cons (hP 172 _ (by rw [List.getElem?_append_right (by rw [hwl]; exact Nat.le_refl _), hwl]; rfl)) xp_nil
  have hPx2 : va_P X.1 vwCl (wX X ad x0) H := fun k q hk => hP k q (by rw [List.getElem?_append_left (List.getElem?_eq_some_iff.mp hk).1]; exact hk)
  have hny : ∀ j, j < 172 → ad j ≠ qy := fun j hj z => by
    have := hD.1 j 172 _ _ (by rw [List.getElem?_append_left (by rw [hwl]; exact hj)]; exact xget j hj) (by rw [List.getElem?_append_right (by rw [hwl]; exact Nat.le_refl _), hwl]; rfl) z
    omega
  have hqy : s.heap.size ≤ qy := hD.2 172 _ (by rw [List.getElem?_append_right (by rw [hwl]; exact Nat.le_refl _), hwl]; rfl)
  have hxlt : ∀ j, j < 172 → ad j < H.size := fun j hj => (hPx2 j _ (xget j hj)).lt
  clear hP hD hPx
  refine lv_dup hx hb d_Law_law_11 rfl ?_
  refine xcI (va_runI (As := []) (rest := [.ref qy]) ⟨hx, hb, hml, hown, ht⟩ (c_MaskEdgesModel_init l X qy hPl) (cwI 0 ht (xgC xw_445) rfl rfl rfl (ht _ xw_43) (ht _ xw_443) (ht _ xw_444) rfl (by decide +kernel) ⟨Nat.le_of_ble_eq_true rfl, Nat.le_of_ble_eq_true rfl⟩) (xPS hKK) rfl rfl hl.1 rfl (lv_room (Nat.le_of_ble_eq_true rfl)) d_Law_law_12 ⟨Nat.le_of_ble_eq_true rfl, Nat.le_of_ble_eq_true rfl⟩) (fun H2 L2 hq hz => ?_)
  obtain ⟨bd, b0, hokB, hbd1, hPy⟩ := hq
  have hbd : ∀ j, j < 23 → s.heap.size ≤ bd j := fun j hj => by
    by_cases z : j = 0
    · rw [z, b0]; exact hqy
    · exact Nat.le_trans hS.1 (hbd1 j (by omega) hj)
  have hap : ∀ i j, i < 172 → j < 23 → ad i ≠ bd j := fun i j hi hj => by
    by_cases z : j = 0
    · rw [z, b0]; exact hny i hi
    · have h1 := hbd1 j (by omega) hj
      have h2 := hxlt i hi
      omega
  replace hPx2 := xkeep hPx2 hz (fun k q hk h => by
    obtain ⟨hk2, rfl⟩ := x_at hk
    rcases h with h | h
    · exact hny k hk2 h
    · exact absurd (hxlt k hk2) (Nat.not_lt.mpr h))
  replace hS := xS_call hS hz (fun q h => by
    rcases h with h | h
    · show s.heap.size ≤ q
      rw [h]; exact hqy
    · exact Nat.le_trans hS.1 h)
  refine W.eq (g2 := F0 m 15 ls [.ref qy]) rfl ?_
  rw [← b0]
  refine lv_astore_n (lv' := [(2, .ref (bd 0)), (1, .ref (ad 0)), (0, .ref b)]) hx hb d_Law_law_15 rfl hl (by decide) rfl (fun ls hl => ?_)
  refine lv_iconst (v := 0) hx hb d_Law_law_16 (by decide) ?_
  refine lv_istore_n (lv' := [(3, .int 0), (2, .ref (bd 0)), (1, .ref (ad 0)), (0, .ref b)]) hx hb d_Law_law_17 rfl hl (by decide) rfl (fun ls hl => ?_)
  exact law_loop C0 hKK hokA hokB had hbd hap hL (L + 6) 0 (by omega) (by omega) x0 y0 _ _ rel_0 hPx2 hPy hS ls (lv_sub hl [3, 2, 1, 0] rfl)
