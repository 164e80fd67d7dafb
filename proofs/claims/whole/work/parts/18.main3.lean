def f_MaskEdges_placeBar (k1 : Nat) (v2 : Int32) (v3 : Int32) (ST : xSt) : Option (xSt) :=
  (f_Box_layBeside (X_pieces ST k1) ((Piece_sideLow (X_pieces ST k1)) + (1 : Int32)) ((Piece_sideHigh (X_pieces ST k1)) - (1 : Int32)) (Piece_outward (X_pieces ST k1)) v2 v3 (X_box ST)).bind fun c23 =>
  if (24 : Int32) ≤ (X_barCount (X_u_box ST c23)) then
  some (X_u_box ST c23)
else
  (f_Box_isOnGrid (X_box (X_u_box ST c23))).bind fun c39 =>
    if c39 = 0 then
    some (X_u_box ST c23)
  else
    (f_CellSet_meets (X_target (X_u_box ST c23)) (X_box (X_u_box ST c23))).bind fun c53 =>
      if c53 = 0 then
      (f_CellSet_meets (X_barCells (X_u_box ST c23)) (X_box (X_u_box ST c23))).bind fun c67 =>
        if c67 = 0 then
        if xin (X_barCount (X_u_box ST c23)) 24 = true then
          (f_Box_copyFrom (X_box (X_u_box ST c23)) (X_bars (X_u_box ST c23) ((X_barCount (X_u_box ST c23)).toNatClampNeg))).bind fun c87 =>
            (f_CellSet_addBox (X_box (X_u_barCount (X_u_bars (X_u_box ST c23) (va_up (X_bars (X_u_box ST c23)) ((X_barCount (X_u_box ST c23)).toNatClampNeg) c87)) ((X_barCount (X_u_bars (X_u_box ST c23) (va_up (X_bars (X_u_box ST c23)) ((X_barCount (X_u_box ST c23)).toNatClampNeg) c87))) + (1 : Int32)))) (X_barCells (X_u_barCount (X_u_bars (X_u_box ST c23) (va_up (X_bars (X_u_box ST c23)) ((X_barCount (X_u_box ST c23)).toNatClampNeg) c87)) ((X_barCount (X_u_bars (X_u_box ST c23) (va_up (X_bars (X_u_box ST c23)) ((X_barCount (X_u_box ST c23)).toNatClampNeg) c87))) + (1 : Int32))))).bind fun c108 =>
            some (X_u_barCells (X_u_barCount (X_u_bars (X_u_box ST c23) (va_up (X_bars (X_u_box ST c23)) ((X_barCount (X_u_box ST c23)).toNatClampNeg) c87)) ((X_barCount (X_u_bars (X_u_box ST c23) (va_up (X_bars (X_u_box ST c23)) ((X_barCount (X_u_box ST c23)).toNatClampNeg) c87))) + (1 : Int32))) c108)
        else none
      else
        some (X_u_box ST c23)
    else
      some (X_u_box ST c23)
set_option maxHeartbeats 4000000 in
set_option maxRecDepth 100000 in
theorem c_MaskEdges_placeBar (l : Launch) (X : xG) {H : Heap} (ad : Nat → Nat) (ST : xSt) (k1 : Nat) (v2 : Int32) (v3 : Int32) {res : xSt} (hP : va_P X.1 vwCl (wX X ad ST) H) (hA : okA ad) (hk1 : k1 < 120) (hf : f_MaskEdges_placeBar k1 v2 v3 ST = some res) : xM l y_MaskEdges_placeBar (Cond.code y_MaskEdges_placeBar prog_1_method_31_code 4 none :: xT) ({ frames := 2, cells := 0, slots := 0, locals := 51 } : Room) (xK X) [.ref (ad 0), .ref (ad (28 + k1)), .int v2, .int v3] H (xA ad) none (fun H1 => va_P X.1 vwCl (wX X ad res) H1) := by
  refine Met.ofW (cc := prog_1_method_31_code) (maxL := 4) (ret := none) (by decide) rfl ?_
  intro p e s m args below meth c s₁ B hml hv
  obtain ⟨ha, hH, hKK⟩ := hv
  subst hH
  have hx := B.exec
  have hb := B.bytes
  have hr := B.returns
  have ht : ∀ w ∈ xT, w.before args s = true := fun w h => atoms_spec (ws := (Cond.code y_MaskEdges_placeBar prog_1_method_31_code 4 none :: xT)) B.pre w (List.mem_cons_of_mem _ h)
  have hown : s.vm.findClass "MaskEdges" = some m.cls := findClass_of_methodNamed B.named
  have hlocks := B.notSynchronized
  have hK := hKK.1
  rw [show entryFrame m args 4 = entryFrame m ([.ref (ad 0), .ref (ad (28 + k1)), .int v2, .int v3] : List Value).toArray 4 from by rw [ha]]
  clear ha
  have hS : va_S (xA ad) s.heap s.heap [] := va_S.rf
  have hl := lv_entry ([.ref (ad 0), .ref (ad (28 + k1)), .int v2, .int v3]) (n := 4) (Nat.le_of_ble_eq_true rfl)
  rw [lg_entry_eq]
  generalize (lg_sl ([.ref (ad 0), .ref (ad (28 + k1)), .int v2, .int v3]) ++ List.replicate (4 - (lg_sl ([.ref (ad 0), .ref (ad (28 + k1)), .int v2, .int v3])).length) Slot.unset).toArray = ls at hl ⊢
  replace hl : lv_has ls 4 [(0, .ref (ad 0)), (1, .ref (ad (28 + k1))), (2, .int v2), (3, .int v3)] := hl
  refine x_Q (fun Q hQ => ?_)
  unfold f_MaskEdges_placeBar at hf
  refine lv_aload_n hx hb d_MaskEdges_placeBar_0 rfl (lv_at hl 0 rfl) ?_
  refine va_get (D := X.1) (ci := 5) (v := .ref (ad 15)) (C := "MaskEdges") (T := F_MaskEdges) (N := 14) hx hb ht in_MaskEdges hown hK hP 0 xg0 rfl 13 (by decide) (ht _ xw_168) (fun _ h9 => h9) rfl d_MaskEdges_placeBar_1 ?_
  refine lv_aload_n hx hb d_MaskEdges_placeBar_4 rfl (lv_at hl 1 rfl) ?_
  refine lv_aload_n hx hb d_MaskEdges_placeBar_5 rfl (lv_at hl 1 rfl) ?_
  refine va_get (D := X.1) (ci := 4) (v := .int (Piece_sideLow (X_pieces ST k1))) (C := "MaskEdges$Piece") (T := F_Piece) (N := 12) hx hb ht in_Piece hown hK hP (28 + k1) (xg_pieces0 hk1) rfl 4 (by decide) (ht _ xw_130) (fun _ h9 => h9) rfl d_MaskEdges_placeBar_6 ?_
  refine lv_iconst (v := (1 : Int32)) hx hb d_MaskEdges_placeBar_9 (by decide) ?_
  refine lv_iadd hx hb d_MaskEdges_placeBar_10 ?_
  refine lv_aload_n hx hb d_MaskEdges_placeBar_11 rfl (lv_at hl 1 rfl) ?_
  refine va_get (D := X.1) (ci := 4) (v := .int (Piece_sideHigh (X_pieces ST k1))) (C := "MaskEdges$Piece") (T := F_Piece) (N := 12) hx hb ht in_Piece hown hK hP (28 + k1) (xg_pieces0 hk1) rfl 5 (by decide) (ht _ xw_132) (fun _ h9 => h9) rfl d_MaskEdges_placeBar_12 ?_
  refine lv_iconst (v := (1 : Int32)) hx hb d_MaskEdges_placeBar_15 (by decide) ?_
  refine lv_isub hx hb d_MaskEdges_placeBar_16 ?_
  refine lv_aload_n hx hb d_MaskEdges_placeBar_17 rfl (lv_at hl 1 rfl) ?_
  refine va_get (D := X.1) (ci := 4) (v := .int (Piece_outward (X_pieces ST k1))) (C := "MaskEdges$Piece") (T := F_Piece) (N := 12) hx hb ht in_Piece hown hK hP (28 + k1) (xg_pieces0 hk1) rfl 8 (by decide) (ht _ xw_136) (fun _ h9 => h9) rfl d_MaskEdges_placeBar_18 ?_
  refine lv_iload_n hx hb d_MaskEdges_placeBar_21 rfl (lv_at hl 2 rfl) ?_
  refine lv_iload_n hx hb d_MaskEdges_placeBar_22 rfl (lv_at hl 3 rfl) ?_
  obtain ⟨c23, e23, hf⟩ := x_b hf
  refine xc (va_runV (As := [.ref (ad (28 + k1)), .int ((Piece_sideLow (X_pieces ST k1)) + (1 : Int32)), .int ((Piece_sideHigh (X_pieces ST k1)) - (1 : Int32)), .int (Piece_outward (X_pieces ST k1)), .int v2, .int v3]) (rest := []) ⟨hx, hb, hml, hown, ht⟩ (c_Box_layBeside l X (ad 15) (X_box ST) (ad (28 + k1)) (X_pieces ST k1) ((Piece_sideLow (X_pieces ST k1)) + (1 : Int32)) ((Piece_sideHigh (X_pieces ST k1)) - (1 : Int32)) (Piece_outward (X_pieces ST k1)) v2 v3 (xs_box hP) (xs_pieces hk1 hP) (xnd1 _) (fun q hq h => by
      simp only [xAl, List.mem_cons, List.mem_nil_iff, or_false] at hq h
      rcases hq with rfl <;> rcases h with h <;> exact absurd (hA _ _ (by omega) (by omega) h) (by omega)) e23) (cwV 6 ht (xgV xw_236 xw_237 xw_238 xw_40 xw_239) rfl rfl rfl (by decide +kernel) ⟨Nat.le_of_ble_eq_true rfl, Nat.le_of_ble_eq_true rfl⟩) (xPV hKK (va_recv hK hP (ci := 0) (q0 := 15) rfl xg15)) rfl rfl hl.1 rfl (lv_room (Nat.le_of_ble_eq_true rfl)) d_MaskEdges_placeBar_23 ⟨Nat.zero_le _, Nat.zero_le _⟩) (fun H1 L hq hz => ?_)
  replace hS := xS_call hS hz (fun q h => by
      simp only [xAl, List.mem_cons, List.mem_nil_iff, or_false] at h
      rcases h with rfl <;> exact xA_in _ (by omega))
  replace hP := xu_box hA hP hq hz
  clear hq hz
  refine W.eq (g2 := F0 m 26 ls []) rfl ?_
  refine lv_aload_n hx hb d_MaskEdges_placeBar_26 rfl (lv_at hl 0 rfl) ?_
  refine va_get (D := X.1) (ci := 5) (v := .int (X_barCount (X_u_box ST c23))) (C := "MaskEdges") (T := F_MaskEdges) (N := 14) hx hb ht in_MaskEdges hown hK hP 0 xg0 rfl 6 (by decide) (ht _ xw_161) (fun _ h9 => h9) rfl d_MaskEdges_placeBar_27 ?_
  refine lv_bipush (v := (24 : Int32)) hx hb d_MaskEdges_placeBar_30 (by decide) ?_
  refine lv_icmp_ge (tgt := 73) hx hb d_MaskEdges_placeBar_32 (by decide) (fun hc => ?_) (fun hc => ?_)
  · replace hf := x_t hc hf
    replace hf := x_s hf
    subst hf
    subst hQ
    exact W.vret hx hb hr (fun t ht hW => ⟨⟨rfl, by rw [ht]; exact hP⟩, hS.F ht⟩) hS.2.2 d_MaskEdges_placeBar_73
  · replace hf := x_f hc hf
    refine lv_aload_n hx hb d_MaskEdges_placeBar_35 rfl (lv_at hl 0 rfl) ?_
    refine va_get (D := X.1) (ci := 5) (v := .ref (ad 15)) (C := "MaskEdges") (T := F_MaskEdges) (N := 14) hx hb ht in_MaskEdges hown hK hP 0 xg0 rfl 13 (by decide) (ht _ xw_168) (fun _ h9 => h9) rfl d_MaskEdges_placeBar_36 ?_
    obtain ⟨c39, e39, hf⟩ := x_b hf
    refine xcR (va_runV (As := []) (rest := []) ⟨hx, hb, hml, hown, ht⟩ (c_Box_isOnGrid l X (ad 15) (X_box (X_u_box ST c23)) (xs_box hP) e39) (cwV 0 ht (xgV xw_394 xw_395 xw_396 xw_40 xw_397) rfl rfl rfl (by decide +kernel) ⟨Nat.le_of_ble_eq_true rfl, Nat.le_of_ble_eq_true rfl⟩) (xPV hKK (va_recv hK hP (ci := 0) (q0 := 15) rfl xg15)) rfl rfl hl.1 rfl (lv_room (Nat.le_of_ble_eq_true rfl)) d_MaskEdges_placeBar_39 ⟨Nat.zero_le _, Nat.zero_le _⟩) ?_
    refine W.eq (g2 := F0 m 42 ls [.int c39]) rfl ?_
    refine lv_if_eq (tgt := 73) hx hb d_MaskEdges_placeBar_42 (by decide) (fun hc => ?_) (fun hc => ?_)
    · replace hf := x_t hc hf
      replace hf := x_s hf
      subst hf
      subst hQ
      exact W.vret hx hb hr (fun t ht hW => ⟨⟨rfl, by rw [ht]; exact hP⟩, hS.F ht⟩) hS.2.2 d_MaskEdges_placeBar_73
    · replace hf := x_f hc hf
      refine lv_aload_n hx hb d_MaskEdges_placeBar_45 rfl (lv_at hl 0 rfl) ?_
      refine va_get (D := X.1) (ci := 5) (v := .ref (ad 5)) (C := "MaskEdges") (T := F_MaskEdges) (N := 14) hx hb ht in_MaskEdges hown hK hP 0 xg0 rfl 7 (by decide) (ht _ xw_162) (fun _ h9 => h9) rfl d_MaskEdges_placeBar_46 ?_
      refine lv_aload_n hx hb d_MaskEdges_placeBar_49 rfl (lv_at hl 0 rfl) ?_
      refine va_get (D := X.1) (ci := 5) (v := .ref (ad 15)) (C := "MaskEdges") (T := F_MaskEdges) (N := 14) hx hb ht in_MaskEdges hown hK hP 0 xg0 rfl 13 (by decide) (ht _ xw_168) (fun _ h9 => h9) rfl d_MaskEdges_placeBar_50 ?_
      obtain ⟨c53, e53, hf⟩ := x_b hf
      refine xcR (va_runV (As := [.ref (ad 15)]) (rest := []) ⟨hx, hb, hml, hown, ht⟩ (c_CellSet_meets l X (ad 5) (ad 6) (X_target (X_u_box ST c23)) (ad 15) (X_box (X_u_box ST c23)) (xs_target hP) (xs_box hP) e53) (cwV 1 ht (xgV xw_398 xw_399 xw_400 xw_38 xw_401) rfl rfl rfl (by decide +kernel) ⟨Nat.le_of_ble_eq_true rfl, Nat.le_of_ble_eq_true rfl⟩) (xPV hKK (va_recv hK hP (ci := 1) (q0 := 5) rfl xg5)) rfl rfl hl.1 rfl (lv_room (Nat.le_of_ble_eq_true rfl)) d_MaskEdges_placeBar_53 ⟨Nat.zero_le _, Nat.zero_le _⟩) ?_
      refine W.eq (g2 := F0 m 56 ls [.int c53]) rfl ?_
      refine lv_if_ne (tgt := 73) hx hb d_MaskEdges_placeBar_56 (by decide) (fun hc => ?_) (fun hc => ?_)
      · replace hf := x_f hc hf
        replace hf := x_s hf
        subst hf
        subst hQ
        exact W.vret hx hb hr (fun t ht hW => ⟨⟨rfl, by rw [ht]; exact hP⟩, hS.F ht⟩) hS.2.2 d_MaskEdges_placeBar_73
      · replace hf := x_t hc hf
        refine lv_aload_n hx hb d_MaskEdges_placeBar_59 rfl (lv_at hl 0 rfl) ?_
        refine va_get (D := X.1) (ci := 5) (v := .ref (ad 7)) (C := "MaskEdges") (T := F_MaskEdges) (N := 14) hx hb ht in_MaskEdges hown hK hP 0 xg0 rfl 8 (by decide) (ht _ xw_163) (fun _ h9 => h9) rfl d_MaskEdges_placeBar_60 ?_
        refine lv_aload_n hx hb d_MaskEdges_placeBar_63 rfl (lv_at hl 0 rfl) ?_
        refine va_get (D := X.1) (ci := 5) (v := .ref (ad 15)) (C := "MaskEdges") (T := F_MaskEdges) (N := 14) hx hb ht in_MaskEdges hown hK hP 0 xg0 rfl 13 (by decide) (ht _ xw_168) (fun _ h9 => h9) rfl d_MaskEdges_placeBar_64 ?_
        obtain ⟨c67, e67, hf⟩ := x_b hf
        refine xcR (va_runV (As := [.ref (ad 15)]) (rest := []) ⟨hx, hb, hml, hown, ht⟩ (c_CellSet_meets l X (ad 7) (ad 8) (X_barCells (X_u_box ST c23)) (ad 15) (X_box (X_u_box ST c23)) (xs_barCells hP) (xs_box hP) e67) (cwV 1 ht (xgV xw_398 xw_399 xw_400 xw_38 xw_401) rfl rfl rfl (by decide +kernel) ⟨Nat.le_of_ble_eq_true rfl, Nat.le_of_ble_eq_true rfl⟩) (xPV hKK (va_recv hK hP (ci := 1) (q0 := 7) rfl xg7)) rfl rfl hl.1 rfl (lv_room (Nat.le_of_ble_eq_true rfl)) d_MaskEdges_placeBar_67 ⟨Nat.zero_le _, Nat.zero_le _⟩) ?_
        refine W.eq (g2 := F0 m 70 ls [.int c67]) rfl ?_
        refine lv_if_eq (tgt := 74) hx hb d_MaskEdges_placeBar_70 (by decide) (fun hc => ?_) (fun hc => ?_)
        · replace hf := x_t hc hf
          refine lv_aload_n hx hb d_MaskEdges_placeBar_74 rfl (lv_at hl 0 rfl) ?_
          refine va_get (D := X.1) (ci := 5) (v := .ref (ad 4)) (C := "MaskEdges") (T := F_MaskEdges) (N := 14) hx hb ht in_MaskEdges hown hK hP 0 xg0 rfl 5 (by decide) (ht _ xw_160) (fun _ h9 => h9) rfl d_MaskEdges_placeBar_75 ?_
          refine lv_aload_n hx hb d_MaskEdges_placeBar_78 rfl (lv_at hl 0 rfl) ?_
          refine va_get (D := X.1) (ci := 5) (v := .int (X_barCount (X_u_box ST c23))) (C := "MaskEdges") (T := F_MaskEdges) (N := 14) hx hb ht in_MaskEdges hown hK hP 0 xg0 rfl 6 (by decide) (ht _ xw_161) (fun _ h9 => h9) rfl d_MaskEdges_placeBar_79 ?_
          obtain ⟨g82, hf⟩ := x_g hf
          have hk82 := xin_lt g82
          refine va_aldq hx hb hK hP 4 4 xg4 rfl (xin_in g82) d_MaskEdges_placeBar_82 ?_
          refine W.eq (g2 := F0 m 83 ls [.ref (ad (148 + ((X_barCount (X_u_box ST c23)).toNatClampNeg)))]) rfl ?_
          refine lv_aload_n hx hb d_MaskEdges_placeBar_83 rfl (lv_at hl 0 rfl) ?_
          refine va_get (D := X.1) (ci := 5) (v := .ref (ad 15)) (C := "MaskEdges") (T := F_MaskEdges) (N := 14) hx hb ht in_MaskEdges hown hK hP 0 xg0 rfl 13 (by decide) (ht _ xw_168) (fun _ h9 => h9) rfl d_MaskEdges_placeBar_84 ?_
          obtain ⟨c87, e87, hf⟩ := x_b hf
          refine xc (va_runV (As := [.ref (ad 15)]) (rest := []) ⟨hx, hb, hml, hown, ht⟩ (c_Box_copyFrom l X (ad (148 + ((X_barCount (X_u_box ST c23)).toNatClampNeg))) (X_bars (X_u_box ST c23) ((X_barCount (X_u_box ST c23)).toNatClampNeg)) (ad 15) (X_box (X_u_box ST c23)) (xs_bars hk82 hP) (xs_box hP) (xnd1 _) (fun q hq h => by
      simp only [xAl, List.mem_cons, List.mem_nil_iff, or_false] at hq h
      rcases hq with rfl <;> rcases h with h <;> exact absurd (hA _ _ (by omega) (by omega) h) (by omega)) e87) (cwV 1 ht (xgV xw_402 xw_403 xw_404 xw_40 xw_405) rfl rfl rfl (by decide +kernel) ⟨Nat.le_of_ble_eq_true rfl, Nat.le_of_ble_eq_true rfl⟩) (xPV hKK (va_recv hK hP (ci := 0) (q0 := (148 + ((X_barCount (X_u_box ST c23)).toNatClampNeg))) rfl (xg_bars0 hk82))) rfl rfl hl.1 rfl (lv_room (Nat.le_of_ble_eq_true rfl)) d_MaskEdges_placeBar_87 ⟨Nat.zero_le _, Nat.zero_le _⟩) (fun H1 L hq hz => ?_)
          replace hS := xS_call hS hz (fun q h => by
      simp only [xAl, List.mem_cons, List.mem_nil_iff, or_false] at h
      rcases h with rfl <;> exact xA_in _ (by omega))
          replace hP := xu_bars hk82 hA hP hq hz
          clear hq hz
          refine W.eq (g2 := F0 m 90 ls []) rfl ?_
          refine lv_aload_n hx hb d_MaskEdges_placeBar_90 rfl (lv_at hl 0 rfl) ?_
          refine lv_dup hx hb d_MaskEdges_placeBar_91 rfl ?_
          refine va_get (D := X.1) (ci := 5) (v := .int (X_barCount (X_u_bars (X_u_box ST c23) (va_up (X_bars (X_u_box ST c23)) ((X_barCount (X_u_box ST c23)).toNatClampNeg) c87)))) (C := "MaskEdges") (T := F_MaskEdges) (N := 14) hx hb ht in_MaskEdges hown hK hP 0 xg0 rfl 6 (by decide) (ht _ xw_161) (fun _ h9 => h9) rfl d_MaskEdges_placeBar_92 ?_
          refine lv_iconst (v := (1 : Int32)) hx hb d_MaskEdges_placeBar_95 (by decide) ?_
          refine lv_iadd hx hb d_MaskEdges_placeBar_96 ?_
          refine va_put (D := X.1) (ci := 5) (v := .int ((X_barCount (X_u_bars (X_u_box ST c23) (va_up (X_bars (X_u_box ST c23)) ((X_barCount (X_u_box ST c23)).toNatClampNeg) c87))) + (1 : Int32))) (ty := .int) (C := "MaskEdges") (T := F_MaskEdges) (N := 14) hx hb ht in_MaskEdges ty_MaskEdges tyk_MaskEdges nm_MaskEdges hown hK hP (xD hA) hS 0 xg0 rfl 6 (by decide) (ht _ xw_161) (fun _ h9 => h9) rfl (by decide +kernel) rfl rfl (Nat.le_of_ble_eq_true rfl) d_MaskEdges_placeBar_97 (fun H locs hP _ hS => ?_)
          replace hP : va_P X.1 vwCl (wX X ad (X_u_barCount (X_u_bars (X_u_box ST c23) (va_up (X_bars (X_u_box ST c23)) ((X_barCount (X_u_box ST c23)).toNatClampNeg) c87)) ((X_barCount (X_u_bars (X_u_box ST c23) (va_up (X_bars (X_u_box ST c23)) ((X_barCount (X_u_box ST c23)).toNatClampNeg) c87))) + (1 : Int32)))) H := xeq xm_barCount hP
          refine lv_aload_n hx hb d_MaskEdges_placeBar_100 rfl (lv_at hl 0 rfl) ?_
          refine va_get (D := X.1) (ci := 5) (v := .ref (ad 7)) (C := "MaskEdges") (T := F_MaskEdges) (N := 14) hx hb ht in_MaskEdges hown hK hP 0 xg0 rfl 8 (by decide) (ht _ xw_163) (fun _ h9 => h9) rfl d_MaskEdges_placeBar_101 ?_
          refine lv_aload_n hx hb d_MaskEdges_placeBar_104 rfl (lv_at hl 0 rfl) ?_
          refine va_get (D := X.1) (ci := 5) (v := .ref (ad 15)) (C := "MaskEdges") (T := F_MaskEdges) (N := 14) hx hb ht in_MaskEdges hown hK hP 0 xg0 rfl 13 (by decide) (ht _ xw_168) (fun _ h9 => h9) rfl d_MaskEdges_placeBar_105 ?_
          obtain ⟨c108, e108, hf⟩ := x_b hf
          refine xc (va_runV (As := [.ref (ad 15)]) (rest := []) ⟨hx, hb, hml, hown, ht⟩ (c_CellSet_addBox l X (ad 7) (ad 8) (X_barCells (X_u_barCount (X_u_bars (X_u_box ST c23) (va_up (X_bars (X_u_box ST c23)) ((X_barCount (X_u_box ST c23)).toNatClampNeg) c87)) ((X_barCount (X_u_bars (X_u_box ST c23) (va_up (X_bars (X_u_box ST c23)) ((X_barCount (X_u_box ST c23)).toNatClampNeg) c87))) + (1 : Int32)))) (ad 15) (X_box (X_u_barCount (X_u_bars (X_u_box ST c23) (va_up (X_bars (X_u_box ST c23)) ((X_barCount (X_u_box ST c23)).toNatClampNeg) c87)) ((X_barCount (X_u_bars (X_u_box ST c23) (va_up (X_bars (X_u_box ST c23)) ((X_barCount (X_u_box ST c23)).toNatClampNeg) c87))) + (1 : Int32)))) (xs_barCells hP) (xs_box hP) (xnd2 hA (by omega) (by omega) (by omega)) (fun q hq h => by
      simp only [xAl, List.mem_cons, List.mem_nil_iff, or_false] at hq h
      rcases hq with rfl <;> rcases h with h | h <;> exact absurd (hA _ _ (by omega) (by omega) h) (by omega)) e108) (cwV 1 ht (xgV xw_242 xw_243 xw_244 xw_38 xw_245) rfl rfl rfl (by decide +kernel) ⟨Nat.le_of_ble_eq_true rfl, Nat.le_of_ble_eq_true rfl⟩) (xPV hKK (va_recv hK hP (ci := 1) (q0 := 7) rfl xg7)) rfl rfl hl.1 rfl (lv_room (Nat.le_of_ble_eq_true rfl)) d_MaskEdges_placeBar_108 ⟨Nat.zero_le _, Nat.zero_le _⟩) (fun H1 L hq hz => ?_)
          replace hS := xS_call hS hz (fun q h => by
      simp only [xAl, List.mem_cons, List.mem_nil_iff, or_false] at h
      rcases h with rfl | rfl <;> exact xA_in _ (by omega))
          replace hP := xu_barCells hA hP hq hz
          clear hq hz
          refine W.eq (g2 := F0 m 111 ls []) rfl ?_
          replace hf := x_s hf
          subst hf
          subst hQ
          exact W.vret hx hb hr (fun t ht hW => ⟨⟨rfl, by rw [ht]; exact hP⟩, hS.F ht⟩) hS.2.2 d_MaskEdges_placeBar_111
        · replace hf := x_f hc hf
          replace hf := x_s hf
          subst hf
          subst hQ
          exact W.vret hx hb hr (fun t ht hW => ⟨⟨rfl, by rw [ht]; exact hP⟩, hS.F ht⟩) hS.2.2 d_MaskEdges_placeBar_73
def f_MaskEdges_helper_75 (r40 : Int32 → Int32 → Int32 → Int32 → xSt → Option (Int32 × xSt)) (v1 : Int32) (v2 : Int32) (v3 : Int32) (v4 : Int32) (ST : xSt) : Option (Int32 × xSt) :=
  r40 v1 v2 v3 (v4 + (1 : Int32)) ST
def f_MaskEdges_helper_40 (r40 : Int32 → Int32 → Int32 → Int32 → xSt → Option (Int32 × xSt)) (k81 : Int32 → xSt → Option (Int32 × xSt)) (v1 : Int32) (v2 : Int32) (v3 : Int32) (v4 : Int32) (ST : xSt) : Option (Int32 × xSt) :=
  if (X_pieceCount ST) ≤ v4 then
  k81 v3 ST
else
  if xin v4 120 = true then
    (f_Piece_mayHaveBar (X_pieces ST v4.toNatClampNeg)).bind fun c56 =>
      if c56 = 0 then
      (f_MaskEdges_helper_75 r40) v1 v2 v3 v4 ST
    else
      if xin v4 120 = true then
        (f_MaskEdges_placeBar v4.toNatClampNeg v1 v2 ST).bind fun c72 =>
          (f_MaskEdges_helper_75 r40) v1 v2 v3 v4 c72
      else none
  else none
def f_MaskEdges_helper_81 (v3 : Int32) (ST : xSt) : Option (Int32 × xSt) :=
  (f_MaskEdges_renewMask ST).bind fun c82 =>
  some (((X_barCount c82) - v3), c82)
def f_MaskEdges_helper (v1 : Int32) (v2 : Int32) (ST : xSt) : Option (Int32 × xSt) :=
  (f_MaskEdges_within v1 (1 : Int32) (8 : Int32)).bind fun c4 =>
  if c4 = 0 then
  some ((-2 : Int32), ST)
else
  (f_MaskEdges_within v2 (1 : Int32) (4 : Int32)).bind fun c13 =>
    if c13 = 0 then
    some ((-2 : Int32), ST)
  else
    if (X_pieceCount ST) = 0 then
      some ((-3 : Int32), ST)
    else
      (xloop (fun r => f_MaskEdges_helper_40 r f_MaskEdges_helper_81) (fun _ _ _ _ _ => none) 100000) v1 v2 (X_barCount ST) (0 : Int32) ST
set_option maxHeartbeats 4000000 in
set_option maxRecDepth 100000 in
theorem c_MaskEdges_helper (l : Launch) (X : xG) {H : Heap} (ad : Nat → Nat) (ST : xSt) (v1 : Int32) (v2 : Int32) {res : Int32 × xSt} (hP : va_P X.1 vwCl (wX X ad ST) H) (hA : okA ad) (hf : f_MaskEdges_helper v1 v2 ST = some res) : xM l y_MaskEdges_helper (Cond.code y_MaskEdges_helper prog_1_method_11_code 5 (some .int) :: xT) ({ frames := 4, cells := 0, slots := 0, locals := 93 } : Room) (xK X) [.ref (ad 0), .int v1, .int v2] H (xA ad) (some (.int res.1)) (fun H1 => va_P X.1 vwCl (wX X ad res.2) H1) := by
  refine Met.ofW (cc := prog_1_method_11_code) (maxL := 5) (ret := (some .int)) (by decide) rfl ?_
  intro p e s m args below meth c s₁ B hml hv
  obtain ⟨ha, hH, hKK⟩ := hv
  subst hH
  have hx := B.exec
  have hb := B.bytes
  have hr := B.returns
  have ht : ∀ w ∈ xT, w.before args s = true := fun w h => atoms_spec (ws := (Cond.code y_MaskEdges_helper prog_1_method_11_code 5 (some .int) :: xT)) B.pre w (List.mem_cons_of_mem _ h)
  have hown : s.vm.findClass "MaskEdges" = some m.cls := findClass_of_methodNamed B.named
  have hlocks := B.notSynchronized
  have hK := hKK.1
  rw [show entryFrame m args 5 = entryFrame m ([.ref (ad 0), .int v1, .int v2] : List Value).toArray 5 from by rw [ha]]
  clear ha
  have hS : va_S (xA ad) s.heap s.heap [] := va_S.rf
  have hl := lv_entry ([.ref (ad 0), .int v1, .int v2]) (n := 5) (Nat.le_of_ble_eq_true rfl)
  rw [lg_entry_eq]
  generalize (lg_sl ([.ref (ad 0), .int v1, .int v2]) ++ List.replicate (5 - (lg_sl ([.ref (ad 0), .int v1, .int v2])).length) Slot.unset).toArray = ls at hl ⊢
  replace hl : lv_has ls 5 [(0, .ref (ad 0)), (1, .int v1), (2, .int v2)] := hl
  refine x_Q (fun Q hQ => ?_)
  have hL75 : ∀ (r40 : Int32 → Int32 → Int32 → Int32 → xSt → Option (Int32 × xSt)) (hr40 : ∀ (v1 : Int32) (v2 : Int32) (v3 : Int32) (v4 : Int32) (ST : xSt), ∀ (H : Heap) (locs : List Loc), va_P X.1 vwCl (wX X ad ST) H → va_S (xA ad) s.heap H locs → ∀ (ls : Array Slot), lv_has ls 5 [(0, .ref (ad 0)), (1, .int v1), (2, .int v2), (3, .int v3), (4, .int v4)] → r40 v1 v2 v3 v4 ST = some res → W p l e (headSpec (Cond.code y_MaskEdges_helper prog_1_method_11_code 5 (some .int) :: xT) ({ frames := 4, cells := 0, slots := 0, locals := 93 } : Room)).room s m args below meth c H locs 0 0 Q (F0 m 40 ls [])), ∀ (v1 : Int32) (v2 : Int32) (v3 : Int32) (v4 : Int32) (ST : xSt), ∀ (H : Heap) (locs : List Loc), va_P X.1 vwCl (wX X ad ST) H → va_S (xA ad) s.heap H locs → ∀ (ls : Array Slot), lv_has ls 5 [(0, .ref (ad 0)), (1, .int v1), (2, .int v2), (3, .int v3), (4, .int v4)] → f_MaskEdges_helper_75 r40 v1 v2 v3 v4 ST = some res → W p l e (headSpec (Cond.code y_MaskEdges_helper prog_1_method_11_code 5 (some .int) :: xT) ({ frames := 4, cells := 0, slots := 0, locals := 93 } : Room)).room s m args below meth c H locs 0 0 Q (F0 m 75 ls []) := by
    intro r40 hr40 v1 v2 v3 v4 ST H locs hP hS ls hl hf
    unfold f_MaskEdges_helper_75 at hf
    refine lv_iinc (v := (v4 + (1 : Int32))) (lv' := [(4, .int (v4 + (1 : Int32))), (0, .ref (ad 0)), (1, .int v1), (2, .int v2), (3, .int v3)]) hx hb d_MaskEdges_helper_75 hl (k := 4) rfl rfl (by decide) rfl (fun ls hl => ?_)
    refine lv_goto (tgt := 40) hx hb d_MaskEdges_helper_78 (by decide) ?_
    exact hr40 v1 v2 v3 (v4 + (1 : Int32)) ST _ _ hP hS ls (lv_sub hl [1, 2, 3, 4, 0] rfl) hf
  have hL40 : ∀ (k81 : Int32 → xSt → Option (Int32 × xSt)) (hk81 : ∀ (v3 : Int32) (ST : xSt), ∀ (H : Heap) (locs : List Loc), va_P X.1 vwCl (wX X ad ST) H → va_S (xA ad) s.heap H locs → ∀ (ls : Array Slot), lv_has ls 5 [(0, .ref (ad 0)), (3, .int v3)] → k81 v3 ST = some res → W p l e (headSpec (Cond.code y_MaskEdges_helper prog_1_method_11_code 5 (some .int) :: xT) ({ frames := 4, cells := 0, slots := 0, locals := 93 } : Room)).room s m args below meth c H locs 0 0 Q (F0 m 81 ls [])), ∀ (n : Nat), ∀ (v1 : Int32) (v2 : Int32) (v3 : Int32) (v4 : Int32) (ST : xSt), ∀ (H : Heap) (locs : List Loc), va_P X.1 vwCl (wX X ad ST) H → va_S (xA ad) s.heap H locs → ∀ (ls : Array Slot), lv_has ls 5 [(0, .ref (ad 0)), (1, .int v1), (2, .int v2), (3, .int v3), (4, .int v4)] → (xloop (fun r => f_MaskEdges_helper_40 r k81) (fun _ _ _ _ _ => none) n) v1 v2 v3 v4 ST = some res → W p l e (headSpec (Cond.code y_MaskEdges_helper prog_1_method_11_code 5 (some .int) :: xT) ({ frames := 4, cells := 0, slots := 0, locals := 93 } : Room)).room s m args below meth c H locs 0 0 Q (F0 m 40 ls []) := by
    intro k81 hk81
    intro n
    induction n with
    | zero => intro v1 v2 v3 v4 ST H locs hP hS ls hl hf; cases hf
    | succ n ih =>
      intro v1 v2 v3 v4 ST H locs hP hS ls hl hf
      replace hf : f_MaskEdges_helper_40 (xloop (fun r => f_MaskEdges_helper_40 r k81) (fun _ _ _ _ _ => none) n) k81 v1 v2 v3 v4 ST = some res := hf
      have hr40 := ih
      clear ih
      unfold f_MaskEdges_helper_40 at hf
      refine lv_iload hx hb d_MaskEdges_helper_40 (lv_at hl 4 rfl) ?_
      refine lv_aload_n hx hb d_MaskEdges_helper_42 rfl (lv_at hl 0 rfl) ?_
      refine va_get (D := X.1) (ci := 5) (v := .int (X_pieceCount ST)) (C := "MaskEdges") (T := F_MaskEdges) (N := 14) hx hb ht in_MaskEdges hown hK hP 0 xg0 rfl 3 (by decide) (ht _ xw_158) (fun _ h9 => h9) rfl d_MaskEdges_helper_43 ?_
      refine lv_icmp_ge (tgt := 81) hx hb d_MaskEdges_helper_46 (by decide) (fun hc => ?_) (fun hc => ?_)
      · replace hf := x_t hc hf
        exact hk81 v3 ST _ _ hP hS ls (lv_sub hl [0, 3] rfl) hf
      · replace hf := x_f hc hf
        refine lv_aload_n hx hb d_MaskEdges_helper_49 rfl (lv_at hl 0 rfl) ?_
        refine va_get (D := X.1) (ci := 5) (v := .ref (ad 2)) (C := "MaskEdges") (T := F_MaskEdges) (N := 14) hx hb ht in_MaskEdges hown hK hP 0 xg0 rfl 2 (by decide) (ht _ xw_157) (fun _ h9 => h9) rfl d_MaskEdges_helper_50 ?_
        refine lv_iload hx hb d_MaskEdges_helper_53 (lv_at hl 4 rfl) ?_
        obtain ⟨g55, hf⟩ := x_g hf
        have hk55 := xin_lt g55
        refine va_aldq hx hb hK hP 2 3 xg2 rfl (xin_in g55) d_MaskEdges_helper_55 ?_
        refine W.eq (g2 := F0 m 56 ls [.ref (ad (28 + v4.toNatClampNeg))]) rfl ?_
        obtain ⟨c56, e56, hf⟩ := x_b hf
        refine xcR (va_runV (As := []) (rest := []) ⟨hx, hb, hml, hown, ht⟩ (c_Piece_mayHaveBar l X (ad (28 + v4.toNatClampNeg)) (X_pieces ST v4.toNatClampNeg) (xs_pieces hk55 hP) e56) (cwV 0 ht (xgV xw_387 xw_388 xw_389 xw_42 xw_390) rfl rfl rfl (by decide +kernel) ⟨Nat.le_of_ble_eq_true rfl, Nat.le_of_ble_eq_true rfl⟩) (xPV hKK (va_recv hK hP (ci := 4) (q0 := (28 + v4.toNatClampNeg)) rfl (xg_pieces0 hk55))) rfl rfl hl.1 rfl (lv_room (Nat.le_of_ble_eq_true rfl)) d_MaskEdges_helper_56 ⟨Nat.zero_le _, Nat.zero_le _⟩) ?_
        refine W.eq (g2 := F0 m 59 ls [.int c56]) rfl ?_
        refine lv_if_eq (tgt := 75) hx hb d_MaskEdges_helper_59 (by decide) (fun hc => ?_) (fun hc => ?_)
        · replace hf := x_t hc hf
          exact (hL75 _ hr40) v1 v2 v3 v4 ST _ _ hP hS ls (lv_sub hl [0, 1, 2, 3, 4] rfl) hf
        · replace hf := x_f hc hf
          refine lv_aload_n hx hb d_MaskEdges_helper_62 rfl (lv_at hl 0 rfl) ?_
          refine lv_aload_n hx hb d_MaskEdges_helper_63 rfl (lv_at hl 0 rfl) ?_
          refine va_get (D := X.1) (ci := 5) (v := .ref (ad 2)) (C := "MaskEdges") (T := F_MaskEdges) (N := 14) hx hb ht in_MaskEdges hown hK hP 0 xg0 rfl 2 (by decide) (ht _ xw_157) (fun _ h9 => h9) rfl d_MaskEdges_helper_64 ?_
          refine lv_iload hx hb d_MaskEdges_helper_67 (lv_at hl 4 rfl) ?_
          obtain ⟨g69, hf⟩ := x_g hf
          have hk69 := xin_lt g69
          refine va_aldq hx hb hK hP 2 3 xg2 rfl (xin_in g69) d_MaskEdges_helper_69 ?_
          refine W.eq (g2 := F0 m 70 ls [.ref (ad (28 + v4.toNatClampNeg)), .ref (ad 0)]) rfl ?_
          refine lv_iload_n hx hb d_MaskEdges_helper_70 rfl (lv_at hl 1 rfl) ?_
          refine lv_iload_n hx hb d_MaskEdges_helper_71 rfl (lv_at hl 2 rfl) ?_
          obtain ⟨c72, e72, hf⟩ := x_b hf
          refine xc (va_runV (As := [.ref (ad (28 + v4.toNatClampNeg)), .int v1, .int v2]) (rest := []) ⟨hx, hb, hml, hown, ht⟩ (c_MaskEdges_placeBar l X ad ST v4.toNatClampNeg v1 v2 hP hA hk69 e72) (cwV 3 ht (xgV xw_391 xw_392 xw_12 xw_37 xw_393) rfl rfl rfl (by decide +kernel) ⟨Nat.le_of_ble_eq_true rfl, Nat.le_of_ble_eq_true rfl⟩) (xPV hKK (va_recv hK hP (ci := 5) (q0 := 0) rfl xg0)) rfl rfl hl.1 rfl (lv_room (Nat.le_of_ble_eq_true rfl)) d_MaskEdges_helper_72 ⟨Nat.zero_le _, Nat.zero_le _⟩) (fun H1 L hq hz => ?_)
          replace hS := xS_call hS hz (fun _ h => h)
          replace hP : va_P X.1 vwCl (wX X ad c72) H1 := hq
          clear hq hz
          refine W.eq (g2 := F0 m 75 ls []) rfl ?_
          exact (hL75 _ hr40) v1 v2 v3 v4 c72 _ _ hP hS ls (lv_sub hl [0, 1, 2, 3, 4] rfl) hf
  have hL81 : ∀ (v3 : Int32) (ST : xSt), ∀ (H : Heap) (locs : List Loc), va_P X.1 vwCl (wX X ad ST) H → va_S (xA ad) s.heap H locs → ∀ (ls : Array Slot), lv_has ls 5 [(0, .ref (ad 0)), (3, .int v3)] → f_MaskEdges_helper_81 v3 ST = some res → W p l e (headSpec (Cond.code y_MaskEdges_helper prog_1_method_11_code 5 (some .int) :: xT) ({ frames := 4, cells := 0, slots := 0, locals := 93 } : Room)).room s m args below meth c H locs 0 0 Q (F0 m 81 ls []) := by
    intro v3 ST H locs hP hS ls hl hf
    unfold f_MaskEdges_helper_81 at hf
    refine lv_aload_n hx hb d_MaskEdges_helper_81 rfl (lv_at hl 0 rfl) ?_
    obtain ⟨c82, e82, hf⟩ := x_b hf
    refine xc (va_runV (As := []) (rest := []) ⟨hx, hb, hml, hown, ht⟩ (c_MaskEdges_renewMask l X ad ST hP hA e82) (cwV 0 ht (xgV xw_226 xw_227 xw_2 xw_37 xw_228) rfl rfl rfl (by decide +kernel) ⟨Nat.le_of_ble_eq_true rfl, Nat.le_of_ble_eq_true rfl⟩) (xPV hKK (va_recv hK hP (ci := 5) (q0 := 0) rfl xg0)) rfl rfl hl.1 rfl (lv_room (Nat.le_of_ble_eq_true rfl)) d_MaskEdges_helper_82 ⟨Nat.zero_le _, Nat.zero_le _⟩) (fun H1 L hq hz => ?_)
    replace hS := xS_call hS hz (fun _ h => h)
    replace hP : va_P X.1 vwCl (wX X ad c82) H1 := hq
    clear hq hz
    refine W.eq (g2 := F0 m 85 ls []) rfl ?_
    refine lv_aload_n hx hb d_MaskEdges_helper_85 rfl (lv_at hl 0 rfl) ?_
    refine va_get (D := X.1) (ci := 5) (v := .int (X_barCount c82)) (C := "MaskEdges") (T := F_MaskEdges) (N := 14) hx hb ht in_MaskEdges hown hK hP 0 xg0 rfl 6 (by decide) (ht _ xw_161) (fun _ h9 => h9) rfl d_MaskEdges_helper_86 ?_
    refine lv_iload_n hx hb d_MaskEdges_helper_89 rfl (lv_at hl 1 rfl) ?_
    refine lv_isub hx hb d_MaskEdges_helper_90 ?_
    replace hf := x_s hf
    subst hf
    subst hQ
    exact W.iret (v := ((X_barCount c82) - v3)) hx hb hr (fun t ht hW => ⟨⟨rfl, by rw [ht]; exact hP⟩, hS.F ht⟩) hS.2.2 d_MaskEdges_helper_91
  unfold f_MaskEdges_helper at hf
  refine lv_iload_n hx hb d_MaskEdges_helper_0 rfl (lv_at hl 1 rfl) ?_
  refine lv_iconst (v := (1 : Int32)) hx hb d_MaskEdges_helper_1 (by decide) ?_
  refine lv_bipush (v := (8 : Int32)) hx hb d_MaskEdges_helper_2 (by decide) ?_
  obtain ⟨c4, e4, hf⟩ := x_b hf
  refine xcR (va_runS (As := [.int v1, .int (1 : Int32), .int (8 : Int32)]) (rest := []) ⟨hx, hb, hml, hown, ht⟩ (c_MaskEdges_within l X v1 (1 : Int32) (8 : Int32) e4) (cwS 3 ht (xgS xw_263 xw_264 xw_37 xw_265) rfl rfl rfl (by decide +kernel) ⟨Nat.le_of_ble_eq_true rfl, Nat.le_of_ble_eq_true rfl⟩) (xPS hKK) rfl rfl hl.1 rfl (lv_room (Nat.le_of_ble_eq_true rfl)) d_MaskEdges_helper_4 ⟨Nat.zero_le _, Nat.zero_le _⟩) ?_
  refine W.eq (g2 := F0 m 7 ls [.int c4]) rfl ?_
  refine lv_if_eq (tgt := 19) hx hb d_MaskEdges_helper_7 (by decide) (fun hc => ?_) (fun hc => ?_)
  · replace hf := x_t hc hf
    refine lv_bipush (v := (-2 : Int32)) hx hb d_MaskEdges_helper_19 (by decide) ?_
    replace hf := x_s hf
    subst hf
    subst hQ
    exact W.iret (v := (-2 : Int32)) hx hb hr (fun t ht hW => ⟨⟨rfl, by rw [ht]; exact hP⟩, hS.F ht⟩) hS.2.2 d_MaskEdges_helper_21
  · replace hf := x_f hc hf
    refine lv_iload_n hx hb d_MaskEdges_helper_10 rfl (lv_at hl 2 rfl) ?_
    refine lv_iconst (v := (1 : Int32)) hx hb d_MaskEdges_helper_11 (by decide) ?_
    refine lv_iconst (v := (4 : Int32)) hx hb d_MaskEdges_helper_12 (by decide) ?_
    obtain ⟨c13, e13, hf⟩ := x_b hf
    refine xcR (va_runS (As := [.int v2, .int (1 : Int32), .int (4 : Int32)]) (rest := []) ⟨hx, hb, hml, hown, ht⟩ (c_MaskEdges_within l X v2 (1 : Int32) (4 : Int32) e13) (cwS 3 ht (xgS xw_263 xw_264 xw_37 xw_265) rfl rfl rfl (by decide +kernel) ⟨Nat.le_of_ble_eq_true rfl, Nat.le_of_ble_eq_true rfl⟩) (xPS hKK) rfl rfl hl.1 rfl (lv_room (Nat.le_of_ble_eq_true rfl)) d_MaskEdges_helper_13 ⟨Nat.zero_le _, Nat.zero_le _⟩) ?_
    refine W.eq (g2 := F0 m 16 ls [.int c13]) rfl ?_
    refine lv_if_ne (tgt := 22) hx hb d_MaskEdges_helper_16 (by decide) (fun hc => ?_) (fun hc => ?_)
    · replace hf := x_f hc hf
      refine lv_aload_n hx hb d_MaskEdges_helper_22 rfl (lv_at hl 0 rfl) ?_
      refine va_get (D := X.1) (ci := 5) (v := .int (X_pieceCount ST)) (C := "MaskEdges") (T := F_MaskEdges) (N := 14) hx hb ht in_MaskEdges hown hK hP 0 xg0 rfl 3 (by decide) (ht _ xw_158) (fun _ h9 => h9) rfl d_MaskEdges_helper_23 ?_
      refine lv_if_ne (tgt := 32) hx hb d_MaskEdges_helper_26 (by decide) (fun hc => ?_) (fun hc => ?_)
      · replace hf := x_f hc hf
        refine lv_aload_n hx hb d_MaskEdges_helper_32 rfl (lv_at hl 0 rfl) ?_
        refine va_get (D := X.1) (ci := 5) (v := .int (X_barCount ST)) (C := "MaskEdges") (T := F_MaskEdges) (N := 14) hx hb ht in_MaskEdges hown hK hP 0 xg0 rfl 6 (by decide) (ht _ xw_161) (fun _ h9 => h9) rfl d_MaskEdges_helper_33 ?_
        refine lv_istore_n (lv' := [(3, .int (X_barCount ST)), (0, .ref (ad 0)), (1, .int v1), (2, .int v2)]) hx hb d_MaskEdges_helper_36 rfl hl (by decide) rfl (fun ls hl => ?_)
        refine lv_iconst (v := (0 : Int32)) hx hb d_MaskEdges_helper_37 (by decide) ?_
        refine lv_istore (lv' := [(4, .int (0 : Int32)), (3, .int (X_barCount ST)), (0, .ref (ad 0)), (1, .int v1), (2, .int v2)]) hx hb d_MaskEdges_helper_38 hl (by decide) rfl (fun ls hl => ?_)
        exact (hL40 _ hL81 100000) v1 v2 (X_barCount ST) (0 : Int32) ST _ _ hP hS ls (lv_sub hl [2, 3, 4, 1, 0] rfl) hf
      · replace hf := x_t hc hf
        refine lv_bipush (v := (-3 : Int32)) hx hb d_MaskEdges_helper_29 (by decide) ?_
        replace hf := x_s hf
        subst hf
        subst hQ
        exact W.iret (v := (-3 : Int32)) hx hb hr (fun t ht hW => ⟨⟨rfl, by rw [ht]; exact hP⟩, hS.F ht⟩) hS.2.2 d_MaskEdges_helper_31
    · replace hf := x_t hc hf
      refine lv_bipush (v := (-2 : Int32)) hx hb d_MaskEdges_helper_19 (by decide) ?_
      replace hf := x_s hf
      subst hf
      subst hQ
      exact W.iret (v := (-2 : Int32)) hx hb hr (fun t ht hW => ⟨⟨rfl, by rw [ht]; exact hP⟩, hS.F ht⟩) hS.2.2 d_MaskEdges_helper_21
def f_MaskEdges_prints_53 (ST : xSt) (r53 : Int32 → Nat → Int32 → Int32 → Option (Int32)) (k89 : Int32 → Nat → Int32 → Option (Int32)) (v2 : Int32) (kv3 : Nat) (v4 : Int32) (v5 : Int32) : Option (Int32) :=
  if (Box_right (X_bars ST kv3)) ≤ v5 then
  k89 v2 kv3 v4
else
  (f_Exposure_printsAt (X_exposure ST) (X_mask ST) v5 v4 v2).bind fun c75 =>
    if c75 = 0 then
    r53 v2 kv3 v4 (v5 + (1 : Int32))
  else
    some (1 : Int32)
def f_MaskEdges_prints_89 (ST : xSt) (r38 : Int32 → Nat → Int32 → Option (Int32)) (v2 : Int32) (kv3 : Nat) (v4 : Int32) : Option (Int32) :=
  r38 v2 kv3 (v4 + (1 : Int32))
def f_MaskEdges_prints_38 (ST : xSt) (r38 : Int32 → Nat → Int32 → Option (Int32)) (v2 : Int32) (kv3 : Nat) (v4 : Int32) : Option (Int32) :=
  if (Box_bottom (X_bars ST kv3)) ≤ v4 then
  some (0 : Int32)
else
  (xloop (fun r => f_MaskEdges_prints_53 ST r (f_MaskEdges_prints_89 ST r38)) (fun _ _ _ _ => none) 100000) v2 kv3 v4 (Box_left (X_bars ST kv3))
def f_MaskEdges_prints (ST : xSt) (v1 : Int32) (v2 : Int32) : Option (Int32) :=
  if v1 < 0 then
  some (0 : Int32)
else
  if (X_barCount ST) ≤ v1 then
    some (0 : Int32)
  else
    (f_MaskEdges_within v2 (1 : Int32) (1000 : Int32)).bind fun c17 =>
      if c17 = 0 then
      some (0 : Int32)
    else
      if xin v1 24 = true then
        (xloop (fun r => f_MaskEdges_prints_38 ST r) (fun _ _ _ => none) 100000) v2 v1.toNatClampNeg (Box_top (X_bars ST v1.toNatClampNeg))
      else none
set_option maxHeartbeats 4000000 in
set_option maxRecDepth 100000 in
theorem c_MaskEdges_prints (l : Launch) (X : xG) {H : Heap} (ad : Nat → Nat) (ST : xSt) (v1 : Int32) (v2 : Int32) {res : Int32} (hP : va_P X.1 vwCl (wX X ad ST) H) (hf : f_MaskEdges_prints ST v1 v2 = some res) : xM l y_MaskEdges_prints (Cond.code y_MaskEdges_prints prog_1_method_12_code 6 (some .boolean) :: xT) ({ frames := 4, cells := 0, slots := 0, locals := 100 } : Room) (xK X) [.ref (ad 0), .int v1, .int v2] H xNo (some (.int res)) (fun H1 => H1 = H) := by
  refine Met.ofW (cc := prog_1_method_12_code) (maxL := 6) (ret := (some .boolean)) (by decide) rfl ?_
  intro p e s m args below meth c s₁ B hml hv
  obtain ⟨ha, hH, hKK⟩ := hv
  subst hH
  have hx := B.exec
  have hb := B.bytes
  have hr := B.returns
  have ht : ∀ w ∈ xT, w.before args s = true := fun w h => atoms_spec (ws := (Cond.code y_MaskEdges_prints prog_1_method_12_code 6 (some .boolean) :: xT)) B.pre w (List.mem_cons_of_mem _ h)
  have hown : s.vm.findClass "MaskEdges" = some m.cls := findClass_of_methodNamed B.named
  have hlocks := B.notSynchronized
  have hK := hKK.1
  rw [show entryFrame m args 6 = entryFrame m ([.ref (ad 0), .int v1, .int v2] : List Value).toArray 6 from by rw [ha]]
  clear ha
  have hl := lv_entry ([.ref (ad 0), .int v1, .int v2]) (n := 6) (Nat.le_of_ble_eq_true rfl)
  rw [lg_entry_eq]
  generalize (lg_sl ([.ref (ad 0), .int v1, .int v2]) ++ List.replicate (6 - (lg_sl ([.ref (ad 0), .int v1, .int v2])).length) Slot.unset).toArray = ls at hl ⊢
  replace hl : lv_has ls 6 [(0, .ref (ad 0)), (1, .int v1), (2, .int v2)] := hl
  refine x_Q (fun Q hQ => ?_)
  have hL53 : ∀ (k89 : Int32 → Nat → Int32 → Option (Int32)) (hk89 : ∀ (v2 : Int32) (kv3 : Nat) (v4 : Int32), kv3 < 24 → ∀ (ls : Array Slot), lv_has ls 6 [(0, .ref (ad 0)), (2, .int v2), (3, .ref (ad (148 + kv3))), (4, .int v4)] → k89 v2 kv3 v4 = some res → W p l e (headSpec (Cond.code y_MaskEdges_prints prog_1_method_12_code 6 (some .boolean) :: xT) ({ frames := 4, cells := 0, slots := 0, locals := 100 } : Room)).room s m args below meth c s.heap [] 0 0 Q (F0 m 89 ls [])), ∀ (n : Nat), ∀ (v2 : Int32) (kv3 : Nat) (v4 : Int32) (v5 : Int32), kv3 < 24 → ∀ (ls : Array Slot), lv_has ls 6 [(0, .ref (ad 0)), (2, .int v2), (3, .ref (ad (148 + kv3))), (4, .int v4), (5, .int v5)] → (xloop (fun r => f_MaskEdges_prints_53 ST r k89) (fun _ _ _ _ => none) n) v2 kv3 v4 v5 = some res → W p l e (headSpec (Cond.code y_MaskEdges_prints prog_1_method_12_code 6 (some .boolean) :: xT) ({ frames := 4, cells := 0, slots := 0, locals := 100 } : Room)).room s m args below meth c s.heap [] 0 0 Q (F0 m 53 ls []) := by
    intro k89 hk89
    intro n
    induction n with
    | zero => intro v2 kv3 v4 v5 hkv3 ls hl hf; cases hf
    | succ n ih =>
      intro v2 kv3 v4 v5 hkv3 ls hl hf
      replace hf : f_MaskEdges_prints_53 ST (xloop (fun r => f_MaskEdges_prints_53 ST r k89) (fun _ _ _ _ => none) n) k89 v2 kv3 v4 v5 = some res := hf
      have hr53 := ih
      clear ih
      unfold f_MaskEdges_prints_53 at hf
      refine lv_iload hx hb d_MaskEdges_prints_53 (lv_at hl 4 rfl) ?_
      refine lv_aload_n hx hb d_MaskEdges_prints_55 rfl (lv_at hl 2 rfl) ?_
      refine va_get (D := X.1) (ci := 0) (v := .int (Box_right (X_bars ST kv3))) (C := "MaskEdges$Box") (T := F_Box) (N := 4) hx hb ht in_Box hown hK hP (148 + kv3) (xg_bars0 hkv3) rfl 2 (by decide) (ht _ xw_92) (fun _ h9 => h9) rfl d_MaskEdges_prints_56 ?_
      refine lv_icmp_ge (tgt := 89) hx hb d_MaskEdges_prints_59 (by decide) (fun hc => ?_) (fun hc => ?_)
      · replace hf := x_t hc hf
        exact hk89 v2 kv3 v4 hkv3  ls (lv_sub hl [0, 1, 2, 3] rfl) hf
      · replace hf := x_f hc hf
        refine lv_aload_n hx hb d_MaskEdges_prints_62 rfl (lv_at hl 0 rfl) ?_
        refine va_get (D := X.1) (ci := 5) (v := .ref (ad 11)) (C := "MaskEdges") (T := F_MaskEdges) (N := 14) hx hb ht in_MaskEdges hown hK hP 0 xg0 rfl 10 (by decide) (ht _ xw_165) (fun _ h9 => h9) rfl d_MaskEdges_prints_63 ?_
        refine lv_aload_n hx hb d_MaskEdges_prints_66 rfl (lv_at hl 0 rfl) ?_
        refine va_get (D := X.1) (ci := 5) (v := .ref (ad 9)) (C := "MaskEdges") (T := F_MaskEdges) (N := 14) hx hb ht in_MaskEdges hown hK hP 0 xg0 rfl 9 (by decide) (ht _ xw_164) (fun _ h9 => h9) rfl d_MaskEdges_prints_67 ?_
        refine lv_iload hx hb d_MaskEdges_prints_70 (lv_at hl 4 rfl) ?_
        refine lv_iload hx hb d_MaskEdges_prints_72 (lv_at hl 3 rfl) ?_
        refine lv_iload_n hx hb d_MaskEdges_prints_74 rfl (lv_at hl 1 rfl) ?_
        obtain ⟨c75, e75, hf⟩ := x_b hf
        refine xcR (va_runV (As := [.ref (ad 9), .int v5, .int v4, .int v2]) (rest := []) ⟨hx, hb, hml, hown, ht⟩ (c_Exposure_printsAt l X (ad 11) (ad 12) (ad 13) (X_exposure ST) (ad 9) (ad 10) (X_mask ST) v5 v4 v2 (xs_exposure hP) (xs_mask hP) e75) (cwV 4 ht (xgV xw_345 xw_346 xw_347 xw_39 xw_348) rfl rfl rfl (by decide +kernel) ⟨Nat.le_of_ble_eq_true rfl, Nat.le_of_ble_eq_true rfl⟩) (xPV hKK (va_recv hK hP (ci := 2) (q0 := 11) rfl xg11)) rfl rfl hl.1 rfl (lv_room (Nat.le_of_ble_eq_true rfl)) d_MaskEdges_prints_75 ⟨Nat.zero_le _, Nat.zero_le _⟩) ?_
        refine W.eq (g2 := F0 m 78 ls [.int c75]) rfl ?_
        refine lv_if_eq (tgt := 83) hx hb d_MaskEdges_prints_78 (by decide) (fun hc => ?_) (fun hc => ?_)
        · replace hf := x_t hc hf
          refine lv_iinc (v := (v5 + (1 : Int32))) (lv' := [(5, .int (v5 + (1 : Int32))), (0, .ref (ad 0)), (2, .int v2), (3, .ref (ad (148 + kv3))), (4, .int v4)]) hx hb d_MaskEdges_prints_83 hl (k := 4) rfl rfl (by decide) rfl (fun ls hl => ?_)
          refine lv_goto (tgt := 53) hx hb d_MaskEdges_prints_86 (by decide) ?_
          exact hr53 v2 kv3 v4 (v5 + (1 : Int32)) hkv3  ls (lv_sub hl [1, 2, 3, 4, 0] rfl) hf
        · replace hf := x_f hc hf
          refine lv_iconst (v := (1 : Int32)) hx hb d_MaskEdges_prints_81 (by decide) ?_
          replace hf := x_s hf
          subst hf
          subst hQ
          exact W.zret (v := (1 : Int32)) hx hb hr (xz_n (by decide)) (fun t ht hW => ⟨⟨rfl, ht⟩, x_F0 ht⟩) x_l0 d_MaskEdges_prints_82
  have hL89 : ∀ (r38 : Int32 → Nat → Int32 → Option (Int32)) (hr38 : ∀ (v2 : Int32) (kv3 : Nat) (v4 : Int32), kv3 < 24 → ∀ (ls : Array Slot), lv_has ls 6 [(0, .ref (ad 0)), (2, .int v2), (3, .ref (ad (148 + kv3))), (4, .int v4)] → r38 v2 kv3 v4 = some res → W p l e (headSpec (Cond.code y_MaskEdges_prints prog_1_method_12_code 6 (some .boolean) :: xT) ({ frames := 4, cells := 0, slots := 0, locals := 100 } : Room)).room s m args below meth c s.heap [] 0 0 Q (F0 m 38 ls [])), ∀ (v2 : Int32) (kv3 : Nat) (v4 : Int32), kv3 < 24 → ∀ (ls : Array Slot), lv_has ls 6 [(0, .ref (ad 0)), (2, .int v2), (3, .ref (ad (148 + kv3))), (4, .int v4)] → f_MaskEdges_prints_89 ST r38 v2 kv3 v4 = some res → W p l e (headSpec (Cond.code y_MaskEdges_prints prog_1_method_12_code 6 (some .boolean) :: xT) ({ frames := 4, cells := 0, slots := 0, locals := 100 } : Room)).room s m args below meth c s.heap [] 0 0 Q (F0 m 89 ls []) := by
    intro r38 hr38 v2 kv3 v4 hkv3 ls hl hf
    unfold f_MaskEdges_prints_89 at hf
    refine lv_iinc (v := (v4 + (1 : Int32))) (lv' := [(4, .int (v4 + (1 : Int32))), (0, .ref (ad 0)), (2, .int v2), (3, .ref (ad (148 + kv3)))]) hx hb d_MaskEdges_prints_89 hl (k := 3) rfl rfl (by decide) rfl (fun ls hl => ?_)
    refine lv_goto (tgt := 38) hx hb d_MaskEdges_prints_92 (by decide) ?_
    exact hr38 v2 kv3 (v4 + (1 : Int32)) hkv3  ls (lv_sub hl [1, 2, 3, 0] rfl) hf
  have hL38 : ∀ (n : Nat), ∀ (v2 : Int32) (kv3 : Nat) (v4 : Int32), kv3 < 24 → ∀ (ls : Array Slot), lv_has ls 6 [(0, .ref (ad 0)), (2, .int v2), (3, .ref (ad (148 + kv3))), (4, .int v4)] → (xloop (fun r => f_MaskEdges_prints_38 ST r) (fun _ _ _ => none) n) v2 kv3 v4 = some res → W p l e (headSpec (Cond.code y_MaskEdges_prints prog_1_method_12_code 6 (some .boolean) :: xT) ({ frames := 4, cells := 0, slots := 0, locals := 100 } : Room)).room s m args below meth c s.heap [] 0 0 Q (F0 m 38 ls []) := by
    intro n
    induction n with
    | zero => intro v2 kv3 v4 hkv3 ls hl hf; cases hf
    | succ n ih =>
      intro v2 kv3 v4 hkv3 ls hl hf
      replace hf : f_MaskEdges_prints_38 ST (xloop (fun r => f_MaskEdges_prints_38 ST r) (fun _ _ _ => none) n) v2 kv3 v4 = some res := hf
      have hr38 := ih
      clear ih
      unfold f_MaskEdges_prints_38 at hf
      refine lv_iload hx hb d_MaskEdges_prints_38 (lv_at hl 3 rfl) ?_
      refine lv_aload_n hx hb d_MaskEdges_prints_40 rfl (lv_at hl 2 rfl) ?_
      refine va_get (D := X.1) (ci := 0) (v := .int (Box_bottom (X_bars ST kv3))) (C := "MaskEdges$Box") (T := F_Box) (N := 4) hx hb ht in_Box hown hK hP (148 + kv3) (xg_bars0 hkv3) rfl 3 (by decide) (ht _ xw_95) (fun _ h9 => h9) rfl d_MaskEdges_prints_41 ?_
      refine lv_icmp_ge (tgt := 95) hx hb d_MaskEdges_prints_44 (by decide) (fun hc => ?_) (fun hc => ?_)
      · replace hf := x_t hc hf
        refine lv_iconst (v := (0 : Int32)) hx hb d_MaskEdges_prints_95 (by decide) ?_
        replace hf := x_s hf
        subst hf
        subst hQ
        exact W.zret (v := (0 : Int32)) hx hb hr (xz_n (by decide)) (fun t ht hW => ⟨⟨rfl, ht⟩, x_F0 ht⟩) x_l0 d_MaskEdges_prints_96
      · replace hf := x_f hc hf
        refine lv_aload_n hx hb d_MaskEdges_prints_47 rfl (lv_at hl 2 rfl) ?_
        refine va_get (D := X.1) (ci := 0) (v := .int (Box_left (X_bars ST kv3))) (C := "MaskEdges$Box") (T := F_Box) (N := 4) hx hb ht in_Box hown hK hP (148 + kv3) (xg_bars0 hkv3) rfl 0 (by decide) (ht _ xw_86) (fun _ h9 => h9) rfl d_MaskEdges_prints_48 ?_
        refine lv_istore (lv' := [(5, .int (Box_left (X_bars ST kv3))), (0, .ref (ad 0)), (2, .int v2), (3, .ref (ad (148 + kv3))), (4, .int v4)]) hx hb d_MaskEdges_prints_51 hl (by decide) rfl (fun ls hl => ?_)
        exact (hL53 _ (hL89 _ hr38) 100000) v2 kv3 v4 (Box_left (X_bars ST kv3)) hkv3  ls (lv_sub hl [1, 2, 3, 4, 0] rfl) hf
  unfold f_MaskEdges_prints at hf
  refine lv_iload_n hx hb d_MaskEdges_prints_0 rfl (lv_at hl 1 rfl) ?_
  refine lv_if_lt (tgt := 23) hx hb d_MaskEdges_prints_1 (by decide) (fun hc => ?_) (fun hc => ?_)
  · replace hf := x_t hc hf
    refine lv_iconst (v := (0 : Int32)) hx hb d_MaskEdges_prints_23 (by decide) ?_
    replace hf := x_s hf
    subst hf
    subst hQ
    exact W.zret (v := (0 : Int32)) hx hb hr (xz_n (by decide)) (fun t ht hW => ⟨⟨rfl, ht⟩, x_F0 ht⟩) x_l0 d_MaskEdges_prints_24
  · replace hf := x_f hc hf
    refine lv_iload_n hx hb d_MaskEdges_prints_4 rfl (lv_at hl 1 rfl) ?_
    refine lv_aload_n hx hb d_MaskEdges_prints_5 rfl (lv_at hl 0 rfl) ?_
    refine va_get (D := X.1) (ci := 5) (v := .int (X_barCount ST)) (C := "MaskEdges") (T := F_MaskEdges) (N := 14) hx hb ht in_MaskEdges hown hK hP 0 xg0 rfl 6 (by decide) (ht _ xw_161) (fun _ h9 => h9) rfl d_MaskEdges_prints_6 ?_
    refine lv_icmp_ge (tgt := 23) hx hb d_MaskEdges_prints_9 (by decide) (fun hc => ?_) (fun hc => ?_)
    · replace hf := x_t hc hf
      refine lv_iconst (v := (0 : Int32)) hx hb d_MaskEdges_prints_23 (by decide) ?_
      replace hf := x_s hf
      subst hf
      subst hQ
      exact W.zret (v := (0 : Int32)) hx hb hr (xz_n (by decide)) (fun t ht hW => ⟨⟨rfl, ht⟩, x_F0 ht⟩) x_l0 d_MaskEdges_prints_24
    · replace hf := x_f hc hf
      refine lv_iload_n hx hb d_MaskEdges_prints_12 rfl (lv_at hl 2 rfl) ?_
      refine lv_iconst (v := (1 : Int32)) hx hb d_MaskEdges_prints_13 (by decide) ?_
      refine lv_sipush (v := (1000 : Int32)) hx hb d_MaskEdges_prints_14 (by decide) ?_
      obtain ⟨c17, e17, hf⟩ := x_b hf
      refine xcR (va_runS (As := [.int v2, .int (1 : Int32), .int (1000 : Int32)]) (rest := []) ⟨hx, hb, hml, hown, ht⟩ (c_MaskEdges_within l X v2 (1 : Int32) (1000 : Int32) e17) (cwS 3 ht (xgS xw_263 xw_264 xw_37 xw_265) rfl rfl rfl (by decide +kernel) ⟨Nat.le_of_ble_eq_true rfl, Nat.le_of_ble_eq_true rfl⟩) (xPS hKK) rfl rfl hl.1 rfl (lv_room (Nat.le_of_ble_eq_true rfl)) d_MaskEdges_prints_17 ⟨Nat.zero_le _, Nat.zero_le _⟩) ?_
      refine W.eq (g2 := F0 m 20 ls [.int c17]) rfl ?_
      refine lv_if_ne (tgt := 25) hx hb d_MaskEdges_prints_20 (by decide) (fun hc => ?_) (fun hc => ?_)
      · replace hf := x_f hc hf
        refine lv_aload_n hx hb d_MaskEdges_prints_25 rfl (lv_at hl 0 rfl) ?_
        refine va_get (D := X.1) (ci := 5) (v := .ref (ad 4)) (C := "MaskEdges") (T := F_MaskEdges) (N := 14) hx hb ht in_MaskEdges hown hK hP 0 xg0 rfl 5 (by decide) (ht _ xw_160) (fun _ h9 => h9) rfl d_MaskEdges_prints_26 ?_
        refine lv_iload_n hx hb d_MaskEdges_prints_29 rfl (lv_at hl 1 rfl) ?_
        obtain ⟨g30, hf⟩ := x_g hf
        have hk30 := xin_lt g30
        refine va_aldq hx hb hK hP 4 4 xg4 rfl (xin_in g30) d_MaskEdges_prints_30 ?_
        refine W.eq (g2 := F0 m 31 ls [.ref (ad (148 + v1.toNatClampNeg))]) rfl ?_
        refine lv_astore_n (lv' := [(3, .ref (ad (148 + v1.toNatClampNeg))), (0, .ref (ad 0)), (1, .int v1), (2, .int v2)]) hx hb d_MaskEdges_prints_31 rfl hl (by decide) rfl (fun ls hl => ?_)
        refine lv_aload_n hx hb d_MaskEdges_prints_32 rfl (lv_at hl 0 rfl) ?_
        refine va_get (D := X.1) (ci := 0) (v := .int (Box_top (X_bars ST v1.toNatClampNeg))) (C := "MaskEdges$Box") (T := F_Box) (N := 4) hx hb ht in_Box hown hK hP (148 + v1.toNatClampNeg) (xg_bars0 hk30) rfl 1 (by decide) (ht _ xw_89) (fun _ h9 => h9) rfl d_MaskEdges_prints_33 ?_
        refine lv_istore (lv' := [(4, .int (Box_top (X_bars ST v1.toNatClampNeg))), (3, .ref (ad (148 + v1.toNatClampNeg))), (0, .ref (ad 0)), (1, .int v1), (2, .int v2)]) hx hb d_MaskEdges_prints_36 hl (by decide) rfl (fun ls hl => ?_)
        exact (hL38 100000) v2 v1.toNatClampNeg (Box_top (X_bars ST v1.toNatClampNeg)) hk30  ls (lv_sub hl [2, 4, 1, 0] rfl) hf
      · replace hf := x_t hc hf
        refine lv_iconst (v := (0 : Int32)) hx hb d_MaskEdges_prints_23 (by decide) ?_
        replace hf := x_s hf
        subst hf
        subst hQ
        exact W.zret (v := (0 : Int32)) hx hb hr (xz_n (by decide)) (fun t ht hW => ⟨⟨rfl, ht⟩, x_F0 ht⟩) x_l0 d_MaskEdges_prints_24
def f_MaskEdges_edge (ST : xSt) (v1 : Int32) (v2 : Int32) : Option (Int32) :=
  (f_MaskEdges_isPiece ST v1).bind fun c2 =>
  if c2 = 0 then
  some (0 : Int32)
else
  (f_MaskEdges_within v2 (1 : Int32) (1000 : Int32)).bind fun c13 =>
    if c13 = 0 then
    some (0 : Int32)
  else
    if xin v1 120 = true then
      (f_MaskEdges_errorOf ST v1.toNatClampNeg v2).bind fun c27 =>
        some c27
    else none
set_option maxHeartbeats 4000000 in
set_option maxRecDepth 100000 in
theorem c_MaskEdges_edge (l : Launch) (X : xG) {H : Heap} (ad : Nat → Nat) (ST : xSt) (v1 : Int32) (v2 : Int32) {res : Int32} (hP : va_P X.1 vwCl (wX X ad ST) H) (hf : f_MaskEdges_edge ST v1 v2 = some res) : xM l y_MaskEdges_edge (Cond.code y_MaskEdges_edge prog_1_method_13_code 3 (some .int) :: xT) ({ frames := 5, cells := 0, slots := 0, locals := 129 } : Room) (xK X) [.ref (ad 0), .int v1, .int v2] H xNo (some (.int res)) (fun H1 => H1 = H) := by
  refine Met.ofW (cc := prog_1_method_13_code) (maxL := 3) (ret := (some .int)) (by decide) rfl ?_
  intro p e s m args below meth c s₁ B hml hv
  obtain ⟨ha, hH, hKK⟩ := hv
  subst hH
  have hx := B.exec
  have hb := B.bytes
  have hr := B.returns
  have ht : ∀ w ∈ xT, w.before args s = true := fun w h => atoms_spec (ws := (Cond.code y_MaskEdges_edge prog_1_method_13_code 3 (some .int) :: xT)) B.pre w (List.mem_cons_of_mem _ h)
  have hown : s.vm.findClass "MaskEdges" = some m.cls := findClass_of_methodNamed B.named
  have hlocks := B.notSynchronized
  have hK := hKK.1
  rw [show entryFrame m args 3 = entryFrame m ([.ref (ad 0), .int v1, .int v2] : List Value).toArray 3 from by rw [ha]]
  clear ha
  have hl := lv_entry ([.ref (ad 0), .int v1, .int v2]) (n := 3) (Nat.le_of_ble_eq_true rfl)
  rw [lg_entry_eq]
  generalize (lg_sl ([.ref (ad 0), .int v1, .int v2]) ++ List.replicate (3 - (lg_sl ([.ref (ad 0), .int v1, .int v2])).length) Slot.unset).toArray = ls at hl ⊢
  replace hl : lv_has ls 3 [(0, .ref (ad 0)), (1, .int v1), (2, .int v2)] := hl
  refine x_Q (fun Q hQ => ?_)
  unfold f_MaskEdges_edge at hf
  refine lv_aload_n hx hb d_MaskEdges_edge_0 rfl (lv_at hl 0 rfl) ?_
  refine lv_iload_n hx hb d_MaskEdges_edge_1 rfl (lv_at hl 1 rfl) ?_
  obtain ⟨c2, e2, hf⟩ := x_b hf
  refine xcR (va_runV (As := [.int v1]) (rest := []) ⟨hx, hb, hml, hown, ht⟩ (c_MaskEdges_isPiece l X ad ST v1 hP e2) (cwV 1 ht (xgV xw_335 xw_336 xw_7 xw_37 xw_337) rfl rfl rfl (by decide +kernel) ⟨Nat.le_of_ble_eq_true rfl, Nat.le_of_ble_eq_true rfl⟩) (xPV hKK (va_recv hK hP (ci := 5) (q0 := 0) rfl xg0)) rfl rfl hl.1 rfl (lv_room (Nat.le_of_ble_eq_true rfl)) d_MaskEdges_edge_2 ⟨Nat.zero_le _, Nat.zero_le _⟩) ?_
  refine W.eq (g2 := F0 m 5 ls [.int c2]) rfl ?_
  refine lv_if_eq (tgt := 33) hx hb d_MaskEdges_edge_5 (by decide) (fun hc => ?_) (fun hc => ?_)
  · replace hf := x_t hc hf
    refine lv_iconst (v := (0 : Int32)) hx hb d_MaskEdges_edge_33 (by decide) ?_
    replace hf := x_s hf
    subst hf
    subst hQ
    exact W.iret (v := (0 : Int32)) hx hb hr (fun t ht hW => ⟨⟨rfl, ht⟩, x_F0 ht⟩) x_l0 d_MaskEdges_edge_34
  · replace hf := x_f hc hf
    refine lv_iload_n hx hb d_MaskEdges_edge_8 rfl (lv_at hl 2 rfl) ?_
    refine lv_iconst (v := (1 : Int32)) hx hb d_MaskEdges_edge_9 (by decide) ?_
    refine lv_sipush (v := (1000 : Int32)) hx hb d_MaskEdges_edge_10 (by decide) ?_
    obtain ⟨c13, e13, hf⟩ := x_b hf
    refine xcR (va_runS (As := [.int v2, .int (1 : Int32), .int (1000 : Int32)]) (rest := []) ⟨hx, hb, hml, hown, ht⟩ (c_MaskEdges_within l X v2 (1 : Int32) (1000 : Int32) e13) (cwS 3 ht (xgS xw_263 xw_264 xw_37 xw_265) rfl rfl rfl (by decide +kernel) ⟨Nat.le_of_ble_eq_true rfl, Nat.le_of_ble_eq_true rfl⟩) (xPS hKK) rfl rfl hl.1 rfl (lv_room (Nat.le_of_ble_eq_true rfl)) d_MaskEdges_edge_13 ⟨Nat.zero_le _, Nat.zero_le _⟩) ?_
    refine W.eq (g2 := F0 m 16 ls [.int c13]) rfl ?_
    refine lv_if_eq (tgt := 33) hx hb d_MaskEdges_edge_16 (by decide) (fun hc => ?_) (fun hc => ?_)
    · replace hf := x_t hc hf
      refine lv_iconst (v := (0 : Int32)) hx hb d_MaskEdges_edge_33 (by decide) ?_
      replace hf := x_s hf
      subst hf
      subst hQ
      exact W.iret (v := (0 : Int32)) hx hb hr (fun t ht hW => ⟨⟨rfl, ht⟩, x_F0 ht⟩) x_l0 d_MaskEdges_edge_34
    · replace hf := x_f hc hf
      refine lv_aload_n hx hb d_MaskEdges_edge_19 rfl (lv_at hl 0 rfl) ?_
      refine lv_aload_n hx hb d_MaskEdges_edge_20 rfl (lv_at hl 0 rfl) ?_
      refine va_get (D := X.1) (ci := 5) (v := .ref (ad 2)) (C := "MaskEdges") (T := F_MaskEdges) (N := 14) hx hb ht in_MaskEdges hown hK hP 0 xg0 rfl 2 (by decide) (ht _ xw_157) (fun _ h9 => h9) rfl d_MaskEdges_edge_21 ?_
      refine lv_iload_n hx hb d_MaskEdges_edge_24 rfl (lv_at hl 1 rfl) ?_
      obtain ⟨g25, hf⟩ := x_g hf
      have hk25 := xin_lt g25
      refine va_aldq hx hb hK hP 2 3 xg2 rfl (xin_in g25) d_MaskEdges_edge_25 ?_
      refine W.eq (g2 := F0 m 26 ls [.ref (ad (28 + v1.toNatClampNeg)), .ref (ad 0)]) rfl ?_
      refine lv_iload_n hx hb d_MaskEdges_edge_26 rfl (lv_at hl 2 rfl) ?_
      obtain ⟨c27, e27, hf⟩ := x_b hf
      refine xcR (va_runV (As := [.ref (ad (28 + v1.toNatClampNeg)), .int v2]) (rest := []) ⟨hx, hb, hml, hown, ht⟩ (c_MaskEdges_errorOf l X ad ST v1.toNatClampNeg v2 hP hk25 e27) (cwV 2 ht (xgV xw_338 xw_339 xw_8 xw_37 xw_340) rfl rfl rfl (by decide +kernel) ⟨Nat.le_of_ble_eq_true rfl, Nat.le_of_ble_eq_true rfl⟩) (xPV hKK (va_recv hK hP (ci := 5) (q0 := 0) rfl xg0)) rfl rfl hl.1 rfl (lv_room (Nat.le_of_ble_eq_true rfl)) d_MaskEdges_edge_27 ⟨Nat.zero_le _, Nat.zero_le _⟩) ?_
      refine W.eq (g2 := F0 m 30 ls [.int c27]) rfl ?_
      refine lv_goto (tgt := 34) hx hb d_MaskEdges_edge_30 (by decide) ?_
      replace hf := x_s hf
      subst hf
      subst hQ
      exact W.iret (v := c27) hx hb hr (fun t ht hW => ⟨⟨rfl, ht⟩, x_F0 ht⟩) x_l0 d_MaskEdges_edge_34
def f_MaskEdges_sameTargetAround_12 (ST : xSt) (r12 : Nat → Nat → Int32 → Int32 → Option (Int32)) (k73 : Nat → Nat → Int32 → Option (Int32)) (kv1 : Nat) (kv2 : Nat) (v3 : Int32) (v4 : Int32) : Option (Int32) :=
  if (4 : Int32) < v4 then
  k73 kv1 kv2 v3
else
  (f_CellSet_has (X_target ST) ((Piece_insideX (X_pieces ST kv1)) + v4) ((Piece_insideY (X_pieces ST kv1)) + v3)).bind fun c35 =>
    (f_CellSet_has (X_target ST) ((Piece_insideX (X_pieces ST kv2)) + v4) ((Piece_insideY (X_pieces ST kv2)) + v3)).bind fun c59 =>
    if c35 = c59 then
    r12 kv1 kv2 v3 (v4 + (1 : Int32))
  else
    some (0 : Int32)
def f_MaskEdges_sameTargetAround_73 (ST : xSt) (r3 : Nat → Nat → Int32 → Option (Int32)) (kv1 : Nat) (kv2 : Nat) (v3 : Int32) : Option (Int32) :=
  r3 kv1 kv2 (v3 + (1 : Int32))
def f_MaskEdges_sameTargetAround_3 (ST : xSt) (r3 : Nat → Nat → Int32 → Option (Int32)) (kv1 : Nat) (kv2 : Nat) (v3 : Int32) : Option (Int32) :=
  if (4 : Int32) < v3 then
  some (1 : Int32)
else
  (xloop (fun r => f_MaskEdges_sameTargetAround_12 ST r (f_MaskEdges_sameTargetAround_73 ST r3)) (fun _ _ _ _ => none) 100000) kv1 kv2 v3 (-4 : Int32)
def f_MaskEdges_sameTargetAround (ST : xSt) (k1 : Nat) (k2 : Nat) : Option (Int32) :=
  (xloop (fun r => f_MaskEdges_sameTargetAround_3 ST r) (fun _ _ _ => none) 100000) k1 k2 (-4 : Int32)
set_option maxHeartbeats 4000000 in
set_option maxRecDepth 100000 in
theorem c_MaskEdges_sameTargetAround (l : Launch) (X : xG) {H : Heap} (ad : Nat → Nat) (ST : xSt) (k1 : Nat) (k2 : Nat) {res : Int32} (hP : va_P X.1 vwCl (wX X ad ST) H) (hk1 : k1 < 120) (hk2 : k2 < 120) (hf : f_MaskEdges_sameTargetAround ST k1 k2 = some res) : xM l y_MaskEdges_sameTargetAround (Cond.code y_MaskEdges_sameTargetAround prog_1_method_32_code 6 (some .boolean) :: xT) ({ frames := 2, cells := 0, slots := 0, locals := 43 } : Room) (xK X) [.ref (ad 0), .ref (ad (28 + k1)), .ref (ad (28 + k2))] H xNo (some (.int res)) (fun H1 => H1 = H) := by
  refine Met.ofW (cc := prog_1_method_32_code) (maxL := 6) (ret := (some .boolean)) (by decide) rfl ?_
  intro p e s m args below meth c s₁ B hml hv
  obtain ⟨ha, hH, hKK⟩ := hv
  subst hH
  have hx := B.exec
  have hb := B.bytes
  have hr := B.returns
  have ht : ∀ w ∈ xT, w.before args s = true := fun w h => atoms_spec (ws := (Cond.code y_MaskEdges_sameTargetAround prog_1_method_32_code 6 (some .boolean) :: xT)) B.pre w (List.mem_cons_of_mem _ h)
  have hown : s.vm.findClass "MaskEdges" = some m.cls := findClass_of_methodNamed B.named
  have hlocks := B.notSynchronized
  have hK := hKK.1
  rw [show entryFrame m args 6 = entryFrame m ([.ref (ad 0), .ref (ad (28 + k1)), .ref (ad (28 + k2))] : List Value).toArray 6 from by rw [ha]]
  clear ha
  have hl := lv_entry ([.ref (ad 0), .ref (ad (28 + k1)), .ref (ad (28 + k2))]) (n := 6) (Nat.le_of_ble_eq_true rfl)
  rw [lg_entry_eq]
  generalize (lg_sl ([.ref (ad 0), .ref (ad (28 + k1)), .ref (ad (28 + k2))]) ++ List.replicate (6 - (lg_sl ([.ref (ad 0), .ref (ad (28 + k1)), .ref (ad (28 + k2))])).length) Slot.unset).toArray = ls at hl ⊢
  replace hl : lv_has ls 6 [(0, .ref (ad 0)), (1, .ref (ad (28 + k1))), (2, .ref (ad (28 + k2)))] := hl
  refine x_Q (fun Q hQ => ?_)
  have hL12 : ∀ (k73 : Nat → Nat → Int32 → Option (Int32)) (hk73 : ∀ (kv1 : Nat) (kv2 : Nat) (v3 : Int32), kv1 < 120 → kv2 < 120 → ∀ (ls : Array Slot), lv_has ls 6 [(0, .ref (ad 0)), (1, .ref (ad (28 + kv1))), (2, .ref (ad (28 + kv2))), (3, .int v3)] → k73 kv1 kv2 v3 = some res → W p l e (headSpec (Cond.code y_MaskEdges_sameTargetAround prog_1_method_32_code 6 (some .boolean) :: xT) ({ frames := 2, cells := 0, slots := 0, locals := 43 } : Room)).room s m args below meth c s.heap [] 0 0 Q (F0 m 73 ls [])), ∀ (n : Nat), ∀ (kv1 : Nat) (kv2 : Nat) (v3 : Int32) (v4 : Int32), kv1 < 120 → kv2 < 120 → ∀ (ls : Array Slot), lv_has ls 6 [(0, .ref (ad 0)), (1, .ref (ad (28 + kv1))), (2, .ref (ad (28 + kv2))), (3, .int v3), (4, .int v4)] → (xloop (fun r => f_MaskEdges_sameTargetAround_12 ST r k73) (fun _ _ _ _ => none) n) kv1 kv2 v3 v4 = some res → W p l e (headSpec (Cond.code y_MaskEdges_sameTargetAround prog_1_method_32_code 6 (some .boolean) :: xT) ({ frames := 2, cells := 0, slots := 0, locals := 43 } : Room)).room s m args below meth c s.heap [] 0 0 Q (F0 m 12 ls []) := by
    intro k73 hk73
    intro n
    induction n with
    | zero => intro kv1 kv2 v3 v4 hkv1 hkv2 ls hl hf; cases hf
    | succ n ih =>
      intro kv1 kv2 v3 v4 hkv1 hkv2 ls hl hf
      replace hf : f_MaskEdges_sameTargetAround_12 ST (xloop (fun r => f_MaskEdges_sameTargetAround_12 ST r k73) (fun _ _ _ _ => none) n) k73 kv1 kv2 v3 v4 = some res := hf
      have hr12 := ih
      clear ih
      unfold f_MaskEdges_sameTargetAround_12 at hf
      refine lv_iload hx hb d_MaskEdges_sameTargetAround_12 (lv_at hl 4 rfl) ?_
      refine lv_iconst (v := (4 : Int32)) hx hb d_MaskEdges_sameTargetAround_14 (by decide) ?_
      refine lv_icmp_gt (tgt := 73) hx hb d_MaskEdges_sameTargetAround_15 (by decide) (fun hc => ?_) (fun hc => ?_)
      · replace hf := x_t hc hf
        exact hk73 kv1 kv2 v3 hkv1 hkv2  ls (lv_sub hl [0, 1, 2, 3] rfl) hf
      · replace hf := x_f hc hf
        refine lv_aload_n hx hb d_MaskEdges_sameTargetAround_18 rfl (lv_at hl 0 rfl) ?_
        refine va_get (D := X.1) (ci := 5) (v := .ref (ad 5)) (C := "MaskEdges") (T := F_MaskEdges) (N := 14) hx hb ht in_MaskEdges hown hK hP 0 xg0 rfl 7 (by decide) (ht _ xw_162) (fun _ h9 => h9) rfl d_MaskEdges_sameTargetAround_19 ?_
        refine lv_aload_n hx hb d_MaskEdges_sameTargetAround_22 rfl (lv_at hl 1 rfl) ?_
        refine va_get (D := X.1) (ci := 4) (v := .int (Piece_insideX (X_pieces ST kv1))) (C := "MaskEdges$Piece") (T := F_Piece) (N := 12) hx hb ht in_Piece hown hK hP (28 + kv1) (xg_pieces0 hkv1) rfl 9 (by decide) (ht _ xw_138) (fun _ h9 => h9) rfl d_MaskEdges_sameTargetAround_23 ?_
        refine lv_iload hx hb d_MaskEdges_sameTargetAround_26 (lv_at hl 4 rfl) ?_
        refine lv_iadd hx hb d_MaskEdges_sameTargetAround_28 ?_
        refine lv_aload_n hx hb d_MaskEdges_sameTargetAround_29 rfl (lv_at hl 1 rfl) ?_
        refine va_get (D := X.1) (ci := 4) (v := .int (Piece_insideY (X_pieces ST kv1))) (C := "MaskEdges$Piece") (T := F_Piece) (N := 12) hx hb ht in_Piece hown hK hP (28 + kv1) (xg_pieces0 hkv1) rfl 10 (by decide) (ht _ xw_140) (fun _ h9 => h9) rfl d_MaskEdges_sameTargetAround_30 ?_
        refine lv_iload_n hx hb d_MaskEdges_sameTargetAround_33 rfl (lv_at hl 3 rfl) ?_
        refine lv_iadd hx hb d_MaskEdges_sameTargetAround_34 ?_
        obtain ⟨c35, e35, hf⟩ := x_b hf
        refine xcR (va_runV (As := [.int ((Piece_insideX (X_pieces ST kv1)) + v4), .int ((Piece_insideY (X_pieces ST kv1)) + v3)]) (rest := []) ⟨hx, hb, hml, hown, ht⟩ (c_CellSet_has l X (ad 5) (ad 6) (X_target ST) ((Piece_insideX (X_pieces ST kv1)) + v4) ((Piece_insideY (X_pieces ST kv1)) + v3) (xs_target hP) e35) (cwV 2 ht (xgV xw_425 xw_426 xw_427 xw_38 xw_428) rfl rfl rfl (by decide +kernel) ⟨Nat.le_of_ble_eq_true rfl, Nat.le_of_ble_eq_true rfl⟩) (xPV hKK (va_recv hK hP (ci := 1) (q0 := 5) rfl xg5)) rfl rfl hl.1 rfl (lv_room (Nat.le_of_ble_eq_true rfl)) d_MaskEdges_sameTargetAround_35 ⟨Nat.zero_le _, Nat.zero_le _⟩) ?_
        refine W.eq (g2 := F0 m 38 ls [.int c35]) rfl ?_
        refine lv_istore (lv' := [(5, .int c35), (0, .ref (ad 0)), (1, .ref (ad (28 + kv1))), (2, .ref (ad (28 + kv2))), (3, .int v3), (4, .int v4)]) hx hb d_MaskEdges_sameTargetAround_38 hl (by decide) rfl (fun ls hl => ?_)
        refine lv_iload hx hb d_MaskEdges_sameTargetAround_40 (lv_at hl 0 rfl) ?_
        refine lv_aload_n hx hb d_MaskEdges_sameTargetAround_42 rfl (lv_at hl 1 rfl) ?_
        refine va_get (D := X.1) (ci := 5) (v := .ref (ad 5)) (C := "MaskEdges") (T := F_MaskEdges) (N := 14) hx hb ht in_MaskEdges hown hK hP 0 xg0 rfl 7 (by decide) (ht _ xw_162) (fun _ h9 => h9) rfl d_MaskEdges_sameTargetAround_43 ?_
        refine lv_aload_n hx hb d_MaskEdges_sameTargetAround_46 rfl (lv_at hl 3 rfl) ?_
        refine va_get (D := X.1) (ci := 4) (v := .int (Piece_insideX (X_pieces ST kv2))) (C := "MaskEdges$Piece") (T := F_Piece) (N := 12) hx hb ht in_Piece hown hK hP (28 + kv2) (xg_pieces0 hkv2) rfl 9 (by decide) (ht _ xw_138) (fun _ h9 => h9) rfl d_MaskEdges_sameTargetAround_47 ?_
        refine lv_iload hx hb d_MaskEdges_sameTargetAround_50 (lv_at hl 5 rfl) ?_
        refine lv_iadd hx hb d_MaskEdges_sameTargetAround_52 ?_
        refine lv_aload_n hx hb d_MaskEdges_sameTargetAround_53 rfl (lv_at hl 3 rfl) ?_
        refine va_get (D := X.1) (ci := 4) (v := .int (Piece_insideY (X_pieces ST kv2))) (C := "MaskEdges$Piece") (T := F_Piece) (N := 12) hx hb ht in_Piece hown hK hP (28 + kv2) (xg_pieces0 hkv2) rfl 10 (by decide) (ht _ xw_140) (fun _ h9 => h9) rfl d_MaskEdges_sameTargetAround_54 ?_
        refine lv_iload_n hx hb d_MaskEdges_sameTargetAround_57 rfl (lv_at hl 4 rfl) ?_
        refine lv_iadd hx hb d_MaskEdges_sameTargetAround_58 ?_
        obtain ⟨c59, e59, hf⟩ := x_b hf
        refine xcR (va_runV (As := [.int ((Piece_insideX (X_pieces ST kv2)) + v4), .int ((Piece_insideY (X_pieces ST kv2)) + v3)]) (rest := [.int c35]) ⟨hx, hb, hml, hown, ht⟩ (c_CellSet_has l X (ad 5) (ad 6) (X_target ST) ((Piece_insideX (X_pieces ST kv2)) + v4) ((Piece_insideY (X_pieces ST kv2)) + v3) (xs_target hP) e59) (cwV 2 ht (xgV xw_425 xw_426 xw_427 xw_38 xw_428) rfl rfl rfl (by decide +kernel) ⟨Nat.le_of_ble_eq_true rfl, Nat.le_of_ble_eq_true rfl⟩) (xPV hKK (va_recv hK hP (ci := 1) (q0 := 5) rfl xg5)) rfl rfl hl.1 rfl (lv_room (Nat.le_of_ble_eq_true rfl)) d_MaskEdges_sameTargetAround_59 ⟨Nat.zero_le _, Nat.zero_le _⟩) ?_
        refine W.eq (g2 := F0 m 62 ls [.int c59, .int c35]) rfl ?_
        refine lv_icmp_eq (tgt := 67) hx hb d_MaskEdges_sameTargetAround_62 (by decide) (fun hc => ?_) (fun hc => ?_)
        · replace hf := x_t hc hf
          refine lv_iinc (v := (v4 + (1 : Int32))) (lv' := [(4, .int (v4 + (1 : Int32))), (5, .int c35), (0, .ref (ad 0)), (1, .ref (ad (28 + kv1))), (2, .ref (ad (28 + kv2))), (3, .int v3)]) hx hb d_MaskEdges_sameTargetAround_67 hl (k := 5) rfl rfl (by decide) rfl (fun ls hl => ?_)
          refine lv_goto (tgt := 12) hx hb d_MaskEdges_sameTargetAround_70 (by decide) ?_
          exact hr12 kv1 kv2 v3 (v4 + (1 : Int32)) hkv1 hkv2  ls (lv_sub hl [2, 3, 4, 5, 0] rfl) hf
        · replace hf := x_f hc hf
          refine lv_iconst (v := (0 : Int32)) hx hb d_MaskEdges_sameTargetAround_65 (by decide) ?_
          replace hf := x_s hf
          subst hf
          subst hQ
          exact W.zret (v := (0 : Int32)) hx hb hr (xz_n (by decide)) (fun t ht hW => ⟨⟨rfl, ht⟩, x_F0 ht⟩) x_l0 d_MaskEdges_sameTargetAround_66
  have hL73 : ∀ (r3 : Nat → Nat → Int32 → Option (Int32)) (hr3 : ∀ (kv1 : Nat) (kv2 : Nat) (v3 : Int32), kv1 < 120 → kv2 < 120 → ∀ (ls : Array Slot), lv_has ls 6 [(0, .ref (ad 0)), (1, .ref (ad (28 + kv1))), (2, .ref (ad (28 + kv2))), (3, .int v3)] → r3 kv1 kv2 v3 = some res → W p l e (headSpec (Cond.code y_MaskEdges_sameTargetAround prog_1_method_32_code 6 (some .boolean) :: xT) ({ frames := 2, cells := 0, slots := 0, locals := 43 } : Room)).room s m args below meth c s.heap [] 0 0 Q (F0 m 3 ls [])), ∀ (kv1 : Nat) (kv2 : Nat) (v3 : Int32), kv1 < 120 → kv2 < 120 → ∀ (ls : Array Slot), lv_has ls 6 [(0, .ref (ad 0)), (1, .ref (ad (28 + kv1))), (2, .ref (ad (28 + kv2))), (3, .int v3)] → f_MaskEdges_sameTargetAround_73 ST r3 kv1 kv2 v3 = some res → W p l e (headSpec (Cond.code y_MaskEdges_sameTargetAround prog_1_method_32_code 6 (some .boolean) :: xT) ({ frames := 2, cells := 0, slots := 0, locals := 43 } : Room)).room s m args below meth c s.heap [] 0 0 Q (F0 m 73 ls []) := by
    intro r3 hr3 kv1 kv2 v3 hkv1 hkv2 ls hl hf
    unfold f_MaskEdges_sameTargetAround_73 at hf
    refine lv_iinc (v := (v3 + (1 : Int32))) (lv' := [(3, .int (v3 + (1 : Int32))), (0, .ref (ad 0)), (1, .ref (ad (28 + kv1))), (2, .ref (ad (28 + kv2)))]) hx hb d_MaskEdges_sameTargetAround_73 hl (k := 3) rfl rfl (by decide) rfl (fun ls hl => ?_)
    refine lv_goto (tgt := 3) hx hb d_MaskEdges_sameTargetAround_76 (by decide) ?_
    exact hr3 kv1 kv2 (v3 + (1 : Int32)) hkv1 hkv2  ls (lv_sub hl [1, 2, 3, 0] rfl) hf
  have hL3 : ∀ (n : Nat), ∀ (kv1 : Nat) (kv2 : Nat) (v3 : Int32), kv1 < 120 → kv2 < 120 → ∀ (ls : Array Slot), lv_has ls 6 [(0, .ref (ad 0)), (1, .ref (ad (28 + kv1))), (2, .ref (ad (28 + kv2))), (3, .int v3)] → (xloop (fun r => f_MaskEdges_sameTargetAround_3 ST r) (fun _ _ _ => none) n) kv1 kv2 v3 = some res → W p l e (headSpec (Cond.code y_MaskEdges_sameTargetAround prog_1_method_32_code 6 (some .boolean) :: xT) ({ frames := 2, cells := 0, slots := 0, locals := 43 } : Room)).room s m args below meth c s.heap [] 0 0 Q (F0 m 3 ls []) := by
    intro n
    induction n with
    | zero => intro kv1 kv2 v3 hkv1 hkv2 ls hl hf; cases hf
    | succ n ih =>
      intro kv1 kv2 v3 hkv1 hkv2 ls hl hf
      replace hf : f_MaskEdges_sameTargetAround_3 ST (xloop (fun r => f_MaskEdges_sameTargetAround_3 ST r) (fun _ _ _ => none) n) kv1 kv2 v3 = some res := hf
      have hr3 := ih
      clear ih
      unfold f_MaskEdges_sameTargetAround_3 at hf
      refine lv_iload_n hx hb d_MaskEdges_sameTargetAround_3 rfl (lv_at hl 3 rfl) ?_
      refine lv_iconst (v := (4 : Int32)) hx hb d_MaskEdges_sameTargetAround_4 (by decide) ?_
      refine lv_icmp_gt (tgt := 79) hx hb d_MaskEdges_sameTargetAround_5 (by decide) (fun hc => ?_) (fun hc => ?_)
      · replace hf := x_t hc hf
        refine lv_iconst (v := (1 : Int32)) hx hb d_MaskEdges_sameTargetAround_79 (by decide) ?_
        replace hf := x_s hf
        subst hf
        subst hQ
        exact W.zret (v := (1 : Int32)) hx hb hr (xz_n (by decide)) (fun t ht hW => ⟨⟨rfl, ht⟩, x_F0 ht⟩) x_l0 d_MaskEdges_sameTargetAround_80
      · replace hf := x_f hc hf
        refine lv_bipush (v := (-4 : Int32)) hx hb d_MaskEdges_sameTargetAround_8 (by decide) ?_
        refine lv_istore (lv' := [(4, .int (-4 : Int32)), (0, .ref (ad 0)), (1, .ref (ad (28 + kv1))), (2, .ref (ad (28 + kv2))), (3, .int v3)]) hx hb d_MaskEdges_sameTargetAround_10 hl (by decide) rfl (fun ls hl => ?_)
        exact (hL12 _ (hL73 _ hr3) 100000) kv1 kv2 v3 (-4 : Int32) hkv1 hkv2  ls (lv_sub hl [1, 2, 3, 4, 0] rfl) hf
  unfold f_MaskEdges_sameTargetAround at hf
  refine lv_bipush (v := (-4 : Int32)) hx hb d_MaskEdges_sameTargetAround_0 (by decide) ?_
  refine lv_istore_n (lv' := [(3, .int (-4 : Int32)), (0, .ref (ad 0)), (1, .ref (ad (28 + k1))), (2, .ref (ad (28 + k2)))]) hx hb d_MaskEdges_sameTargetAround_2 rfl hl (by decide) rfl (fun ls hl => ?_)
  exact (hL3 100000) k1 k2 (-4 : Int32) hk1 hk2  ls (lv_sub hl [1, 2, 3, 0] rfl) hf
def f_MaskEdges_alike (ST : xSt) (v1 : Int32) (v2 : Int32) : Option (Int32) :=
  (f_MaskEdges_isPiece ST v1).bind fun c2 =>
  if c2 = 0 then
  some (0 : Int32)
else
  (f_MaskEdges_isPiece ST v2).bind fun c10 =>
    if c10 = 0 then
    some (0 : Int32)
  else
    if xin v1 120 = true then
      if xin v2 120 = true then
        (f_Piece_isFlat (X_pieces ST v1.toNatClampNeg)).bind fun c34 =>
          if c34 = 0 then
          (f_Piece_facesLike (X_pieces ST v1.toNatClampNeg) (X_pieces ST v2.toNatClampNeg)).bind fun c43 =>
            if c43 = 0 then
            some (0 : Int32)
          else
            (f_MaskEdges_sameTargetAround ST v1.toNatClampNeg v2.toNatClampNeg).bind fun c53 =>
              if c53 = 0 then
              some (0 : Int32)
            else
              some (1 : Int32)
        else
          some (0 : Int32)
      else none
    else none
set_option maxHeartbeats 4000000 in
set_option maxRecDepth 100000 in
theorem c_MaskEdges_alike (l : Launch) (X : xG) {H : Heap} (ad : Nat → Nat) (ST : xSt) (v1 : Int32) (v2 : Int32) {res : Int32} (hP : va_P X.1 vwCl (wX X ad ST) H) (hf : f_MaskEdges_alike ST v1 v2 = some res) : xM l y_MaskEdges_alike (Cond.code y_MaskEdges_alike prog_1_method_14_code 5 (some .boolean) :: xT) ({ frames := 3, cells := 0, slots := 0, locals := 68 } : Room) (xK X) [.ref (ad 0), .int v1, .int v2] H xNo (some (.int res)) (fun H1 => H1 = H) := by
  refine Met.ofW (cc := prog_1_method_14_code) (maxL := 5) (ret := (some .boolean)) (by decide) rfl ?_
  intro p e s m args below meth c s₁ B hml hv
  obtain ⟨ha, hH, hKK⟩ := hv
  subst hH
  have hx := B.exec
  have hb := B.bytes
  have hr := B.returns
  have ht : ∀ w ∈ xT, w.before args s = true := fun w h => atoms_spec (ws := (Cond.code y_MaskEdges_alike prog_1_method_14_code 5 (some .boolean) :: xT)) B.pre w (List.mem_cons_of_mem _ h)
  have hown : s.vm.findClass "MaskEdges" = some m.cls := findClass_of_methodNamed B.named
  have hlocks := B.notSynchronized
  have hK := hKK.1
  rw [show entryFrame m args 5 = entryFrame m ([.ref (ad 0), .int v1, .int v2] : List Value).toArray 5 from by rw [ha]]
  clear ha
  have hl := lv_entry ([.ref (ad 0), .int v1, .int v2]) (n := 5) (Nat.le_of_ble_eq_true rfl)
  rw [lg_entry_eq]
  generalize (lg_sl ([.ref (ad 0), .int v1, .int v2]) ++ List.replicate (5 - (lg_sl ([.ref (ad 0), .int v1, .int v2])).length) Slot.unset).toArray = ls at hl ⊢
  replace hl : lv_has ls 5 [(0, .ref (ad 0)), (1, .int v1), (2, .int v2)] := hl
  refine x_Q (fun Q hQ => ?_)
  unfold f_MaskEdges_alike at hf
  refine lv_aload_n hx hb d_MaskEdges_alike_0 rfl (lv_at hl 0 rfl) ?_
  refine lv_iload_n hx hb d_MaskEdges_alike_1 rfl (lv_at hl 1 rfl) ?_
  obtain ⟨c2, e2, hf⟩ := x_b hf
  refine xcR (va_runV (As := [.int v1]) (rest := []) ⟨hx, hb, hml, hown, ht⟩ (c_MaskEdges_isPiece l X ad ST v1 hP e2) (cwV 1 ht (xgV xw_335 xw_336 xw_7 xw_37 xw_337) rfl rfl rfl (by decide +kernel) ⟨Nat.le_of_ble_eq_true rfl, Nat.le_of_ble_eq_true rfl⟩) (xPV hKK (va_recv hK hP (ci := 5) (q0 := 0) rfl xg0)) rfl rfl hl.1 rfl (lv_room (Nat.le_of_ble_eq_true rfl)) d_MaskEdges_alike_2 ⟨Nat.zero_le _, Nat.zero_le _⟩) ?_
  refine W.eq (g2 := F0 m 5 ls [.int c2]) rfl ?_
  refine lv_if_eq (tgt := 16) hx hb d_MaskEdges_alike_5 (by decide) (fun hc => ?_) (fun hc => ?_)
  · replace hf := x_t hc hf
    refine lv_iconst (v := (0 : Int32)) hx hb d_MaskEdges_alike_16 (by decide) ?_
    replace hf := x_s hf
    subst hf
    subst hQ
    exact W.zret (v := (0 : Int32)) hx hb hr (xz_n (by decide)) (fun t ht hW => ⟨⟨rfl, ht⟩, x_F0 ht⟩) x_l0 d_MaskEdges_alike_17
  · replace hf := x_f hc hf
    refine lv_aload_n hx hb d_MaskEdges_alike_8 rfl (lv_at hl 0 rfl) ?_
    refine lv_iload_n hx hb d_MaskEdges_alike_9 rfl (lv_at hl 2 rfl) ?_
    obtain ⟨c10, e10, hf⟩ := x_b hf
    refine xcR (va_runV (As := [.int v2]) (rest := []) ⟨hx, hb, hml, hown, ht⟩ (c_MaskEdges_isPiece l X ad ST v2 hP e10) (cwV 1 ht (xgV xw_335 xw_336 xw_7 xw_37 xw_337) rfl rfl rfl (by decide +kernel) ⟨Nat.le_of_ble_eq_true rfl, Nat.le_of_ble_eq_true rfl⟩) (xPV hKK (va_recv hK hP (ci := 5) (q0 := 0) rfl xg0)) rfl rfl hl.1 rfl (lv_room (Nat.le_of_ble_eq_true rfl)) d_MaskEdges_alike_10 ⟨Nat.zero_le _, Nat.zero_le _⟩) ?_
    refine W.eq (g2 := F0 m 13 ls [.int c10]) rfl ?_
    refine lv_if_ne (tgt := 18) hx hb d_MaskEdges_alike_13 (by decide) (fun hc => ?_) (fun hc => ?_)
    · replace hf := x_f hc hf
      refine lv_aload_n hx hb d_MaskEdges_alike_18 rfl (lv_at hl 0 rfl) ?_
      refine va_get (D := X.1) (ci := 5) (v := .ref (ad 2)) (C := "MaskEdges") (T := F_MaskEdges) (N := 14) hx hb ht in_MaskEdges hown hK hP 0 xg0 rfl 2 (by decide) (ht _ xw_157) (fun _ h9 => h9) rfl d_MaskEdges_alike_19 ?_
      refine lv_iload_n hx hb d_MaskEdges_alike_22 rfl (lv_at hl 1 rfl) ?_
      obtain ⟨g23, hf⟩ := x_g hf
      have hk23 := xin_lt g23
      refine va_aldq hx hb hK hP 2 3 xg2 rfl (xin_in g23) d_MaskEdges_alike_23 ?_
      refine W.eq (g2 := F0 m 24 ls [.ref (ad (28 + v1.toNatClampNeg))]) rfl ?_
      refine lv_astore_n (lv' := [(3, .ref (ad (28 + v1.toNatClampNeg))), (0, .ref (ad 0)), (1, .int v1), (2, .int v2)]) hx hb d_MaskEdges_alike_24 rfl hl (by decide) rfl (fun ls hl => ?_)
      refine lv_aload_n hx hb d_MaskEdges_alike_25 rfl (lv_at hl 1 rfl) ?_
      refine va_get (D := X.1) (ci := 5) (v := .ref (ad 2)) (C := "MaskEdges") (T := F_MaskEdges) (N := 14) hx hb ht in_MaskEdges hown hK hP 0 xg0 rfl 2 (by decide) (ht _ xw_157) (fun _ h9 => h9) rfl d_MaskEdges_alike_26 ?_
      refine lv_iload_n hx hb d_MaskEdges_alike_29 rfl (lv_at hl 3 rfl) ?_
      obtain ⟨g30, hf⟩ := x_g hf
      have hk30 := xin_lt g30
      refine va_aldq hx hb hK hP 2 3 xg2 rfl (xin_in g30) d_MaskEdges_alike_30 ?_
      refine W.eq (g2 := F0 m 31 ls [.ref (ad (28 + v2.toNatClampNeg))]) rfl ?_
      refine lv_astore (lv' := [(4, .ref (ad (28 + v2.toNatClampNeg))), (3, .ref (ad (28 + v1.toNatClampNeg))), (0, .ref (ad 0)), (1, .int v1), (2, .int v2)]) hx hb d_MaskEdges_alike_31 hl (by decide) rfl (fun ls hl => ?_)
      refine lv_aload_n hx hb d_MaskEdges_alike_33 rfl (lv_at hl 1 rfl) ?_
      obtain ⟨c34, e34, hf⟩ := x_b hf
      refine xcR (va_runV (As := []) (rest := []) ⟨hx, hb, hml, hown, ht⟩ (c_Piece_isFlat l X (ad (28 + v1.toNatClampNeg)) (X_pieces ST v1.toNatClampNeg) (xs_pieces hk23 hP) e34) (cwV 0 ht (xgV xw_341 xw_342 xw_343 xw_42 xw_344) rfl rfl rfl (by decide +kernel) ⟨Nat.le_of_ble_eq_true rfl, Nat.le_of_ble_eq_true rfl⟩) (xPV hKK (va_recv hK hP (ci := 4) (q0 := (28 + v1.toNatClampNeg)) rfl (xg_pieces0 hk23))) rfl rfl hl.1 rfl (lv_room (Nat.le_of_ble_eq_true rfl)) d_MaskEdges_alike_34 ⟨Nat.zero_le _, Nat.zero_le _⟩) ?_
      refine W.eq (g2 := F0 m 37 ls [.int c34]) rfl ?_
      refine lv_if_ne (tgt := 63) hx hb d_MaskEdges_alike_37 (by decide) (fun hc => ?_) (fun hc => ?_)
      · replace hf := x_f hc hf
        refine lv_iconst (v := (0 : Int32)) hx hb d_MaskEdges_alike_63 (by decide) ?_
        replace hf := x_s hf
        subst hf
        subst hQ
        exact W.zret (v := (0 : Int32)) hx hb hr (xz_n (by decide)) (fun t ht hW => ⟨⟨rfl, ht⟩, x_F0 ht⟩) x_l0 d_MaskEdges_alike_64
      · replace hf := x_t hc hf
        refine lv_aload_n hx hb d_MaskEdges_alike_40 rfl (lv_at hl 1 rfl) ?_
        refine lv_aload hx hb d_MaskEdges_alike_41 (lv_at hl 0 rfl) ?_
        obtain ⟨c43, e43, hf⟩ := x_b hf
        refine xcR (va_runV (As := [.ref (ad (28 + v2.toNatClampNeg))]) (rest := []) ⟨hx, hb, hml, hown, ht⟩ (c_Piece_facesLike l X (ad (28 + v1.toNatClampNeg)) (X_pieces ST v1.toNatClampNeg) (ad (28 + v2.toNatClampNeg)) (X_pieces ST v2.toNatClampNeg) (xs_pieces hk23 hP) (xs_pieces hk30 hP) e43) (cwV 1 ht (xgV xw_418 xw_419 xw_420 xw_42 xw_421) rfl rfl rfl (by decide +kernel) ⟨Nat.le_of_ble_eq_true rfl, Nat.le_of_ble_eq_true rfl⟩) (xPV hKK (va_recv hK hP (ci := 4) (q0 := (28 + v1.toNatClampNeg)) rfl (xg_pieces0 hk23))) rfl rfl hl.1 rfl (lv_room (Nat.le_of_ble_eq_true rfl)) d_MaskEdges_alike_43 ⟨Nat.zero_le _, Nat.zero_le _⟩) ?_
        refine W.eq (g2 := F0 m 46 ls [.int c43]) rfl ?_
        refine lv_if_eq (tgt := 63) hx hb d_MaskEdges_alike_46 (by decide) (fun hc => ?_) (fun hc => ?_)
        · replace hf := x_t hc hf
          refine lv_iconst (v := (0 : Int32)) hx hb d_MaskEdges_alike_63 (by decide) ?_
          replace hf := x_s hf
          subst hf
          subst hQ
          exact W.zret (v := (0 : Int32)) hx hb hr (xz_n (by decide)) (fun t ht hW => ⟨⟨rfl, ht⟩, x_F0 ht⟩) x_l0 d_MaskEdges_alike_64
        · replace hf := x_f hc hf
          refine lv_aload_n hx hb d_MaskEdges_alike_49 rfl (lv_at hl 2 rfl) ?_
          refine lv_aload_n hx hb d_MaskEdges_alike_50 rfl (lv_at hl 1 rfl) ?_
          refine lv_aload hx hb d_MaskEdges_alike_51 (lv_at hl 0 rfl) ?_
          obtain ⟨c53, e53, hf⟩ := x_b hf
          refine xcR (va_runV (As := [.ref (ad (28 + v1.toNatClampNeg)), .ref (ad (28 + v2.toNatClampNeg))]) (rest := []) ⟨hx, hb, hml, hown, ht⟩ (c_MaskEdges_sameTargetAround l X ad ST v1.toNatClampNeg v2.toNatClampNeg hP hk23 hk30 e53) (cwV 2 ht (xgV xw_422 xw_423 xw_13 xw_37 xw_424) rfl rfl rfl (by decide +kernel) ⟨Nat.le_of_ble_eq_true rfl, Nat.le_of_ble_eq_true rfl⟩) (xPV hKK (va_recv hK hP (ci := 5) (q0 := 0) rfl xg0)) rfl rfl hl.1 rfl (lv_room (Nat.le_of_ble_eq_true rfl)) d_MaskEdges_alike_53 ⟨Nat.zero_le _, Nat.zero_le _⟩) ?_
          refine W.eq (g2 := F0 m 56 ls [.int c53]) rfl ?_
          refine lv_if_eq (tgt := 63) hx hb d_MaskEdges_alike_56 (by decide) (fun hc => ?_) (fun hc => ?_)
          · replace hf := x_t hc hf
            refine lv_iconst (v := (0 : Int32)) hx hb d_MaskEdges_alike_63 (by decide) ?_
            replace hf := x_s hf
            subst hf
            subst hQ
            exact W.zret (v := (0 : Int32)) hx hb hr (xz_n (by decide)) (fun t ht hW => ⟨⟨rfl, ht⟩, x_F0 ht⟩) x_l0 d_MaskEdges_alike_64
          · replace hf := x_f hc hf
            refine lv_iconst (v := (1 : Int32)) hx hb d_MaskEdges_alike_59 (by decide) ?_
            refine lv_goto (tgt := 64) hx hb d_MaskEdges_alike_60 (by decide) ?_
            replace hf := x_s hf
            subst hf
            subst hQ
            exact W.zret (v := (1 : Int32)) hx hb hr (xz_n (by decide)) (fun t ht hW => ⟨⟨rfl, ht⟩, x_F0 ht⟩) x_l0 d_MaskEdges_alike_64
    · replace hf := x_t hc hf
      refine lv_iconst (v := (0 : Int32)) hx hb d_MaskEdges_alike_16 (by decide) ?_
      replace hf := x_s hf
      subst hf
      subst hQ
      exact W.zret (v := (0 : Int32)) hx hb hr (xz_n (by decide)) (fun t ht hW => ⟨⟨rfl, ht⟩, x_F0 ht⟩) x_l0 d_MaskEdges_alike_17
def f_MaskEdges_shift_85 (r38 : Int32 → Int32 → Int32 → Int32 → xSt → Option (Int32 × xSt)) (v1 : Int32) (v2 : Int32) (v3 : Int32) (v4 : Int32) (ST : xSt) : Option (Int32 × xSt) :=
  r38 v1 v2 v3 (v4 + (1 : Int32)) ST
def f_MaskEdges_shift_38 (r38 : Int32 → Int32 → Int32 → Int32 → xSt → Option (Int32 × xSt)) (k91 : Int32 → xSt → Option (Int32 × xSt)) (v1 : Int32) (v2 : Int32) (v3 : Int32) (v4 : Int32) (ST : xSt) : Option (Int32 × xSt) :=
  if (X_pieceCount ST) ≤ v4 then
  k91 v3 ST
else
  if xin v4 120 = true then
    (f_Piece_fitsRule (X_pieces ST v4.toNatClampNeg) v1).bind fun c59 =>
      if c59 = 0 then
      (f_MaskEdges_shift_85 r38) v1 v2 v3 v4 ST
    else
      (f_Piece_moveTo ((Piece_move (X_pieces ST v4.toNatClampNeg)) + v2) (6 : Int32) (X_pieces ST v4.toNatClampNeg)).bind fun c76 =>
        if c76.1 = 0 then
        (f_MaskEdges_shift_85 r38) v1 v2 v3 v4 (X_u_pieces ST (va_up (X_pieces ST) v4.toNatClampNeg c76.2))
      else
        (f_MaskEdges_shift_85 r38) v1 v2 (v3 + (1 : Int32)) v4 (X_u_pieces ST (va_up (X_pieces ST) v4.toNatClampNeg c76.2))
  else none
def f_MaskEdges_shift_91 (v3 : Int32) (ST : xSt) : Option (Int32 × xSt) :=
  (f_MaskEdges_renewMask ST).bind fun c92 =>
  some (v3, c92)
def f_MaskEdges_shift (v1 : Int32) (v2 : Int32) (ST : xSt) : Option (Int32 × xSt) :=
  (f_MaskEdges_within v1 (0 : Int32) (3 : Int32)).bind fun c3 =>
  if c3 = 0 then
  some ((-2 : Int32), ST)
else
  (f_MaskEdges_within v2 (-6 : Int32) (6 : Int32)).bind fun c14 =>
    if c14 = 0 then
    some ((-2 : Int32), ST)
  else
    if (X_pieceCount ST) = 0 then
      some ((-3 : Int32), ST)
    else
      (xloop (fun r => f_MaskEdges_shift_38 r f_MaskEdges_shift_91) (fun _ _ _ _ _ => none) 100000) v1 v2 (0 : Int32) (0 : Int32) ST
set_option maxHeartbeats 4000000 in
set_option maxRecDepth 100000 in
theorem c_MaskEdges_shift (l : Launch) (X : xG) {H : Heap} (ad : Nat → Nat) (ST : xSt) (v1 : Int32) (v2 : Int32) {res : Int32 × xSt} (hP : va_P X.1 vwCl (wX X ad ST) H) (hA : okA ad) (hf : f_MaskEdges_shift v1 v2 ST = some res) : xM l y_MaskEdges_shift (Cond.code y_MaskEdges_shift prog_1_method_15_code 6 (some .int) :: xT) ({ frames := 4, cells := 0, slots := 0, locals := 93 } : Room) (xK X) [.ref (ad 0), .int v1, .int v2] H (xA ad) (some (.int res.1)) (fun H1 => va_P X.1 vwCl (wX X ad res.2) H1) := by
  refine Met.ofW (cc := prog_1_method_15_code) (maxL := 6) (ret := (some .int)) (by decide) rfl ?_
  intro p e s m args below meth c s₁ B hml hv
  obtain ⟨ha, hH, hKK⟩ := hv
  subst hH
  have hx := B.exec
  have hb := B.bytes
  have hr := B.returns
  have ht : ∀ w ∈ xT, w.before args s = true := fun w h => atoms_spec (ws := (Cond.code y_MaskEdges_shift prog_1_method_15_code 6 (some .int) :: xT)) B.pre w (List.mem_cons_of_mem _ h)
  have hown : s.vm.findClass "MaskEdges" = some m.cls := findClass_of_methodNamed B.named
  have hlocks := B.notSynchronized
  have hK := hKK.1
  rw [show entryFrame m args 6 = entryFrame m ([.ref (ad 0), .int v1, .int v2] : List Value).toArray 6 from by rw [ha]]
  clear ha
  have hS : va_S (xA ad) s.heap s.heap [] := va_S.rf
  have hl := lv_entry ([.ref (ad 0), .int v1, .int v2]) (n := 6) (Nat.le_of_ble_eq_true rfl)
  rw [lg_entry_eq]
  generalize (lg_sl ([.ref (ad 0), .int v1, .int v2]) ++ List.replicate (6 - (lg_sl ([.ref (ad 0), .int v1, .int v2])).length) Slot.unset).toArray = ls at hl ⊢
  replace hl : lv_has ls 6 [(0, .ref (ad 0)), (1, .int v1), (2, .int v2)] := hl
  refine x_Q (fun Q hQ => ?_)
  have hL85 : ∀ (r38 : Int32 → Int32 → Int32 → Int32 → xSt → Option (Int32 × xSt)) (hr38 : ∀ (v1 : Int32) (v2 : Int32) (v3 : Int32) (v4 : Int32) (ST : xSt), ∀ (H : Heap) (locs : List Loc), va_P X.1 vwCl (wX X ad ST) H → va_S (xA ad) s.heap H locs → ∀ (ls : Array Slot), lv_has ls 6 [(0, .ref (ad 0)), (1, .int v1), (2, .int v2), (3, .int v3), (4, .int v4)] → r38 v1 v2 v3 v4 ST = some res → W p l e (headSpec (Cond.code y_MaskEdges_shift prog_1_method_15_code 6 (some .int) :: xT) ({ frames := 4, cells := 0, slots := 0, locals := 93 } : Room)).room s m args below meth c H locs 0 0 Q (F0 m 38 ls [])), ∀ (v1 : Int32) (v2 : Int32) (v3 : Int32) (v4 : Int32) (ST : xSt), ∀ (H : Heap) (locs : List Loc), va_P X.1 vwCl (wX X ad ST) H → va_S (xA ad) s.heap H locs → ∀ (ls : Array Slot), lv_has ls 6 [(0, .ref (ad 0)), (1, .int v1), (2, .int v2), (3, .int v3), (4, .int v4)] → f_MaskEdges_shift_85 r38 v1 v2 v3 v4 ST = some res → W p l e (headSpec (Cond.code y_MaskEdges_shift prog_1_method_15_code 6 (some .int) :: xT) ({ frames := 4, cells := 0, slots := 0, locals := 93 } : Room)).room s m args below meth c H locs 0 0 Q (F0 m 85 ls []) := by
    intro r38 hr38 v1 v2 v3 v4 ST H locs hP hS ls hl hf
    unfold f_MaskEdges_shift_85 at hf
    refine lv_iinc (v := (v4 + (1 : Int32))) (lv' := [(4, .int (v4 + (1 : Int32))), (0, .ref (ad 0)), (1, .int v1), (2, .int v2), (3, .int v3)]) hx hb d_MaskEdges_shift_85 hl (k := 4) rfl rfl (by decide) rfl (fun ls hl => ?_)
    refine lv_goto (tgt := 38) hx hb d_MaskEdges_shift_88 (by decide) ?_
    exact hr38 v1 v2 v3 (v4 + (1 : Int32)) ST _ _ hP hS ls (lv_sub hl [1, 2, 3, 4, 0] rfl) hf
  have hL38 : ∀ (k91 : Int32 → xSt → Option (Int32 × xSt)) (hk91 : ∀ (v3 : Int32) (ST : xSt), ∀ (H : Heap) (locs : List Loc), va_P X.1 vwCl (wX X ad ST) H → va_S (xA ad) s.heap H locs → ∀ (ls : Array Slot), lv_has ls 6 [(0, .ref (ad 0)), (3, .int v3)] → k91 v3 ST = some res → W p l e (headSpec (Cond.code y_MaskEdges_shift prog_1_method_15_code 6 (some .int) :: xT) ({ frames := 4, cells := 0, slots := 0, locals := 93 } : Room)).room s m args below meth c H locs 0 0 Q (F0 m 91 ls [])), ∀ (n : Nat), ∀ (v1 : Int32) (v2 : Int32) (v3 : Int32) (v4 : Int32) (ST : xSt), ∀ (H : Heap) (locs : List Loc), va_P X.1 vwCl (wX X ad ST) H → va_S (xA ad) s.heap H locs → ∀ (ls : Array Slot), lv_has ls 6 [(0, .ref (ad 0)), (1, .int v1), (2, .int v2), (3, .int v3), (4, .int v4)] → (xloop (fun r => f_MaskEdges_shift_38 r k91) (fun _ _ _ _ _ => none) n) v1 v2 v3 v4 ST = some res → W p l e (headSpec (Cond.code y_MaskEdges_shift prog_1_method_15_code 6 (some .int) :: xT) ({ frames := 4, cells := 0, slots := 0, locals := 93 } : Room)).room s m args below meth c H locs 0 0 Q (F0 m 38 ls []) := by
    intro k91 hk91
    intro n
    induction n with
    | zero => intro v1 v2 v3 v4 ST H locs hP hS ls hl hf; cases hf
    | succ n ih =>
      intro v1 v2 v3 v4 ST H locs hP hS ls hl hf
      replace hf : f_MaskEdges_shift_38 (xloop (fun r => f_MaskEdges_shift_38 r k91) (fun _ _ _ _ _ => none) n) k91 v1 v2 v3 v4 ST = some res := hf
      have hr38 := ih
      clear ih
      unfold f_MaskEdges_shift_38 at hf
      refine lv_iload hx hb d_MaskEdges_shift_38 (lv_at hl 4 rfl) ?_
      refine lv_aload_n hx hb d_MaskEdges_shift_40 rfl (lv_at hl 0 rfl) ?_
      refine va_get (D := X.1) (ci := 5) (v := .int (X_pieceCount ST)) (C := "MaskEdges") (T := F_MaskEdges) (N := 14) hx hb ht in_MaskEdges hown hK hP 0 xg0 rfl 3 (by decide) (ht _ xw_158) (fun _ h9 => h9) rfl d_MaskEdges_shift_41 ?_
      refine lv_icmp_ge (tgt := 91) hx hb d_MaskEdges_shift_44 (by decide) (fun hc => ?_) (fun hc => ?_)
      · replace hf := x_t hc hf
        exact hk91 v3 ST _ _ hP hS ls (lv_sub hl [0, 3] rfl) hf
      · replace hf := x_f hc hf
        refine lv_aload_n hx hb d_MaskEdges_shift_47 rfl (lv_at hl 0 rfl) ?_
        refine va_get (D := X.1) (ci := 5) (v := .ref (ad 2)) (C := "MaskEdges") (T := F_MaskEdges) (N := 14) hx hb ht in_MaskEdges hown hK hP 0 xg0 rfl 2 (by decide) (ht _ xw_157) (fun _ h9 => h9) rfl d_MaskEdges_shift_48 ?_
        refine lv_iload hx hb d_MaskEdges_shift_51 (lv_at hl 4 rfl) ?_
        obtain ⟨g53, hf⟩ := x_g hf
        have hk53 := xin_lt g53
        refine va_aldq hx hb hK hP 2 3 xg2 rfl (xin_in g53) d_MaskEdges_shift_53 ?_
        refine W.eq (g2 := F0 m 54 ls [.ref (ad (28 + v4.toNatClampNeg))]) rfl ?_
        refine lv_astore (lv' := [(5, .ref (ad (28 + v4.toNatClampNeg))), (0, .ref (ad 0)), (1, .int v1), (2, .int v2), (3, .int v3), (4, .int v4)]) hx hb d_MaskEdges_shift_54 hl (by decide) rfl (fun ls hl => ?_)
        refine lv_aload hx hb d_MaskEdges_shift_56 (lv_at hl 0 rfl) ?_
        refine lv_iload_n hx hb d_MaskEdges_shift_58 rfl (lv_at hl 2 rfl) ?_
        obtain ⟨c59, e59, hf⟩ := x_b hf
        refine xcR (va_runV (As := [.int v1]) (rest := []) ⟨hx, hb, hml, hown, ht⟩ (c_Piece_fitsRule l X (ad (28 + v4.toNatClampNeg)) (X_pieces ST v4.toNatClampNeg) v1 (xs_pieces hk53 hP) e59) (cwV 1 ht (xgV xw_433 xw_434 xw_435 xw_42 xw_436) rfl rfl rfl (by decide +kernel) ⟨Nat.le_of_ble_eq_true rfl, Nat.le_of_ble_eq_true rfl⟩) (xPV hKK (va_recv hK hP (ci := 4) (q0 := (28 + v4.toNatClampNeg)) rfl (xg_pieces0 hk53))) rfl rfl hl.1 rfl (lv_room (Nat.le_of_ble_eq_true rfl)) d_MaskEdges_shift_59 ⟨Nat.zero_le _, Nat.zero_le _⟩) ?_
        refine W.eq (g2 := F0 m 62 ls [.int c59]) rfl ?_
        refine lv_if_eq (tgt := 85) hx hb d_MaskEdges_shift_62 (by decide) (fun hc => ?_) (fun hc => ?_)
        · replace hf := x_t hc hf
          exact (hL85 _ hr38) v1 v2 v3 v4 ST _ _ hP hS ls (lv_sub hl [1, 2, 3, 4, 5] rfl) hf
        · replace hf := x_f hc hf
          refine lv_aload hx hb d_MaskEdges_shift_65 (lv_at hl 0 rfl) ?_
          refine lv_aload hx hb d_MaskEdges_shift_67 (lv_at hl 0 rfl) ?_
          refine va_get (D := X.1) (ci := 4) (v := .int (Piece_move (X_pieces ST v4.toNatClampNeg))) (C := "MaskEdges$Piece") (T := F_Piece) (N := 12) hx hb ht in_Piece hown hK hP (28 + v4.toNatClampNeg) (xg_pieces0 hk53) rfl 11 (by decide) (ht _ xw_142) (fun _ h9 => h9) rfl d_MaskEdges_shift_69 ?_
          refine lv_iload_n hx hb d_MaskEdges_shift_72 rfl (lv_at hl 3 rfl) ?_
          refine lv_iadd hx hb d_MaskEdges_shift_73 ?_
          refine lv_bipush (v := (6 : Int32)) hx hb d_MaskEdges_shift_74 (by decide) ?_
          obtain ⟨c76, e76, hf⟩ := x_b hf
          refine xc (va_runV (As := [.int ((Piece_move (X_pieces ST v4.toNatClampNeg)) + v2), .int (6 : Int32)]) (rest := []) ⟨hx, hb, hml, hown, ht⟩ (c_Piece_moveTo l X (ad (28 + v4.toNatClampNeg)) (X_pieces ST v4.toNatClampNeg) ((Piece_move (X_pieces ST v4.toNatClampNeg)) + v2) (6 : Int32) (xs_pieces hk53 hP) (xnd1 _) e76) (cwV 2 ht (xgV xw_367 xw_368 xw_369 xw_42 xw_370) rfl rfl rfl (by decide +kernel) ⟨Nat.le_of_ble_eq_true rfl, Nat.le_of_ble_eq_true rfl⟩) (xPV hKK (va_recv hK hP (ci := 4) (q0 := (28 + v4.toNatClampNeg)) rfl (xg_pieces0 hk53))) rfl rfl hl.1 rfl (lv_room (Nat.le_of_ble_eq_true rfl)) d_MaskEdges_shift_76 ⟨Nat.zero_le _, Nat.zero_le _⟩) (fun H1 L hq hz => ?_)
          replace hS := xS_call hS hz (fun q h => by
          simp only [xAl, List.mem_cons, List.mem_nil_iff, or_false] at h
          rcases h with rfl <;> exact xA_in _ (by omega))
          replace hP := xu_pieces hk53 hA hP hq hz
          clear hq hz
          refine W.eq (g2 := F0 m 79 ls [.int c76.1]) rfl ?_
          refine lv_if_eq (tgt := 85) hx hb d_MaskEdges_shift_79 (by decide) (fun hc => ?_) (fun hc => ?_)
          · replace hf := x_t hc hf
            exact (hL85 _ hr38) v1 v2 v3 v4 (X_u_pieces ST (va_up (X_pieces ST) v4.toNatClampNeg c76.2)) _ _ hP hS ls (lv_sub hl [1, 2, 3, 4, 5] rfl) hf
          · replace hf := x_f hc hf
            refine lv_iinc (v := (v3 + (1 : Int32))) (lv' := [(3, .int (v3 + (1 : Int32))), (5, .ref (ad (28 + v4.toNatClampNeg))), (0, .ref (ad 0)), (1, .int v1), (2, .int v2), (4, .int v4)]) hx hb d_MaskEdges_shift_82 hl (k := 4) rfl rfl (by decide) rfl (fun ls hl => ?_)
            exact (hL85 _ hr38) v1 v2 (v3 + (1 : Int32)) v4 (X_u_pieces ST (va_up (X_pieces ST) v4.toNatClampNeg c76.2)) _ _ hP hS ls (lv_sub hl [2, 3, 4, 0, 5] rfl) hf
  have hL91 : ∀ (v3 : Int32) (ST : xSt), ∀ (H : Heap) (locs : List Loc), va_P X.1 vwCl (wX X ad ST) H → va_S (xA ad) s.heap H locs → ∀ (ls : Array Slot), lv_has ls 6 [(0, .ref (ad 0)), (3, .int v3)] → f_MaskEdges_shift_91 v3 ST = some res → W p l e (headSpec (Cond.code y_MaskEdges_shift prog_1_method_15_code 6 (some .int) :: xT) ({ frames := 4, cells := 0, slots := 0, locals := 93 } : Room)).room s m args below meth c H locs 0 0 Q (F0 m 91 ls []) := by
    intro v3 ST H locs hP hS ls hl hf
    unfold f_MaskEdges_shift_91 at hf
    refine lv_aload_n hx hb d_MaskEdges_shift_91 rfl (lv_at hl 0 rfl) ?_
    obtain ⟨c92, e92, hf⟩ := x_b hf
    refine xc (va_runV (As := []) (rest := []) ⟨hx, hb, hml, hown, ht⟩ (c_MaskEdges_renewMask l X ad ST hP hA e92) (cwV 0 ht (xgV xw_226 xw_227 xw_2 xw_37 xw_228) rfl rfl rfl (by decide +kernel) ⟨Nat.le_of_ble_eq_true rfl, Nat.le_of_ble_eq_true rfl⟩) (xPV hKK (va_recv hK hP (ci := 5) (q0 := 0) rfl xg0)) rfl rfl hl.1 rfl (lv_room (Nat.le_of_ble_eq_true rfl)) d_MaskEdges_shift_92 ⟨Nat.zero_le _, Nat.zero_le _⟩) (fun H1 L hq hz => ?_)
    replace hS := xS_call hS hz (fun _ h => h)
    replace hP : va_P X.1 vwCl (wX X ad c92) H1 := hq
    clear hq hz
    refine W.eq (g2 := F0 m 95 ls []) rfl ?_
    refine lv_iload_n hx hb d_MaskEdges_shift_95 rfl (lv_at hl 1 rfl) ?_
    replace hf := x_s hf
    subst hf
    subst hQ
    exact W.iret (v := v3) hx hb hr (fun t ht hW => ⟨⟨rfl, by rw [ht]; exact hP⟩, hS.F ht⟩) hS.2.2 d_MaskEdges_shift_96
  unfold f_MaskEdges_shift at hf
  refine lv_iload_n hx hb d_MaskEdges_shift_0 rfl (lv_at hl 1 rfl) ?_
  refine lv_iconst (v := (0 : Int32)) hx hb d_MaskEdges_shift_1 (by decide) ?_
  refine lv_iconst (v := (3 : Int32)) hx hb d_MaskEdges_shift_2 (by decide) ?_
  obtain ⟨c3, e3, hf⟩ := x_b hf
  refine xcR (va_runS (As := [.int v1, .int (0 : Int32), .int (3 : Int32)]) (rest := []) ⟨hx, hb, hml, hown, ht⟩ (c_MaskEdges_within l X v1 (0 : Int32) (3 : Int32) e3) (cwS 3 ht (xgS xw_263 xw_264 xw_37 xw_265) rfl rfl rfl (by decide +kernel) ⟨Nat.le_of_ble_eq_true rfl, Nat.le_of_ble_eq_true rfl⟩) (xPS hKK) rfl rfl hl.1 rfl (lv_room (Nat.le_of_ble_eq_true rfl)) d_MaskEdges_shift_3 ⟨Nat.zero_le _, Nat.zero_le _⟩) ?_
  refine W.eq (g2 := F0 m 6 ls [.int c3]) rfl ?_
  refine lv_if_eq (tgt := 20) hx hb d_MaskEdges_shift_6 (by decide) (fun hc => ?_) (fun hc => ?_)
  · replace hf := x_t hc hf
    refine lv_bipush (v := (-2 : Int32)) hx hb d_MaskEdges_shift_20 (by decide) ?_
    replace hf := x_s hf
    subst hf
    subst hQ
    exact W.iret (v := (-2 : Int32)) hx hb hr (fun t ht hW => ⟨⟨rfl, by rw [ht]; exact hP⟩, hS.F ht⟩) hS.2.2 d_MaskEdges_shift_22
  · replace hf := x_f hc hf
    refine lv_iload_n hx hb d_MaskEdges_shift_9 rfl (lv_at hl 2 rfl) ?_
    refine lv_bipush (v := (-6 : Int32)) hx hb d_MaskEdges_shift_10 (by decide) ?_
    refine lv_bipush (v := (6 : Int32)) hx hb d_MaskEdges_shift_12 (by decide) ?_
    obtain ⟨c14, e14, hf⟩ := x_b hf
    refine xcR (va_runS (As := [.int v2, .int (-6 : Int32), .int (6 : Int32)]) (rest := []) ⟨hx, hb, hml, hown, ht⟩ (c_MaskEdges_within l X v2 (-6 : Int32) (6 : Int32) e14) (cwS 3 ht (xgS xw_263 xw_264 xw_37 xw_265) rfl rfl rfl (by decide +kernel) ⟨Nat.le_of_ble_eq_true rfl, Nat.le_of_ble_eq_true rfl⟩) (xPS hKK) rfl rfl hl.1 rfl (lv_room (Nat.le_of_ble_eq_true rfl)) d_MaskEdges_shift_14 ⟨Nat.zero_le _, Nat.zero_le _⟩) ?_
    refine W.eq (g2 := F0 m 17 ls [.int c14]) rfl ?_
    refine lv_if_ne (tgt := 23) hx hb d_MaskEdges_shift_17 (by decide) (fun hc => ?_) (fun hc => ?_)
    · replace hf := x_f hc hf
      refine lv_aload_n hx hb d_MaskEdges_shift_23 rfl (lv_at hl 0 rfl) ?_
      refine va_get (D := X.1) (ci := 5) (v := .int (X_pieceCount ST)) (C := "MaskEdges") (T := F_MaskEdges) (N := 14) hx hb ht in_MaskEdges hown hK hP 0 xg0 rfl 3 (by decide) (ht _ xw_158) (fun _ h9 => h9) rfl d_MaskEdges_shift_24 ?_
      refine lv_if_ne (tgt := 33) hx hb d_MaskEdges_shift_27 (by decide) (fun hc => ?_) (fun hc => ?_)
      · replace hf := x_f hc hf
        refine lv_iconst (v := (0 : Int32)) hx hb d_MaskEdges_shift_33 (by decide) ?_
        refine lv_istore_n (lv' := [(3, .int (0 : Int32)), (0, .ref (ad 0)), (1, .int v1), (2, .int v2)]) hx hb d_MaskEdges_shift_34 rfl hl (by decide) rfl (fun ls hl => ?_)
        refine lv_iconst (v := (0 : Int32)) hx hb d_MaskEdges_shift_35 (by decide) ?_
        refine lv_istore (lv' := [(4, .int (0 : Int32)), (3, .int (0 : Int32)), (0, .ref (ad 0)), (1, .int v1), (2, .int v2)]) hx hb d_MaskEdges_shift_36 hl (by decide) rfl (fun ls hl => ?_)
        exact (hL38 _ hL91 100000) v1 v2 (0 : Int32) (0 : Int32) ST _ _ hP hS ls (lv_sub hl [2, 3, 4, 1, 0] rfl) hf
      · replace hf := x_t hc hf
        refine lv_bipush (v := (-3 : Int32)) hx hb d_MaskEdges_shift_30 (by decide) ?_
        replace hf := x_s hf
        subst hf
        subst hQ
        exact W.iret (v := (-3 : Int32)) hx hb hr (fun t ht hW => ⟨⟨rfl, by rw [ht]; exact hP⟩, hS.F ht⟩) hS.2.2 d_MaskEdges_shift_32
    · replace hf := x_t hc hf
      refine lv_bipush (v := (-2 : Int32)) hx hb d_MaskEdges_shift_20 (by decide) ?_
      replace hf := x_s hf
      subst hf
      subst hQ
      exact W.iret (v := (-2 : Int32)) hx hb hr (fun t ht hW => ⟨⟨rfl, by rw [ht]; exact hP⟩, hS.F ht⟩) hS.2.2 d_MaskEdges_shift_22
def f_MaskEdges_is (ST : xSt) (v1 : Int32) (v2 : Int32) (v3 : Int32) : Option (Int32) :=
  if v3 = (0 : Int32) then
  (f_CellSet_has (X_target ST) v1 v2).bind fun c34 =>
    if xz c34 = true then
    some c34
  else none
else
  if v3 = (1 : Int32) then
    (f_CellSet_has (X_mask ST) v1 v2).bind fun c44 =>
      if xz c44 = true then
      some c44
    else none
  else
    if v3 = (2 : Int32) then
      (f_Exposure_printsAt (X_exposure ST) (X_mask ST) v1 v2 (100 : Int32)).bind fun c60 =>
        if xz c60 = true then
        some c60
      else none
    else
      some (0 : Int32)
set_option maxHeartbeats 4000000 in
set_option maxRecDepth 100000 in
theorem c_MaskEdges_is (l : Launch) (X : xG) {H : Heap} (ad : Nat → Nat) (ST : xSt) (v1 : Int32) (v2 : Int32) (v3 : Int32) {res : Int32} (hP : va_P X.1 vwCl (wX X ad ST) H) (hf : f_MaskEdges_is ST v1 v2 v3 = some res) : xM l y_MaskEdges_is (Cond.code y_MaskEdges_is prog_1_method_16_code 4 (some .boolean) :: xT) ({ frames := 4, cells := 0, slots := 0, locals := 100 } : Room) (xK X) [.ref (ad 0), .int v1, .int v2, .int v3] H xNo (some (.int res)) (fun H1 => H1 = H) := by
  refine Met.ofW (cc := prog_1_method_16_code) (maxL := 4) (ret := (some .boolean)) (by decide) rfl ?_
  intro p e s m args below meth c s₁ B hml hv
  obtain ⟨ha, hH, hKK⟩ := hv
  subst hH
  have hx := B.exec
  have hb := B.bytes
  have hr := B.returns
  have ht : ∀ w ∈ xT, w.before args s = true := fun w h => atoms_spec (ws := (Cond.code y_MaskEdges_is prog_1_method_16_code 4 (some .boolean) :: xT)) B.pre w (List.mem_cons_of_mem _ h)
  have hown : s.vm.findClass "MaskEdges" = some m.cls := findClass_of_methodNamed B.named
  have hlocks := B.notSynchronized
  have hK := hKK.1
  rw [show entryFrame m args 4 = entryFrame m ([.ref (ad 0), .int v1, .int v2, .int v3] : List Value).toArray 4 from by rw [ha]]
  clear ha
  have hl := lv_entry ([.ref (ad 0), .int v1, .int v2, .int v3]) (n := 4) (Nat.le_of_ble_eq_true rfl)
  rw [lg_entry_eq]
  generalize (lg_sl ([.ref (ad 0), .int v1, .int v2, .int v3]) ++ List.replicate (4 - (lg_sl ([.ref (ad 0), .int v1, .int v2, .int v3])).length) Slot.unset).toArray = ls at hl ⊢
  replace hl : lv_has ls 4 [(0, .ref (ad 0)), (1, .int v1), (2, .int v2), (3, .int v3)] := hl
  refine x_Q (fun Q hQ => ?_)
  unfold f_MaskEdges_is at hf
  refine lv_iload_n hx hb d_MaskEdges_is_0 rfl (lv_at hl 3 rfl) ?_
  by_cases c1 : v3 = (0 : Int32)
  · replace hf := x_t c1 hf
    refine lv_tableIn (x := v3) (off := 27) (tgt := 28) hx hb d_MaskEdges_is_1 (by rw [c1]; decide) (by rw [c1]; decide) (by rw [c1]; decide +kernel) (by decide) ?_
    refine lv_aload_n hx hb d_MaskEdges_is_28 rfl (lv_at hl 0 rfl) ?_
    refine va_get (D := X.1) (ci := 5) (v := .ref (ad 5)) (C := "MaskEdges") (T := F_MaskEdges) (N := 14) hx hb ht in_MaskEdges hown hK hP 0 xg0 rfl 7 (by decide) (ht _ xw_162) (fun _ h9 => h9) rfl d_MaskEdges_is_29 ?_
    refine lv_iload_n hx hb d_MaskEdges_is_32 rfl (lv_at hl 1 rfl) ?_
    refine lv_iload_n hx hb d_MaskEdges_is_33 rfl (lv_at hl 2 rfl) ?_
    obtain ⟨c34, e34, hf⟩ := x_b hf
    refine xcR (va_runV (As := [.int v1, .int v2]) (rest := []) ⟨hx, hb, hml, hown, ht⟩ (c_CellSet_has l X (ad 5) (ad 6) (X_target ST) v1 v2 (xs_target hP) e34) (cwV 2 ht (xgV xw_425 xw_426 xw_427 xw_38 xw_428) rfl rfl rfl (by decide +kernel) ⟨Nat.le_of_ble_eq_true rfl, Nat.le_of_ble_eq_true rfl⟩) (xPV hKK (va_recv hK hP (ci := 1) (q0 := 5) rfl xg5)) rfl rfl hl.1 rfl (lv_room (Nat.le_of_ble_eq_true rfl)) d_MaskEdges_is_34 ⟨Nat.zero_le _, Nat.zero_le _⟩) ?_
    refine W.eq (g2 := F0 m 37 ls [.int c34]) rfl ?_
    obtain ⟨zr, hf⟩ := x_g hf
    replace hf := x_s hf
    subst hf
    subst hQ
    exact W.zret (v := c34) hx hb hr (xz_n zr) (fun t ht hW => ⟨⟨rfl, ht⟩, x_F0 ht⟩) x_l0 d_MaskEdges_is_37
  replace hf := x_f c1 hf
  have n1_0 := c1
  clear c1
  by_cases c1 : v3 = (1 : Int32)
  · replace hf := x_t c1 hf
    refine lv_tableIn (x := v3) (off := 37) (tgt := 38) hx hb d_MaskEdges_is_1 (by rw [c1]; decide) (by rw [c1]; decide) (by rw [c1]; decide +kernel) (by decide) ?_
    refine lv_aload_n hx hb d_MaskEdges_is_38 rfl (lv_at hl 0 rfl) ?_
    refine va_get (D := X.1) (ci := 5) (v := .ref (ad 9)) (C := "MaskEdges") (T := F_MaskEdges) (N := 14) hx hb ht in_MaskEdges hown hK hP 0 xg0 rfl 9 (by decide) (ht _ xw_164) (fun _ h9 => h9) rfl d_MaskEdges_is_39 ?_
    refine lv_iload_n hx hb d_MaskEdges_is_42 rfl (lv_at hl 1 rfl) ?_
    refine lv_iload_n hx hb d_MaskEdges_is_43 rfl (lv_at hl 2 rfl) ?_
    obtain ⟨c44, e44, hf⟩ := x_b hf
    refine xcR (va_runV (As := [.int v1, .int v2]) (rest := []) ⟨hx, hb, hml, hown, ht⟩ (c_CellSet_has l X (ad 9) (ad 10) (X_mask ST) v1 v2 (xs_mask hP) e44) (cwV 2 ht (xgV xw_425 xw_426 xw_427 xw_38 xw_428) rfl rfl rfl (by decide +kernel) ⟨Nat.le_of_ble_eq_true rfl, Nat.le_of_ble_eq_true rfl⟩) (xPV hKK (va_recv hK hP (ci := 1) (q0 := 9) rfl xg9)) rfl rfl hl.1 rfl (lv_room (Nat.le_of_ble_eq_true rfl)) d_MaskEdges_is_44 ⟨Nat.zero_le _, Nat.zero_le _⟩) ?_
    refine W.eq (g2 := F0 m 47 ls [.int c44]) rfl ?_
    obtain ⟨zr, hf⟩ := x_g hf
    replace hf := x_s hf
    subst hf
    subst hQ
    exact W.zret (v := c44) hx hb hr (xz_n zr) (fun t ht hW => ⟨⟨rfl, ht⟩, x_F0 ht⟩) x_l0 d_MaskEdges_is_47
  replace hf := x_f c1 hf
  have n1_1 := c1
  clear c1
  by_cases c1 : v3 = (2 : Int32)
  · replace hf := x_t c1 hf
    refine lv_tableIn (x := v3) (off := 47) (tgt := 48) hx hb d_MaskEdges_is_1 (by rw [c1]; decide) (by rw [c1]; decide) (by rw [c1]; decide +kernel) (by decide) ?_
    refine lv_aload_n hx hb d_MaskEdges_is_48 rfl (lv_at hl 0 rfl) ?_
    refine va_get (D := X.1) (ci := 5) (v := .ref (ad 11)) (C := "MaskEdges") (T := F_MaskEdges) (N := 14) hx hb ht in_MaskEdges hown hK hP 0 xg0 rfl 10 (by decide) (ht _ xw_165) (fun _ h9 => h9) rfl d_MaskEdges_is_49 ?_
    refine lv_aload_n hx hb d_MaskEdges_is_52 rfl (lv_at hl 0 rfl) ?_
    refine va_get (D := X.1) (ci := 5) (v := .ref (ad 9)) (C := "MaskEdges") (T := F_MaskEdges) (N := 14) hx hb ht in_MaskEdges hown hK hP 0 xg0 rfl 9 (by decide) (ht _ xw_164) (fun _ h9 => h9) rfl d_MaskEdges_is_53 ?_
    refine lv_iload_n hx hb d_MaskEdges_is_56 rfl (lv_at hl 1 rfl) ?_
    refine lv_iload_n hx hb d_MaskEdges_is_57 rfl (lv_at hl 2 rfl) ?_
    refine lv_bipush (v := (100 : Int32)) hx hb d_MaskEdges_is_58 (by decide) ?_
    obtain ⟨c60, e60, hf⟩ := x_b hf
    refine xcR (va_runV (As := [.ref (ad 9), .int v1, .int v2, .int (100 : Int32)]) (rest := []) ⟨hx, hb, hml, hown, ht⟩ (c_Exposure_printsAt l X (ad 11) (ad 12) (ad 13) (X_exposure ST) (ad 9) (ad 10) (X_mask ST) v1 v2 (100 : Int32) (xs_exposure hP) (xs_mask hP) e60) (cwV 4 ht (xgV xw_345 xw_346 xw_347 xw_39 xw_348) rfl rfl rfl (by decide +kernel) ⟨Nat.le_of_ble_eq_true rfl, Nat.le_of_ble_eq_true rfl⟩) (xPV hKK (va_recv hK hP (ci := 2) (q0 := 11) rfl xg11)) rfl rfl hl.1 rfl (lv_room (Nat.le_of_ble_eq_true rfl)) d_MaskEdges_is_60 ⟨Nat.zero_le _, Nat.zero_le _⟩) ?_
    refine W.eq (g2 := F0 m 63 ls [.int c60]) rfl ?_
    obtain ⟨zr, hf⟩ := x_g hf
    replace hf := x_s hf
    subst hf
    subst hQ
    exact W.zret (v := c60) hx hb hr (xz_n zr) (fun t ht hW => ⟨⟨rfl, ht⟩, x_F0 ht⟩) x_l0 d_MaskEdges_is_63
  replace hf := x_f c1 hf
  have n1_2 := c1
  clear c1
  refine lv_tableOut (x := v3) (tgt := 64) hx hb d_MaskEdges_is_1 (x_out (by decide) (by decide) (fun j h1 h2 => by
        obtain h | h | h : j = 0 ∨ j = 1 ∨ j = 2 := by omega
        · subst h; exact n1_0
        · subst h; exact n1_1
        · subst h; exact n1_2)) (by decide) ?_
  refine lv_iconst (v := (0 : Int32)) hx hb d_MaskEdges_is_64 (by decide) ?_
  replace hf := x_s hf
  subst hf
  subst hQ
  exact W.zret (v := (0 : Int32)) hx hb hr (xz_n (by decide)) (fun t ht hW => ⟨⟨rfl, ht⟩, x_F0 ht⟩) x_l0 d_MaskEdges_is_65
