def f_MaskEdges_isPiece (ST : xSt) (v1 : Int32) : Option (Int32) :=
  if v1 < 0 then
  some (0 : Int32)
else
  if (X_pieceCount ST) ≤ v1 then
    some (0 : Int32)
  else
    some (1 : Int32)
set_option maxHeartbeats 4000000 in
set_option maxRecDepth 100000 in
theorem c_MaskEdges_isPiece (l : Launch) (X : xG) {H : Heap} (ad : Nat → Nat) (ST : xSt) (v1 : Int32) {res : Int32} (hP : va_P X.1 vwCl (wX X ad ST) H) (hf : f_MaskEdges_isPiece ST v1 = some res) : xM l y_MaskEdges_isPiece (Cond.code y_MaskEdges_isPiece prog_1_method_21_code 2 (some .boolean) :: xT) ({ frames := 0, cells := 0, slots := 0, locals := 0 } : Room) (xK X) [.ref (ad 0), .int v1] H xNo (some (.int res)) (fun H1 => H1 = H) := by
  refine Met.ofW (cc := prog_1_method_21_code) (maxL := 2) (ret := (some .boolean)) (by decide) rfl ?_
  intro p e s m args below meth c s₁ B hml hv
  obtain ⟨ha, hH, hKK⟩ := hv
  subst hH
  have hx := B.exec
  have hb := B.bytes
  have hr := B.returns
  have ht : ∀ w ∈ xT, w.before args s = true := fun w h => atoms_spec (ws := (Cond.code y_MaskEdges_isPiece prog_1_method_21_code 2 (some .boolean) :: xT)) B.pre w (List.mem_cons_of_mem _ h)
  have hown : s.vm.findClass "MaskEdges" = some m.cls := findClass_of_methodNamed B.named
  have hlocks := B.notSynchronized
  have hK := hKK.1
  rw [show entryFrame m args 2 = entryFrame m ([.ref (ad 0), .int v1] : List Value).toArray 2 from by rw [ha]]
  clear ha
  have hl := lv_entry ([.ref (ad 0), .int v1]) (n := 2) (Nat.le_of_ble_eq_true rfl)
  rw [lg_entry_eq]
  generalize (lg_sl ([.ref (ad 0), .int v1]) ++ List.replicate (2 - (lg_sl ([.ref (ad 0), .int v1])).length) Slot.unset).toArray = ls at hl ⊢
  replace hl : lv_has ls 2 [(0, .ref (ad 0)), (1, .int v1)] := hl
  refine x_Q (fun Q hQ => ?_)
  unfold f_MaskEdges_isPiece at hf
  refine lv_iload_n hx hb d_MaskEdges_isPiece_0 rfl (lv_at hl 1 rfl) ?_
  refine lv_if_lt (tgt := 16) hx hb d_MaskEdges_isPiece_1 (by decide) (fun hc => ?_) (fun hc => ?_)
  · replace hf := x_t hc hf
    refine lv_iconst (v := (0 : Int32)) hx hb d_MaskEdges_isPiece_16 (by decide) ?_
    replace hf := x_s hf
    subst hf
    subst hQ
    exact W.zret (v := (0 : Int32)) hx hb hr (xz_n (by decide)) (fun t ht hW => ⟨⟨rfl, ht⟩, x_F0 ht⟩) x_l0 d_MaskEdges_isPiece_17
  · replace hf := x_f hc hf
    refine lv_iload_n hx hb d_MaskEdges_isPiece_4 rfl (lv_at hl 1 rfl) ?_
    refine lv_aload_n hx hb d_MaskEdges_isPiece_5 rfl (lv_at hl 0 rfl) ?_
    refine va_get (D := X.1) (ci := 5) (v := .int (X_pieceCount ST)) (C := "MaskEdges") (T := F_MaskEdges) (N := 14) hx hb ht in_MaskEdges hown hK hP 0 xg0 rfl 3 (by decide) (ht _ xw_158) (fun _ h9 => h9) rfl d_MaskEdges_isPiece_6 ?_
    refine lv_icmp_ge (tgt := 16) hx hb d_MaskEdges_isPiece_9 (by decide) (fun hc => ?_) (fun hc => ?_)
    · replace hf := x_t hc hf
      refine lv_iconst (v := (0 : Int32)) hx hb d_MaskEdges_isPiece_16 (by decide) ?_
      replace hf := x_s hf
      subst hf
      subst hQ
      exact W.zret (v := (0 : Int32)) hx hb hr (xz_n (by decide)) (fun t ht hW => ⟨⟨rfl, ht⟩, x_F0 ht⟩) x_l0 d_MaskEdges_isPiece_17
    · replace hf := x_f hc hf
      refine lv_iconst (v := (1 : Int32)) hx hb d_MaskEdges_isPiece_12 (by decide) ?_
      refine lv_goto (tgt := 17) hx hb d_MaskEdges_isPiece_13 (by decide) ?_
      replace hf := x_s hf
      subst hf
      subst hQ
      exact W.zret (v := (1 : Int32)) hx hb hr (xz_n (by decide)) (fun t ht hW => ⟨⟨rfl, ht⟩, x_F0 ht⟩) x_l0 d_MaskEdges_isPiece_17
def f_MaskEdges_applyMove (k1 : Nat) (ST : xSt) : Option (xSt) :=
  if (Piece_move (X_pieces ST k1)) ≤ 0 then
  if 0 ≤ (Piece_move (X_pieces ST k1)) then
    some ST
  else
    (f_Box_layBeside (X_pieces ST k1) (Piece_low (X_pieces ST k1)) (Piece_high (X_pieces ST k1)) (-(Piece_outward (X_pieces ST k1))) (0 : Int32) (-(Piece_move (X_pieces ST k1))) (X_box ST)).bind fun c77 =>
      (f_CellSet_removeBox (X_box (X_u_box ST c77)) (X_mask (X_u_box ST c77))).bind fun c88 =>
      some (X_u_mask (X_u_box ST c77) c88)
else
  (f_Box_layBeside (X_pieces ST k1) (Piece_low (X_pieces ST k1)) (Piece_high (X_pieces ST k1)) (Piece_outward (X_pieces ST k1)) (0 : Int32) (Piece_move (X_pieces ST k1)) (X_box ST)).bind fun c29 =>
    (f_CellSet_addBox (X_box (X_u_box ST c29)) (X_mask (X_u_box ST c29))).bind fun c40 =>
    some (X_u_mask (X_u_box ST c29) c40)
set_option maxHeartbeats 4000000 in
set_option maxRecDepth 100000 in
theorem c_MaskEdges_applyMove (l : Launch) (X : xG) {H : Heap} (ad : Nat → Nat) (ST : xSt) (k1 : Nat) {res : xSt} (hP : va_P X.1 vwCl (wX X ad ST) H) (hA : okA ad) (hk1 : k1 < 120) (hf : f_MaskEdges_applyMove k1 ST = some res) : xM l y_MaskEdges_applyMove (Cond.code y_MaskEdges_applyMove prog_1_method_24_code 2 none :: xT) ({ frames := 2, cells := 0, slots := 0, locals := 51 } : Room) (xK X) [.ref (ad 0), .ref (ad (28 + k1))] H (xA ad) none (fun H1 => va_P X.1 vwCl (wX X ad res) H1) := by
  refine Met.ofW (cc := prog_1_method_24_code) (maxL := 2) (ret := none) (by decide) rfl ?_
  intro p e s m args below meth c s₁ B hml hv
  obtain ⟨ha, hH, hKK⟩ := hv
  subst hH
  have hx := B.exec
  have hb := B.bytes
  have hr := B.returns
  have ht : ∀ w ∈ xT, w.before args s = true := fun w h => atoms_spec (ws := (Cond.code y_MaskEdges_applyMove prog_1_method_24_code 2 none :: xT)) B.pre w (List.mem_cons_of_mem _ h)
  have hown : s.vm.findClass "MaskEdges" = some m.cls := findClass_of_methodNamed B.named
  have hlocks := B.notSynchronized
  have hK := hKK.1
  rw [show entryFrame m args 2 = entryFrame m ([.ref (ad 0), .ref (ad (28 + k1))] : List Value).toArray 2 from by rw [ha]]
  clear ha
  have hS : va_S (xA ad) s.heap s.heap [] := va_S.rf
  have hl := lv_entry ([.ref (ad 0), .ref (ad (28 + k1))]) (n := 2) (Nat.le_of_ble_eq_true rfl)
  rw [lg_entry_eq]
  generalize (lg_sl ([.ref (ad 0), .ref (ad (28 + k1))]) ++ List.replicate (2 - (lg_sl ([.ref (ad 0), .ref (ad (28 + k1))])).length) Slot.unset).toArray = ls at hl ⊢
  replace hl : lv_has ls 2 [(0, .ref (ad 0)), (1, .ref (ad (28 + k1)))] := hl
  refine x_Q (fun Q hQ => ?_)
  unfold f_MaskEdges_applyMove at hf
  refine lv_aload_n hx hb d_MaskEdges_applyMove_0 rfl (lv_at hl 1 rfl) ?_
  refine va_get (D := X.1) (ci := 4) (v := .int (Piece_move (X_pieces ST k1))) (C := "MaskEdges$Piece") (T := F_Piece) (N := 12) hx hb ht in_Piece hown hK hP (28 + k1) (xg_pieces0 hk1) rfl 11 (by decide) (ht _ xw_142) (fun _ h9 => h9) rfl d_MaskEdges_applyMove_1 ?_
  refine lv_if_le (tgt := 46) hx hb d_MaskEdges_applyMove_4 (by decide) (fun hc => ?_) (fun hc => ?_)
  · replace hf := x_t hc hf
    refine lv_aload_n hx hb d_MaskEdges_applyMove_46 rfl (lv_at hl 1 rfl) ?_
    refine va_get (D := X.1) (ci := 4) (v := .int (Piece_move (X_pieces ST k1))) (C := "MaskEdges$Piece") (T := F_Piece) (N := 12) hx hb ht in_Piece hown hK hP (28 + k1) (xg_pieces0 hk1) rfl 11 (by decide) (ht _ xw_142) (fun _ h9 => h9) rfl d_MaskEdges_applyMove_47 ?_
    refine lv_if_ge (tgt := 91) hx hb d_MaskEdges_applyMove_50 (by decide) (fun hc => ?_) (fun hc => ?_)
    · replace hf := x_t hc hf
      replace hf := x_s hf
      subst hf
      subst hQ
      exact W.vret hx hb hr (fun t ht hW => ⟨⟨rfl, by rw [ht]; exact hP⟩, hS.F ht⟩) hS.2.2 d_MaskEdges_applyMove_91
    · replace hf := x_f hc hf
      refine lv_aload_n hx hb d_MaskEdges_applyMove_53 rfl (lv_at hl 0 rfl) ?_
      refine va_get (D := X.1) (ci := 5) (v := .ref (ad 15)) (C := "MaskEdges") (T := F_MaskEdges) (N := 14) hx hb ht in_MaskEdges hown hK hP 0 xg0 rfl 13 (by decide) (ht _ xw_168) (fun _ h9 => h9) rfl d_MaskEdges_applyMove_54 ?_
      refine lv_aload_n hx hb d_MaskEdges_applyMove_57 rfl (lv_at hl 1 rfl) ?_
      refine lv_aload_n hx hb d_MaskEdges_applyMove_58 rfl (lv_at hl 1 rfl) ?_
      refine va_get (D := X.1) (ci := 4) (v := .int (Piece_low (X_pieces ST k1))) (C := "MaskEdges$Piece") (T := F_Piece) (N := 12) hx hb ht in_Piece hown hK hP (28 + k1) (xg_pieces0 hk1) rfl 2 (by decide) (ht _ xw_126) (fun _ h9 => h9) rfl d_MaskEdges_applyMove_59 ?_
      refine lv_aload_n hx hb d_MaskEdges_applyMove_62 rfl (lv_at hl 1 rfl) ?_
      refine va_get (D := X.1) (ci := 4) (v := .int (Piece_high (X_pieces ST k1))) (C := "MaskEdges$Piece") (T := F_Piece) (N := 12) hx hb ht in_Piece hown hK hP (28 + k1) (xg_pieces0 hk1) rfl 3 (by decide) (ht _ xw_128) (fun _ h9 => h9) rfl d_MaskEdges_applyMove_63 ?_
      refine lv_aload_n hx hb d_MaskEdges_applyMove_66 rfl (lv_at hl 1 rfl) ?_
      refine va_get (D := X.1) (ci := 4) (v := .int (Piece_outward (X_pieces ST k1))) (C := "MaskEdges$Piece") (T := F_Piece) (N := 12) hx hb ht in_Piece hown hK hP (28 + k1) (xg_pieces0 hk1) rfl 8 (by decide) (ht _ xw_136) (fun _ h9 => h9) rfl d_MaskEdges_applyMove_67 ?_
      refine lv_ineg hx hb d_MaskEdges_applyMove_70 ?_
      refine lv_iconst (v := (0 : Int32)) hx hb d_MaskEdges_applyMove_71 (by decide) ?_
      refine lv_aload_n hx hb d_MaskEdges_applyMove_72 rfl (lv_at hl 1 rfl) ?_
      refine va_get (D := X.1) (ci := 4) (v := .int (Piece_move (X_pieces ST k1))) (C := "MaskEdges$Piece") (T := F_Piece) (N := 12) hx hb ht in_Piece hown hK hP (28 + k1) (xg_pieces0 hk1) rfl 11 (by decide) (ht _ xw_142) (fun _ h9 => h9) rfl d_MaskEdges_applyMove_73 ?_
      refine lv_ineg hx hb d_MaskEdges_applyMove_76 ?_
      obtain ⟨c77, e77, hf⟩ := x_b hf
      refine xc (va_runV (As := [.ref (ad (28 + k1)), .int (Piece_low (X_pieces ST k1)), .int (Piece_high (X_pieces ST k1)), .int (-(Piece_outward (X_pieces ST k1))), .int (0 : Int32), .int (-(Piece_move (X_pieces ST k1)))]) (rest := []) ⟨hx, hb, hml, hown, ht⟩ (c_Box_layBeside l X (ad 15) (X_box ST) (ad (28 + k1)) (X_pieces ST k1) (Piece_low (X_pieces ST k1)) (Piece_high (X_pieces ST k1)) (-(Piece_outward (X_pieces ST k1))) (0 : Int32) (-(Piece_move (X_pieces ST k1))) (xs_box hP) (xs_pieces hk1 hP) (xnd1 _) (fun q hq h => by
      simp only [xAl, List.mem_cons, List.mem_nil_iff, or_false] at hq h
      rcases hq with rfl <;> rcases h with h <;> exact absurd (hA _ _ (by omega) (by omega) h) (by omega)) e77) (cwV 6 ht (xgV xw_236 xw_237 xw_238 xw_40 xw_239) rfl rfl rfl (by decide +kernel) ⟨Nat.le_of_ble_eq_true rfl, Nat.le_of_ble_eq_true rfl⟩) (xPV hKK (va_recv hK hP (ci := 0) (q0 := 15) rfl xg15)) rfl rfl hl.1 rfl (lv_room (Nat.le_of_ble_eq_true rfl)) d_MaskEdges_applyMove_77 ⟨Nat.zero_le _, Nat.zero_le _⟩) (fun H1 L hq hz => ?_)
      replace hS := xS_call hS hz (fun q h => by
      simp only [xAl, List.mem_cons, List.mem_nil_iff, or_false] at h
      rcases h with rfl <;> exact xA_in _ (by omega))
      replace hP := xu_box hA hP hq hz
      clear hq hz
      refine W.eq (g2 := F0 m 80 ls []) rfl ?_
      refine lv_aload_n hx hb d_MaskEdges_applyMove_80 rfl (lv_at hl 0 rfl) ?_
      refine va_get (D := X.1) (ci := 5) (v := .ref (ad 9)) (C := "MaskEdges") (T := F_MaskEdges) (N := 14) hx hb ht in_MaskEdges hown hK hP 0 xg0 rfl 9 (by decide) (ht _ xw_164) (fun _ h9 => h9) rfl d_MaskEdges_applyMove_81 ?_
      refine lv_aload_n hx hb d_MaskEdges_applyMove_84 rfl (lv_at hl 0 rfl) ?_
      refine va_get (D := X.1) (ci := 5) (v := .ref (ad 15)) (C := "MaskEdges") (T := F_MaskEdges) (N := 14) hx hb ht in_MaskEdges hown hK hP 0 xg0 rfl 13 (by decide) (ht _ xw_168) (fun _ h9 => h9) rfl d_MaskEdges_applyMove_85 ?_
      obtain ⟨c88, e88, hf⟩ := x_b hf
      refine xc (va_runV (As := [.ref (ad 15)]) (rest := []) ⟨hx, hb, hml, hown, ht⟩ (c_CellSet_removeBox l X (ad 9) (ad 10) (X_mask (X_u_box ST c77)) (ad 15) (X_box (X_u_box ST c77)) (xs_mask hP) (xs_box hP) (xnd2 hA (by omega) (by omega) (by omega)) (fun q hq h => by
      simp only [xAl, List.mem_cons, List.mem_nil_iff, or_false] at hq h
      rcases hq with rfl <;> rcases h with h | h <;> exact absurd (hA _ _ (by omega) (by omega) h) (by omega)) e88) (cwV 1 ht (xgV xw_250 xw_251 xw_252 xw_38 xw_253) rfl rfl rfl (by decide +kernel) ⟨Nat.le_of_ble_eq_true rfl, Nat.le_of_ble_eq_true rfl⟩) (xPV hKK (va_recv hK hP (ci := 1) (q0 := 9) rfl xg9)) rfl rfl hl.1 rfl (lv_room (Nat.le_of_ble_eq_true rfl)) d_MaskEdges_applyMove_88 ⟨Nat.zero_le _, Nat.zero_le _⟩) (fun H1 L hq hz => ?_)
      replace hS := xS_call hS hz (fun q h => by
      simp only [xAl, List.mem_cons, List.mem_nil_iff, or_false] at h
      rcases h with rfl | rfl <;> exact xA_in _ (by omega))
      replace hP := xu_mask hA hP hq hz
      clear hq hz
      refine W.eq (g2 := F0 m 91 ls []) rfl ?_
      replace hf := x_s hf
      subst hf
      subst hQ
      exact W.vret hx hb hr (fun t ht hW => ⟨⟨rfl, by rw [ht]; exact hP⟩, hS.F ht⟩) hS.2.2 d_MaskEdges_applyMove_91
  · replace hf := x_f hc hf
    refine lv_aload_n hx hb d_MaskEdges_applyMove_7 rfl (lv_at hl 0 rfl) ?_
    refine va_get (D := X.1) (ci := 5) (v := .ref (ad 15)) (C := "MaskEdges") (T := F_MaskEdges) (N := 14) hx hb ht in_MaskEdges hown hK hP 0 xg0 rfl 13 (by decide) (ht _ xw_168) (fun _ h9 => h9) rfl d_MaskEdges_applyMove_8 ?_
    refine lv_aload_n hx hb d_MaskEdges_applyMove_11 rfl (lv_at hl 1 rfl) ?_
    refine lv_aload_n hx hb d_MaskEdges_applyMove_12 rfl (lv_at hl 1 rfl) ?_
    refine va_get (D := X.1) (ci := 4) (v := .int (Piece_low (X_pieces ST k1))) (C := "MaskEdges$Piece") (T := F_Piece) (N := 12) hx hb ht in_Piece hown hK hP (28 + k1) (xg_pieces0 hk1) rfl 2 (by decide) (ht _ xw_126) (fun _ h9 => h9) rfl d_MaskEdges_applyMove_13 ?_
    refine lv_aload_n hx hb d_MaskEdges_applyMove_16 rfl (lv_at hl 1 rfl) ?_
    refine va_get (D := X.1) (ci := 4) (v := .int (Piece_high (X_pieces ST k1))) (C := "MaskEdges$Piece") (T := F_Piece) (N := 12) hx hb ht in_Piece hown hK hP (28 + k1) (xg_pieces0 hk1) rfl 3 (by decide) (ht _ xw_128) (fun _ h9 => h9) rfl d_MaskEdges_applyMove_17 ?_
    refine lv_aload_n hx hb d_MaskEdges_applyMove_20 rfl (lv_at hl 1 rfl) ?_
    refine va_get (D := X.1) (ci := 4) (v := .int (Piece_outward (X_pieces ST k1))) (C := "MaskEdges$Piece") (T := F_Piece) (N := 12) hx hb ht in_Piece hown hK hP (28 + k1) (xg_pieces0 hk1) rfl 8 (by decide) (ht _ xw_136) (fun _ h9 => h9) rfl d_MaskEdges_applyMove_21 ?_
    refine lv_iconst (v := (0 : Int32)) hx hb d_MaskEdges_applyMove_24 (by decide) ?_
    refine lv_aload_n hx hb d_MaskEdges_applyMove_25 rfl (lv_at hl 1 rfl) ?_
    refine va_get (D := X.1) (ci := 4) (v := .int (Piece_move (X_pieces ST k1))) (C := "MaskEdges$Piece") (T := F_Piece) (N := 12) hx hb ht in_Piece hown hK hP (28 + k1) (xg_pieces0 hk1) rfl 11 (by decide) (ht _ xw_142) (fun _ h9 => h9) rfl d_MaskEdges_applyMove_26 ?_
    obtain ⟨c29, e29, hf⟩ := x_b hf
    refine xc (va_runV (As := [.ref (ad (28 + k1)), .int (Piece_low (X_pieces ST k1)), .int (Piece_high (X_pieces ST k1)), .int (Piece_outward (X_pieces ST k1)), .int (0 : Int32), .int (Piece_move (X_pieces ST k1))]) (rest := []) ⟨hx, hb, hml, hown, ht⟩ (c_Box_layBeside l X (ad 15) (X_box ST) (ad (28 + k1)) (X_pieces ST k1) (Piece_low (X_pieces ST k1)) (Piece_high (X_pieces ST k1)) (Piece_outward (X_pieces ST k1)) (0 : Int32) (Piece_move (X_pieces ST k1)) (xs_box hP) (xs_pieces hk1 hP) (xnd1 _) (fun q hq h => by
      simp only [xAl, List.mem_cons, List.mem_nil_iff, or_false] at hq h
      rcases hq with rfl <;> rcases h with h <;> exact absurd (hA _ _ (by omega) (by omega) h) (by omega)) e29) (cwV 6 ht (xgV xw_236 xw_237 xw_238 xw_40 xw_239) rfl rfl rfl (by decide +kernel) ⟨Nat.le_of_ble_eq_true rfl, Nat.le_of_ble_eq_true rfl⟩) (xPV hKK (va_recv hK hP (ci := 0) (q0 := 15) rfl xg15)) rfl rfl hl.1 rfl (lv_room (Nat.le_of_ble_eq_true rfl)) d_MaskEdges_applyMove_29 ⟨Nat.zero_le _, Nat.zero_le _⟩) (fun H1 L hq hz => ?_)
    replace hS := xS_call hS hz (fun q h => by
      simp only [xAl, List.mem_cons, List.mem_nil_iff, or_false] at h
      rcases h with rfl <;> exact xA_in _ (by omega))
    replace hP := xu_box hA hP hq hz
    clear hq hz
    refine W.eq (g2 := F0 m 32 ls []) rfl ?_
    refine lv_aload_n hx hb d_MaskEdges_applyMove_32 rfl (lv_at hl 0 rfl) ?_
    refine va_get (D := X.1) (ci := 5) (v := .ref (ad 9)) (C := "MaskEdges") (T := F_MaskEdges) (N := 14) hx hb ht in_MaskEdges hown hK hP 0 xg0 rfl 9 (by decide) (ht _ xw_164) (fun _ h9 => h9) rfl d_MaskEdges_applyMove_33 ?_
    refine lv_aload_n hx hb d_MaskEdges_applyMove_36 rfl (lv_at hl 0 rfl) ?_
    refine va_get (D := X.1) (ci := 5) (v := .ref (ad 15)) (C := "MaskEdges") (T := F_MaskEdges) (N := 14) hx hb ht in_MaskEdges hown hK hP 0 xg0 rfl 13 (by decide) (ht _ xw_168) (fun _ h9 => h9) rfl d_MaskEdges_applyMove_37 ?_
    obtain ⟨c40, e40, hf⟩ := x_b hf
    refine xc (va_runV (As := [.ref (ad 15)]) (rest := []) ⟨hx, hb, hml, hown, ht⟩ (c_CellSet_addBox l X (ad 9) (ad 10) (X_mask (X_u_box ST c29)) (ad 15) (X_box (X_u_box ST c29)) (xs_mask hP) (xs_box hP) (xnd2 hA (by omega) (by omega) (by omega)) (fun q hq h => by
      simp only [xAl, List.mem_cons, List.mem_nil_iff, or_false] at hq h
      rcases hq with rfl <;> rcases h with h | h <;> exact absurd (hA _ _ (by omega) (by omega) h) (by omega)) e40) (cwV 1 ht (xgV xw_242 xw_243 xw_244 xw_38 xw_245) rfl rfl rfl (by decide +kernel) ⟨Nat.le_of_ble_eq_true rfl, Nat.le_of_ble_eq_true rfl⟩) (xPV hKK (va_recv hK hP (ci := 1) (q0 := 9) rfl xg9)) rfl rfl hl.1 rfl (lv_room (Nat.le_of_ble_eq_true rfl)) d_MaskEdges_applyMove_40 ⟨Nat.zero_le _, Nat.zero_le _⟩) (fun H1 L hq hz => ?_)
    replace hS := xS_call hS hz (fun q h => by
      simp only [xAl, List.mem_cons, List.mem_nil_iff, or_false] at h
      rcases h with rfl | rfl <;> exact xA_in _ (by omega))
    replace hP := xu_mask hA hP hq hz
    clear hq hz
    refine W.eq (g2 := F0 m 43 ls []) rfl ?_
    refine lv_goto (tgt := 91) hx hb d_MaskEdges_applyMove_43 (by decide) ?_
    replace hf := x_s hf
    subst hf
    subst hQ
    exact W.vret hx hb hr (fun t ht hW => ⟨⟨rfl, by rw [ht]; exact hP⟩, hS.F ht⟩) hS.2.2 d_MaskEdges_applyMove_91
def f_MaskEdges_renewMask_13 (r13 : Int32 → xSt → Option (xSt)) (k37 : xSt → Option (xSt)) (v1 : Int32) (ST : xSt) : Option (xSt) :=
  if (X_pieceCount ST) ≤ v1 then
  k37 ST
else
  if xin v1 120 = true then
    (f_MaskEdges_applyMove v1.toNatClampNeg ST).bind fun c28 =>
      r13 (v1 + (1 : Int32)) c28
  else none
def f_MaskEdges_renewMask_37 (ST : xSt) : Option (xSt) :=
  (f_CellSet_addAll (X_barCells ST) (X_mask ST)).bind fun c45 =>
  some (X_u_mask ST c45)
def f_MaskEdges_renewMask (ST : xSt) : Option (xSt) :=
  (f_CellSet_copyFrom (X_target ST) (X_mask ST)).bind fun c8 =>
  (xloop (fun r => f_MaskEdges_renewMask_13 r f_MaskEdges_renewMask_37) (fun _ _ => none) 100000) (0 : Int32) (X_u_mask ST c8)
set_option maxHeartbeats 4000000 in
set_option maxRecDepth 100000 in
theorem c_MaskEdges_renewMask (l : Launch) (X : xG) {H : Heap} (ad : Nat → Nat) (ST : xSt) {res : xSt} (hP : va_P X.1 vwCl (wX X ad ST) H) (hA : okA ad) (hf : f_MaskEdges_renewMask ST = some res) : xM l y_MaskEdges_renewMask (Cond.code y_MaskEdges_renewMask prog_1_method_23_code 2 none :: xT) ({ frames := 3, cells := 0, slots := 0, locals := 72 } : Room) (xK X) [.ref (ad 0)] H (xA ad) none (fun H1 => va_P X.1 vwCl (wX X ad res) H1) := by
  refine Met.ofW (cc := prog_1_method_23_code) (maxL := 2) (ret := none) (by decide) rfl ?_
  intro p e s m args below meth c s₁ B hml hv
  obtain ⟨ha, hH, hKK⟩ := hv
  subst hH
  have hx := B.exec
  have hb := B.bytes
  have hr := B.returns
  have ht : ∀ w ∈ xT, w.before args s = true := fun w h => atoms_spec (ws := (Cond.code y_MaskEdges_renewMask prog_1_method_23_code 2 none :: xT)) B.pre w (List.mem_cons_of_mem _ h)
  have hown : s.vm.findClass "MaskEdges" = some m.cls := findClass_of_methodNamed B.named
  have hlocks := B.notSynchronized
  have hK := hKK.1
  rw [show entryFrame m args 2 = entryFrame m ([.ref (ad 0)] : List Value).toArray 2 from by rw [ha]]
  clear ha
  have hS : va_S (xA ad) s.heap s.heap [] := va_S.rf
  have hl := lv_entry ([.ref (ad 0)]) (n := 2) (Nat.le_of_ble_eq_true rfl)
  rw [lg_entry_eq]
  generalize (lg_sl ([.ref (ad 0)]) ++ List.replicate (2 - (lg_sl ([.ref (ad 0)])).length) Slot.unset).toArray = ls at hl ⊢
  replace hl : lv_has ls 2 [(0, .ref (ad 0))] := hl
  refine x_Q (fun Q hQ => ?_)
  have hL13 : ∀ (k37 : xSt → Option (xSt)) (hk37 : ∀ (ST : xSt), ∀ (H : Heap) (locs : List Loc), va_P X.1 vwCl (wX X ad ST) H → va_S (xA ad) s.heap H locs → ∀ (ls : Array Slot), lv_has ls 2 [(0, .ref (ad 0))] → k37 ST = some res → W p l e (headSpec (Cond.code y_MaskEdges_renewMask prog_1_method_23_code 2 none :: xT) ({ frames := 3, cells := 0, slots := 0, locals := 72 } : Room)).room s m args below meth c H locs 0 0 Q (F0 m 37 ls [])), ∀ (n : Nat), ∀ (v1 : Int32) (ST : xSt), ∀ (H : Heap) (locs : List Loc), va_P X.1 vwCl (wX X ad ST) H → va_S (xA ad) s.heap H locs → ∀ (ls : Array Slot), lv_has ls 2 [(0, .ref (ad 0)), (1, .int v1)] → (xloop (fun r => f_MaskEdges_renewMask_13 r k37) (fun _ _ => none) n) v1 ST = some res → W p l e (headSpec (Cond.code y_MaskEdges_renewMask prog_1_method_23_code 2 none :: xT) ({ frames := 3, cells := 0, slots := 0, locals := 72 } : Room)).room s m args below meth c H locs 0 0 Q (F0 m 13 ls []) := by
    intro k37 hk37
    intro n
    induction n with
    | zero => intro v1 ST H locs hP hS ls hl hf; cases hf
    | succ n ih =>
      intro v1 ST H locs hP hS ls hl hf
      replace hf : f_MaskEdges_renewMask_13 (xloop (fun r => f_MaskEdges_renewMask_13 r k37) (fun _ _ => none) n) k37 v1 ST = some res := hf
      have hr13 := ih
      clear ih
      unfold f_MaskEdges_renewMask_13 at hf
      refine lv_iload_n hx hb d_MaskEdges_renewMask_13 rfl (lv_at hl 1 rfl) ?_
      refine lv_aload_n hx hb d_MaskEdges_renewMask_14 rfl (lv_at hl 0 rfl) ?_
      refine va_get (D := X.1) (ci := 5) (v := .int (X_pieceCount ST)) (C := "MaskEdges") (T := F_MaskEdges) (N := 14) hx hb ht in_MaskEdges hown hK hP 0 xg0 rfl 3 (by decide) (ht _ xw_158) (fun _ h9 => h9) rfl d_MaskEdges_renewMask_15 ?_
      refine lv_icmp_ge (tgt := 37) hx hb d_MaskEdges_renewMask_18 (by decide) (fun hc => ?_) (fun hc => ?_)
      · replace hf := x_t hc hf
        exact hk37 ST _ _ hP hS ls (lv_sub hl [0] rfl) hf
      · replace hf := x_f hc hf
        refine lv_aload_n hx hb d_MaskEdges_renewMask_21 rfl (lv_at hl 0 rfl) ?_
        refine lv_aload_n hx hb d_MaskEdges_renewMask_22 rfl (lv_at hl 0 rfl) ?_
        refine va_get (D := X.1) (ci := 5) (v := .ref (ad 2)) (C := "MaskEdges") (T := F_MaskEdges) (N := 14) hx hb ht in_MaskEdges hown hK hP 0 xg0 rfl 2 (by decide) (ht _ xw_157) (fun _ h9 => h9) rfl d_MaskEdges_renewMask_23 ?_
        refine lv_iload_n hx hb d_MaskEdges_renewMask_26 rfl (lv_at hl 1 rfl) ?_
        obtain ⟨g27, hf⟩ := x_g hf
        have hk27 := xin_lt g27
        refine va_aldq hx hb hK hP 2 3 xg2 rfl (xin_in g27) d_MaskEdges_renewMask_27 ?_
        refine W.eq (g2 := F0 m 28 ls [.ref (ad (28 + v1.toNatClampNeg)), .ref (ad 0)]) rfl ?_
        obtain ⟨c28, e28, hf⟩ := x_b hf
        refine xc (va_runV (As := [.ref (ad (28 + v1.toNatClampNeg))]) (rest := []) ⟨hx, hb, hml, hown, ht⟩ (c_MaskEdges_applyMove l X ad ST v1.toNatClampNeg hP hA hk27 e28) (cwV 1 ht (xgV xw_233 xw_234 xw_3 xw_37 xw_235) rfl rfl rfl (by decide +kernel) ⟨Nat.le_of_ble_eq_true rfl, Nat.le_of_ble_eq_true rfl⟩) (xPV hKK (va_recv hK hP (ci := 5) (q0 := 0) rfl xg0)) rfl rfl hl.1 rfl (lv_room (Nat.le_of_ble_eq_true rfl)) d_MaskEdges_renewMask_28 ⟨Nat.zero_le _, Nat.zero_le _⟩) (fun H1 L hq hz => ?_)
        replace hS := xS_call hS hz (fun _ h => h)
        replace hP : va_P X.1 vwCl (wX X ad c28) H1 := hq
        clear hq hz
        refine W.eq (g2 := F0 m 31 ls []) rfl ?_
        refine lv_iinc (v := (v1 + (1 : Int32))) (lv' := [(1, .int (v1 + (1 : Int32))), (0, .ref (ad 0))]) hx hb d_MaskEdges_renewMask_31 hl (k := 1) rfl rfl (by decide) rfl (fun ls hl => ?_)
        refine lv_goto (tgt := 13) hx hb d_MaskEdges_renewMask_34 (by decide) ?_
        exact hr13 (v1 + (1 : Int32)) c28 _ _ hP hS ls (lv_sub hl [1, 0] rfl) hf
  have hL37 : ∀ (ST : xSt), ∀ (H : Heap) (locs : List Loc), va_P X.1 vwCl (wX X ad ST) H → va_S (xA ad) s.heap H locs → ∀ (ls : Array Slot), lv_has ls 2 [(0, .ref (ad 0))] → f_MaskEdges_renewMask_37 ST = some res → W p l e (headSpec (Cond.code y_MaskEdges_renewMask prog_1_method_23_code 2 none :: xT) ({ frames := 3, cells := 0, slots := 0, locals := 72 } : Room)).room s m args below meth c H locs 0 0 Q (F0 m 37 ls []) := by
    intro ST H locs hP hS ls hl hf
    unfold f_MaskEdges_renewMask_37 at hf
    refine lv_aload_n hx hb d_MaskEdges_renewMask_37 rfl (lv_at hl 0 rfl) ?_
    refine va_get (D := X.1) (ci := 5) (v := .ref (ad 9)) (C := "MaskEdges") (T := F_MaskEdges) (N := 14) hx hb ht in_MaskEdges hown hK hP 0 xg0 rfl 9 (by decide) (ht _ xw_164) (fun _ h9 => h9) rfl d_MaskEdges_renewMask_38 ?_
    refine lv_aload_n hx hb d_MaskEdges_renewMask_41 rfl (lv_at hl 0 rfl) ?_
    refine va_get (D := X.1) (ci := 5) (v := .ref (ad 7)) (C := "MaskEdges") (T := F_MaskEdges) (N := 14) hx hb ht in_MaskEdges hown hK hP 0 xg0 rfl 8 (by decide) (ht _ xw_163) (fun _ h9 => h9) rfl d_MaskEdges_renewMask_42 ?_
    obtain ⟨c45, e45, hf⟩ := x_b hf
    refine xc (va_runV (As := [.ref (ad 7)]) (rest := []) ⟨hx, hb, hml, hown, ht⟩ (c_CellSet_addAll l X (ad 9) (ad 10) (X_mask ST) (ad 7) (ad 8) (X_barCells ST) (xs_mask hP) (xs_barCells hP) (xnd2 hA (by omega) (by omega) (by omega)) (fun q hq h => by
        simp only [xAl, List.mem_cons, List.mem_nil_iff, or_false] at hq h
        rcases hq with rfl | rfl <;> rcases h with h | h <;> exact absurd (hA _ _ (by omega) (by omega) h) (by omega)) e45) (cwV 1 ht (xgV xw_255 xw_256 xw_257 xw_38 xw_258) rfl rfl rfl (by decide +kernel) ⟨Nat.le_of_ble_eq_true rfl, Nat.le_of_ble_eq_true rfl⟩) (xPV hKK (va_recv hK hP (ci := 1) (q0 := 9) rfl xg9)) rfl rfl hl.1 rfl (lv_room (Nat.le_of_ble_eq_true rfl)) d_MaskEdges_renewMask_45 ⟨Nat.zero_le _, Nat.zero_le _⟩) (fun H1 L hq hz => ?_)
    replace hS := xS_call hS hz (fun q h => by
        simp only [xAl, List.mem_cons, List.mem_nil_iff, or_false] at h
        rcases h with rfl | rfl <;> exact xA_in _ (by omega))
    replace hP := xu_mask hA hP hq hz
    clear hq hz
    refine W.eq (g2 := F0 m 48 ls []) rfl ?_
    replace hf := x_s hf
    subst hf
    subst hQ
    exact W.vret hx hb hr (fun t ht hW => ⟨⟨rfl, by rw [ht]; exact hP⟩, hS.F ht⟩) hS.2.2 d_MaskEdges_renewMask_48
  unfold f_MaskEdges_renewMask at hf
  refine lv_aload_n hx hb d_MaskEdges_renewMask_0 rfl (lv_at hl 0 rfl) ?_
  refine va_get (D := X.1) (ci := 5) (v := .ref (ad 9)) (C := "MaskEdges") (T := F_MaskEdges) (N := 14) hx hb ht in_MaskEdges hown hK hP 0 xg0 rfl 9 (by decide) (ht _ xw_164) (fun _ h9 => h9) rfl d_MaskEdges_renewMask_1 ?_
  refine lv_aload_n hx hb d_MaskEdges_renewMask_4 rfl (lv_at hl 0 rfl) ?_
  refine va_get (D := X.1) (ci := 5) (v := .ref (ad 5)) (C := "MaskEdges") (T := F_MaskEdges) (N := 14) hx hb ht in_MaskEdges hown hK hP 0 xg0 rfl 7 (by decide) (ht _ xw_162) (fun _ h9 => h9) rfl d_MaskEdges_renewMask_5 ?_
  obtain ⟨c8, e8, hf⟩ := x_b hf
  refine xc (va_runV (As := [.ref (ad 5)]) (rest := []) ⟨hx, hb, hml, hown, ht⟩ (c_CellSet_copyFrom l X (ad 9) (ad 10) (X_mask ST) (ad 5) (ad 6) (X_target ST) (xs_mask hP) (xs_target hP) (xnd2 hA (by omega) (by omega) (by omega)) (fun q hq h => by
      simp only [xAl, List.mem_cons, List.mem_nil_iff, or_false] at hq h
      rcases hq with rfl | rfl <;> rcases h with h | h <;> exact absurd (hA _ _ (by omega) (by omega) h) (by omega)) e8) (cwV 1 ht (xgV xw_229 xw_230 xw_231 xw_38 xw_232) rfl rfl rfl (by decide +kernel) ⟨Nat.le_of_ble_eq_true rfl, Nat.le_of_ble_eq_true rfl⟩) (xPV hKK (va_recv hK hP (ci := 1) (q0 := 9) rfl xg9)) rfl rfl hl.1 rfl (lv_room (Nat.le_of_ble_eq_true rfl)) d_MaskEdges_renewMask_8 ⟨Nat.zero_le _, Nat.zero_le _⟩) (fun H1 L hq hz => ?_)
  replace hS := xS_call hS hz (fun q h => by
      simp only [xAl, List.mem_cons, List.mem_nil_iff, or_false] at h
      rcases h with rfl | rfl <;> exact xA_in _ (by omega))
  replace hP := xu_mask hA hP hq hz
  clear hq hz
  refine W.eq (g2 := F0 m 11 ls []) rfl ?_
  refine lv_iconst (v := (0 : Int32)) hx hb d_MaskEdges_renewMask_11 (by decide) ?_
  refine lv_istore_n (lv' := [(1, .int (0 : Int32)), (0, .ref (ad 0))]) hx hb d_MaskEdges_renewMask_12 rfl hl (by decide) rfl (fun ls hl => ?_)
  exact (hL13 _ hL37 100000) (0 : Int32) (X_u_mask ST c8) _ _ hP hS ls (lv_sub hl [1, 0] rfl) hf
def f_MaskEdges_addToTarget_34 (r10 : Nat → Int32 → Int32 → xSt → Option (xSt)) (kv1 : Nat) (v2 : Int32) (v3 : Int32) (ST : xSt) : Option (xSt) :=
  r10 kv1 v2 (v3 + (1 : Int32)) ST
def f_MaskEdges_addToTarget_10 (r10 : Nat → Int32 → Int32 → xSt → Option (xSt)) (k40 : Nat → Int32 → xSt → Option (xSt)) (kv1 : Nat) (v2 : Int32) (v3 : Int32) (ST : xSt) : Option (xSt) :=
  if (48 : Int32) ≤ v3 then
  k40 kv1 v2 ST
else
  (f_Outline_holds (X_outlines ST kv1) v3 v2).bind fun c19 =>
    if c19 = 0 then
    (f_MaskEdges_addToTarget_34 r10) kv1 v2 v3 ST
  else
    (f_CellSet_add v3 v2 (X_target ST)).bind fun c31 =>
      (f_MaskEdges_addToTarget_34 r10) kv1 v2 v3 (X_u_target ST c31)
def f_MaskEdges_addToTarget_40 (r2 : Nat → Int32 → xSt → Option (xSt)) (kv1 : Nat) (v2 : Int32) (ST : xSt) : Option (xSt) :=
  r2 kv1 (v2 + (1 : Int32)) ST
def f_MaskEdges_addToTarget_2 (r2 : Nat → Int32 → xSt → Option (xSt)) (kv1 : Nat) (v2 : Int32) (ST : xSt) : Option (xSt) :=
  if (48 : Int32) ≤ v2 then
  some ST
else
  (xloop (fun r => f_MaskEdges_addToTarget_10 r (f_MaskEdges_addToTarget_40 r2)) (fun _ _ _ _ => none) 100000) kv1 v2 (0 : Int32) ST
def f_MaskEdges_addToTarget (k1 : Nat) (ST : xSt) : Option (xSt) :=
  (xloop (fun r => f_MaskEdges_addToTarget_2 r) (fun _ _ _ => none) 100000) k1 (0 : Int32) ST
set_option maxHeartbeats 4000000 in
set_option maxRecDepth 100000 in
theorem c_MaskEdges_addToTarget (l : Launch) (X : xG) {H : Heap} (ad : Nat → Nat) (ST : xSt) (k1 : Nat) {res : xSt} (hP : va_P X.1 vwCl (wX X ad ST) H) (hA : okA ad) (hk1 : k1 < 4) (hf : f_MaskEdges_addToTarget k1 ST = some res) : xM l y_MaskEdges_addToTarget (Cond.code y_MaskEdges_addToTarget prog_1_method_22_code 4 none :: xT) ({ frames := 2, cells := 0, slots := 0, locals := 47 } : Room) (xK X) [.ref (ad 0), .ref (ad (16 + k1))] H (xA ad) none (fun H1 => va_P X.1 vwCl (wX X ad res) H1) := by
  refine Met.ofW (cc := prog_1_method_22_code) (maxL := 4) (ret := none) (by decide) rfl ?_
  intro p e s m args below meth c s₁ B hml hv
  obtain ⟨ha, hH, hKK⟩ := hv
  subst hH
  have hx := B.exec
  have hb := B.bytes
  have hr := B.returns
  have ht : ∀ w ∈ xT, w.before args s = true := fun w h => atoms_spec (ws := (Cond.code y_MaskEdges_addToTarget prog_1_method_22_code 4 none :: xT)) B.pre w (List.mem_cons_of_mem _ h)
  have hown : s.vm.findClass "MaskEdges" = some m.cls := findClass_of_methodNamed B.named
  have hlocks := B.notSynchronized
  have hK := hKK.1
  rw [show entryFrame m args 4 = entryFrame m ([.ref (ad 0), .ref (ad (16 + k1))] : List Value).toArray 4 from by rw [ha]]
  clear ha
  have hS : va_S (xA ad) s.heap s.heap [] := va_S.rf
  have hl := lv_entry ([.ref (ad 0), .ref (ad (16 + k1))]) (n := 4) (Nat.le_of_ble_eq_true rfl)
  rw [lg_entry_eq]
  generalize (lg_sl ([.ref (ad 0), .ref (ad (16 + k1))]) ++ List.replicate (4 - (lg_sl ([.ref (ad 0), .ref (ad (16 + k1))])).length) Slot.unset).toArray = ls at hl ⊢
  replace hl : lv_has ls 4 [(0, .ref (ad 0)), (1, .ref (ad (16 + k1)))] := hl
  refine x_Q (fun Q hQ => ?_)
  have hL34 : ∀ (r10 : Nat → Int32 → Int32 → xSt → Option (xSt)) (hr10 : ∀ (kv1 : Nat) (v2 : Int32) (v3 : Int32) (ST : xSt), kv1 < 4 → ∀ (H : Heap) (locs : List Loc), va_P X.1 vwCl (wX X ad ST) H → va_S (xA ad) s.heap H locs → ∀ (ls : Array Slot), lv_has ls 4 [(0, .ref (ad 0)), (1, .ref (ad (16 + kv1))), (2, .int v2), (3, .int v3)] → r10 kv1 v2 v3 ST = some res → W p l e (headSpec (Cond.code y_MaskEdges_addToTarget prog_1_method_22_code 4 none :: xT) ({ frames := 2, cells := 0, slots := 0, locals := 47 } : Room)).room s m args below meth c H locs 0 0 Q (F0 m 10 ls [])), ∀ (kv1 : Nat) (v2 : Int32) (v3 : Int32) (ST : xSt), kv1 < 4 → ∀ (H : Heap) (locs : List Loc), va_P X.1 vwCl (wX X ad ST) H → va_S (xA ad) s.heap H locs → ∀ (ls : Array Slot), lv_has ls 4 [(0, .ref (ad 0)), (1, .ref (ad (16 + kv1))), (2, .int v2), (3, .int v3)] → f_MaskEdges_addToTarget_34 r10 kv1 v2 v3 ST = some res → W p l e (headSpec (Cond.code y_MaskEdges_addToTarget prog_1_method_22_code 4 none :: xT) ({ frames := 2, cells := 0, slots := 0, locals := 47 } : Room)).room s m args below meth c H locs 0 0 Q (F0 m 34 ls []) := by
    intro r10 hr10 kv1 v2 v3 ST hkv1 H locs hP hS ls hl hf
    unfold f_MaskEdges_addToTarget_34 at hf
    refine lv_iinc (v := (v3 + (1 : Int32))) (lv' := [(3, .int (v3 + (1 : Int32))), (0, .ref (ad 0)), (1, .ref (ad (16 + kv1))), (2, .int v2)]) hx hb d_MaskEdges_addToTarget_34 hl (k := 3) rfl rfl (by decide) rfl (fun ls hl => ?_)
    refine lv_goto (tgt := 10) hx hb d_MaskEdges_addToTarget_37 (by decide) ?_
    exact hr10 kv1 v2 (v3 + (1 : Int32)) ST hkv1 _ _ hP hS ls (lv_sub hl [1, 2, 3, 0] rfl) hf
  have hL10 : ∀ (k40 : Nat → Int32 → xSt → Option (xSt)) (hk40 : ∀ (kv1 : Nat) (v2 : Int32) (ST : xSt), kv1 < 4 → ∀ (H : Heap) (locs : List Loc), va_P X.1 vwCl (wX X ad ST) H → va_S (xA ad) s.heap H locs → ∀ (ls : Array Slot), lv_has ls 4 [(0, .ref (ad 0)), (1, .ref (ad (16 + kv1))), (2, .int v2)] → k40 kv1 v2 ST = some res → W p l e (headSpec (Cond.code y_MaskEdges_addToTarget prog_1_method_22_code 4 none :: xT) ({ frames := 2, cells := 0, slots := 0, locals := 47 } : Room)).room s m args below meth c H locs 0 0 Q (F0 m 40 ls [])), ∀ (n : Nat), ∀ (kv1 : Nat) (v2 : Int32) (v3 : Int32) (ST : xSt), kv1 < 4 → ∀ (H : Heap) (locs : List Loc), va_P X.1 vwCl (wX X ad ST) H → va_S (xA ad) s.heap H locs → ∀ (ls : Array Slot), lv_has ls 4 [(0, .ref (ad 0)), (1, .ref (ad (16 + kv1))), (2, .int v2), (3, .int v3)] → (xloop (fun r => f_MaskEdges_addToTarget_10 r k40) (fun _ _ _ _ => none) n) kv1 v2 v3 ST = some res → W p l e (headSpec (Cond.code y_MaskEdges_addToTarget prog_1_method_22_code 4 none :: xT) ({ frames := 2, cells := 0, slots := 0, locals := 47 } : Room)).room s m args below meth c H locs 0 0 Q (F0 m 10 ls []) := by
    intro k40 hk40
    intro n
    induction n with
    | zero => intro kv1 v2 v3 ST hkv1 H locs hP hS ls hl hf; cases hf
    | succ n ih =>
      intro kv1 v2 v3 ST hkv1 H locs hP hS ls hl hf
      replace hf : f_MaskEdges_addToTarget_10 (xloop (fun r => f_MaskEdges_addToTarget_10 r k40) (fun _ _ _ _ => none) n) k40 kv1 v2 v3 ST = some res := hf
      have hr10 := ih
      clear ih
      unfold f_MaskEdges_addToTarget_10 at hf
      refine lv_iload_n hx hb d_MaskEdges_addToTarget_10 rfl (lv_at hl 3 rfl) ?_
      refine lv_bipush (v := (48 : Int32)) hx hb d_MaskEdges_addToTarget_11 (by decide) ?_
      refine lv_icmp_ge (tgt := 40) hx hb d_MaskEdges_addToTarget_13 (by decide) (fun hc => ?_) (fun hc => ?_)
      · replace hf := x_t hc hf
        exact hk40 kv1 v2 ST hkv1 _ _ hP hS ls (lv_sub hl [0, 1, 2] rfl) hf
      · replace hf := x_f hc hf
        refine lv_aload_n hx hb d_MaskEdges_addToTarget_16 rfl (lv_at hl 1 rfl) ?_
        refine lv_iload_n hx hb d_MaskEdges_addToTarget_17 rfl (lv_at hl 3 rfl) ?_
        refine lv_iload_n hx hb d_MaskEdges_addToTarget_18 rfl (lv_at hl 2 rfl) ?_
        obtain ⟨c19, e19, hf⟩ := x_b hf
        refine xcR (va_runV (As := [.int v3, .int v2]) (rest := []) ⟨hx, hb, hml, hown, ht⟩ (c_Outline_holds l X (ad (16 + kv1)) (ad (20 + kv1)) (ad (24 + kv1)) (X_outlines ST kv1) v3 v2 (xs_outlines hkv1 hP) e19) (cwV 2 ht (xgV xw_210 xw_211 xw_212 xw_41 xw_213) rfl rfl rfl (by decide +kernel) ⟨Nat.le_of_ble_eq_true rfl, Nat.le_of_ble_eq_true rfl⟩) (xPV hKK (va_recv hK hP (ci := 3) (q0 := (16 + kv1)) rfl (xg_outlines0 hkv1))) rfl rfl hl.1 rfl (lv_room (Nat.le_of_ble_eq_true rfl)) d_MaskEdges_addToTarget_19 ⟨Nat.zero_le _, Nat.zero_le _⟩) ?_
        refine W.eq (g2 := F0 m 22 ls [.int c19]) rfl ?_
        refine lv_if_eq (tgt := 34) hx hb d_MaskEdges_addToTarget_22 (by decide) (fun hc => ?_) (fun hc => ?_)
        · replace hf := x_t hc hf
          exact (hL34 _ hr10) kv1 v2 v3 ST hkv1 _ _ hP hS ls (lv_sub hl [0, 1, 2, 3] rfl) hf
        · replace hf := x_f hc hf
          refine lv_aload_n hx hb d_MaskEdges_addToTarget_25 rfl (lv_at hl 0 rfl) ?_
          refine va_get (D := X.1) (ci := 5) (v := .ref (ad 5)) (C := "MaskEdges") (T := F_MaskEdges) (N := 14) hx hb ht in_MaskEdges hown hK hP 0 xg0 rfl 7 (by decide) (ht _ xw_162) (fun _ h9 => h9) rfl d_MaskEdges_addToTarget_26 ?_
          refine lv_iload_n hx hb d_MaskEdges_addToTarget_29 rfl (lv_at hl 3 rfl) ?_
          refine lv_iload_n hx hb d_MaskEdges_addToTarget_30 rfl (lv_at hl 2 rfl) ?_
          obtain ⟨c31, e31, hf⟩ := x_b hf
          refine xc (va_runV (As := [.int v3, .int v2]) (rest := []) ⟨hx, hb, hml, hown, ht⟩ (c_CellSet_add l X (ad 5) (ad 6) (X_target ST) v3 v2 (xs_target hP) (xnd2 hA (by omega) (by omega) (by omega)) e31) (cwV 2 ht (xgV xw_220 xw_221 xw_222 xw_38 xw_223) rfl rfl rfl (by decide +kernel) ⟨Nat.le_of_ble_eq_true rfl, Nat.le_of_ble_eq_true rfl⟩) (xPV hKK (va_recv hK hP (ci := 1) (q0 := 5) rfl xg5)) rfl rfl hl.1 rfl (lv_room (Nat.le_of_ble_eq_true rfl)) d_MaskEdges_addToTarget_31 ⟨Nat.zero_le _, Nat.zero_le _⟩) (fun H1 L hq hz => ?_)
          replace hS := xS_call hS hz (fun q h => by
          simp only [xAl, List.mem_cons, List.mem_nil_iff, or_false] at h
          rcases h with rfl | rfl <;> exact xA_in _ (by omega))
          replace hP := xu_target hA hP hq hz
          clear hq hz
          refine W.eq (g2 := F0 m 34 ls []) rfl ?_
          exact (hL34 _ hr10) kv1 v2 v3 (X_u_target ST c31) hkv1 _ _ hP hS ls (lv_sub hl [0, 1, 2, 3] rfl) hf
  have hL40 : ∀ (r2 : Nat → Int32 → xSt → Option (xSt)) (hr2 : ∀ (kv1 : Nat) (v2 : Int32) (ST : xSt), kv1 < 4 → ∀ (H : Heap) (locs : List Loc), va_P X.1 vwCl (wX X ad ST) H → va_S (xA ad) s.heap H locs → ∀ (ls : Array Slot), lv_has ls 4 [(0, .ref (ad 0)), (1, .ref (ad (16 + kv1))), (2, .int v2)] → r2 kv1 v2 ST = some res → W p l e (headSpec (Cond.code y_MaskEdges_addToTarget prog_1_method_22_code 4 none :: xT) ({ frames := 2, cells := 0, slots := 0, locals := 47 } : Room)).room s m args below meth c H locs 0 0 Q (F0 m 2 ls [])), ∀ (kv1 : Nat) (v2 : Int32) (ST : xSt), kv1 < 4 → ∀ (H : Heap) (locs : List Loc), va_P X.1 vwCl (wX X ad ST) H → va_S (xA ad) s.heap H locs → ∀ (ls : Array Slot), lv_has ls 4 [(0, .ref (ad 0)), (1, .ref (ad (16 + kv1))), (2, .int v2)] → f_MaskEdges_addToTarget_40 r2 kv1 v2 ST = some res → W p l e (headSpec (Cond.code y_MaskEdges_addToTarget prog_1_method_22_code 4 none :: xT) ({ frames := 2, cells := 0, slots := 0, locals := 47 } : Room)).room s m args below meth c H locs 0 0 Q (F0 m 40 ls []) := by
    intro r2 hr2 kv1 v2 ST hkv1 H locs hP hS ls hl hf
    unfold f_MaskEdges_addToTarget_40 at hf
    refine lv_iinc (v := (v2 + (1 : Int32))) (lv' := [(2, .int (v2 + (1 : Int32))), (0, .ref (ad 0)), (1, .ref (ad (16 + kv1)))]) hx hb d_MaskEdges_addToTarget_40 hl (k := 2) rfl rfl (by decide) rfl (fun ls hl => ?_)
    refine lv_goto (tgt := 2) hx hb d_MaskEdges_addToTarget_43 (by decide) ?_
    exact hr2 kv1 (v2 + (1 : Int32)) ST hkv1 _ _ hP hS ls (lv_sub hl [1, 2, 0] rfl) hf
  have hL2 : ∀ (n : Nat), ∀ (kv1 : Nat) (v2 : Int32) (ST : xSt), kv1 < 4 → ∀ (H : Heap) (locs : List Loc), va_P X.1 vwCl (wX X ad ST) H → va_S (xA ad) s.heap H locs → ∀ (ls : Array Slot), lv_has ls 4 [(0, .ref (ad 0)), (1, .ref (ad (16 + kv1))), (2, .int v2)] → (xloop (fun r => f_MaskEdges_addToTarget_2 r) (fun _ _ _ => none) n) kv1 v2 ST = some res → W p l e (headSpec (Cond.code y_MaskEdges_addToTarget prog_1_method_22_code 4 none :: xT) ({ frames := 2, cells := 0, slots := 0, locals := 47 } : Room)).room s m args below meth c H locs 0 0 Q (F0 m 2 ls []) := by
    intro n
    induction n with
    | zero => intro kv1 v2 ST hkv1 H locs hP hS ls hl hf; cases hf
    | succ n ih =>
      intro kv1 v2 ST hkv1 H locs hP hS ls hl hf
      replace hf : f_MaskEdges_addToTarget_2 (xloop (fun r => f_MaskEdges_addToTarget_2 r) (fun _ _ _ => none) n) kv1 v2 ST = some res := hf
      have hr2 := ih
      clear ih
      unfold f_MaskEdges_addToTarget_2 at hf
      refine lv_iload_n hx hb d_MaskEdges_addToTarget_2 rfl (lv_at hl 2 rfl) ?_
      refine lv_bipush (v := (48 : Int32)) hx hb d_MaskEdges_addToTarget_3 (by decide) ?_
      refine lv_icmp_ge (tgt := 46) hx hb d_MaskEdges_addToTarget_5 (by decide) (fun hc => ?_) (fun hc => ?_)
      · replace hf := x_t hc hf
        replace hf := x_s hf
        subst hf
        subst hQ
        exact W.vret hx hb hr (fun t ht hW => ⟨⟨rfl, by rw [ht]; exact hP⟩, hS.F ht⟩) hS.2.2 d_MaskEdges_addToTarget_46
      · replace hf := x_f hc hf
        refine lv_iconst (v := (0 : Int32)) hx hb d_MaskEdges_addToTarget_8 (by decide) ?_
        refine lv_istore_n (lv' := [(3, .int (0 : Int32)), (0, .ref (ad 0)), (1, .ref (ad (16 + kv1))), (2, .int v2)]) hx hb d_MaskEdges_addToTarget_9 rfl hl (by decide) rfl (fun ls hl => ?_)
        exact (hL10 _ (hL40 _ hr2) 100000) kv1 v2 (0 : Int32) ST hkv1 _ _ hP hS ls (lv_sub hl [1, 2, 3, 0] rfl) hf
  unfold f_MaskEdges_addToTarget at hf
  refine lv_iconst (v := (0 : Int32)) hx hb d_MaskEdges_addToTarget_0 (by decide) ?_
  refine lv_istore_n (lv' := [(2, .int (0 : Int32)), (0, .ref (ad 0)), (1, .ref (ad (16 + k1)))]) hx hb d_MaskEdges_addToTarget_1 rfl hl (by decide) rfl (fun ls hl => ?_)
  exact (hL2 100000) k1 (0 : Int32) ST hk1 _ _ hP hS ls (lv_sub hl [1, 2, 0] rfl) hf
def f_MaskEdges_polygon (ST : xSt) : Option (Int32 × xSt) :=
  if (X_pieceCount ST) ≤ 0 then
  if (X_outlineCount ST) < (4 : Int32) then
    some (((X_outlineCount (X_u_outlineCount ST ((X_outlineCount ST) + (1 : Int32)))) - (1 : Int32)), (X_u_outlineCount ST ((X_outlineCount ST) + (1 : Int32))))
  else
    some ((-4 : Int32), ST)
else
  some ((-3 : Int32), ST)
set_option maxHeartbeats 4000000 in
set_option maxRecDepth 100000 in
theorem c_MaskEdges_polygon (l : Launch) (X : xG) {H : Heap} (ad : Nat → Nat) (ST : xSt) {res : Int32 × xSt} (hP : va_P X.1 vwCl (wX X ad ST) H) (hA : okA ad) (hf : f_MaskEdges_polygon ST = some res) : xM l y_MaskEdges_polygon (Cond.code y_MaskEdges_polygon prog_1_method_2_code 1 (some .int) :: xT) ({ frames := 0, cells := 0, slots := 0, locals := 0 } : Room) (xK X) [.ref (ad 0)] H (xA ad) (some (.int res.1)) (fun H1 => va_P X.1 vwCl (wX X ad res.2) H1) := by
  refine Met.ofW (cc := prog_1_method_2_code) (maxL := 1) (ret := (some .int)) (by decide) rfl ?_
  intro p e s m args below meth c s₁ B hml hv
  obtain ⟨ha, hH, hKK⟩ := hv
  subst hH
  have hx := B.exec
  have hb := B.bytes
  have hr := B.returns
  have ht : ∀ w ∈ xT, w.before args s = true := fun w h => atoms_spec (ws := (Cond.code y_MaskEdges_polygon prog_1_method_2_code 1 (some .int) :: xT)) B.pre w (List.mem_cons_of_mem _ h)
  have hown : s.vm.findClass "MaskEdges" = some m.cls := findClass_of_methodNamed B.named
  have hlocks := B.notSynchronized
  have hK := hKK.1
  rw [show entryFrame m args 1 = entryFrame m ([.ref (ad 0)] : List Value).toArray 1 from by rw [ha]]
  clear ha
  have hS : va_S (xA ad) s.heap s.heap [] := va_S.rf
  have hl := lv_entry ([.ref (ad 0)]) (n := 1) (Nat.le_of_ble_eq_true rfl)
  rw [lg_entry_eq]
  generalize (lg_sl ([.ref (ad 0)]) ++ List.replicate (1 - (lg_sl ([.ref (ad 0)])).length) Slot.unset).toArray = ls at hl ⊢
  replace hl : lv_has ls 1 [(0, .ref (ad 0))] := hl
  refine x_Q (fun Q hQ => ?_)
  unfold f_MaskEdges_polygon at hf
  refine lv_aload_n hx hb d_MaskEdges_polygon_0 rfl (lv_at hl 0 rfl) ?_
  refine va_get (D := X.1) (ci := 5) (v := .int (X_pieceCount ST)) (C := "MaskEdges") (T := F_MaskEdges) (N := 14) hx hb ht in_MaskEdges hown hK hP 0 xg0 rfl 3 (by decide) (ht _ xw_158) (fun _ h9 => h9) rfl d_MaskEdges_polygon_1 ?_
  refine lv_if_le (tgt := 10) hx hb d_MaskEdges_polygon_4 (by decide) (fun hc => ?_) (fun hc => ?_)
  · replace hf := x_t hc hf
    refine lv_aload_n hx hb d_MaskEdges_polygon_10 rfl (lv_at hl 0 rfl) ?_
    refine va_get (D := X.1) (ci := 5) (v := .int (X_outlineCount ST)) (C := "MaskEdges") (T := F_MaskEdges) (N := 14) hx hb ht in_MaskEdges hown hK hP 0 xg0 rfl 1 (by decide) (ht _ xw_156) (fun _ h9 => h9) rfl d_MaskEdges_polygon_11 ?_
    refine lv_iconst (v := (4 : Int32)) hx hb d_MaskEdges_polygon_14 (by decide) ?_
    refine lv_icmp_lt (tgt := 21) hx hb d_MaskEdges_polygon_15 (by decide) (fun hc => ?_) (fun hc => ?_)
    · replace hf := x_t hc hf
      refine lv_aload_n hx hb d_MaskEdges_polygon_21 rfl (lv_at hl 0 rfl) ?_
      refine lv_dup hx hb d_MaskEdges_polygon_22 rfl ?_
      refine va_get (D := X.1) (ci := 5) (v := .int (X_outlineCount ST)) (C := "MaskEdges") (T := F_MaskEdges) (N := 14) hx hb ht in_MaskEdges hown hK hP 0 xg0 rfl 1 (by decide) (ht _ xw_156) (fun _ h9 => h9) rfl d_MaskEdges_polygon_23 ?_
      refine lv_iconst (v := (1 : Int32)) hx hb d_MaskEdges_polygon_26 (by decide) ?_
      refine lv_iadd hx hb d_MaskEdges_polygon_27 ?_
      refine va_put (D := X.1) (ci := 5) (v := .int ((X_outlineCount ST) + (1 : Int32))) (ty := .int) (C := "MaskEdges") (T := F_MaskEdges) (N := 14) hx hb ht in_MaskEdges ty_MaskEdges tyk_MaskEdges nm_MaskEdges hown hK hP (xD hA) hS 0 xg0 rfl 1 (by decide) (ht _ xw_156) (fun _ h9 => h9) rfl (by decide +kernel) rfl rfl (Nat.le_of_ble_eq_true rfl) d_MaskEdges_polygon_28 (fun H locs hP _ hS => ?_)
      replace hP : va_P X.1 vwCl (wX X ad (X_u_outlineCount ST ((X_outlineCount ST) + (1 : Int32)))) H := xeq xm_outlineCount hP
      refine lv_aload_n hx hb d_MaskEdges_polygon_31 rfl (lv_at hl 0 rfl) ?_
      refine va_get (D := X.1) (ci := 5) (v := .int (X_outlineCount (X_u_outlineCount ST ((X_outlineCount ST) + (1 : Int32))))) (C := "MaskEdges") (T := F_MaskEdges) (N := 14) hx hb ht in_MaskEdges hown hK hP 0 xg0 rfl 1 (by decide) (ht _ xw_156) (fun _ h9 => h9) rfl d_MaskEdges_polygon_32 ?_
      refine lv_iconst (v := (1 : Int32)) hx hb d_MaskEdges_polygon_35 (by decide) ?_
      refine lv_isub hx hb d_MaskEdges_polygon_36 ?_
      replace hf := x_s hf
      subst hf
      subst hQ
      exact W.iret (v := ((X_outlineCount (X_u_outlineCount ST ((X_outlineCount ST) + (1 : Int32)))) - (1 : Int32))) hx hb hr (fun t ht hW => ⟨⟨rfl, by rw [ht]; exact hP⟩, hS.F ht⟩) hS.2.2 d_MaskEdges_polygon_37
    · replace hf := x_f hc hf
      refine lv_bipush (v := (-4 : Int32)) hx hb d_MaskEdges_polygon_18 (by decide) ?_
      replace hf := x_s hf
      subst hf
      subst hQ
      exact W.iret (v := (-4 : Int32)) hx hb hr (fun t ht hW => ⟨⟨rfl, by rw [ht]; exact hP⟩, hS.F ht⟩) hS.2.2 d_MaskEdges_polygon_20
  · replace hf := x_f hc hf
    refine lv_bipush (v := (-3 : Int32)) hx hb d_MaskEdges_polygon_7 (by decide) ?_
    replace hf := x_s hf
    subst hf
    subst hQ
    exact W.iret (v := (-3 : Int32)) hx hb hr (fun t ht hW => ⟨⟨rfl, by rw [ht]; exact hP⟩, hS.F ht⟩) hS.2.2 d_MaskEdges_polygon_9
def f_MaskEdges_corner (v1 : Int32) (v2 : Int64) (v4 : Int64) (ST : xSt) : Option (Int32 × xSt) :=
  if v1 < 0 then
  some ((0 : Int32), ST)
else
  if (X_outlineCount ST) ≤ v1 then
    some ((0 : Int32), ST)
  else
    if (X_pieceCount ST) ≤ 0 then
      if (lg_cmp v2 (0 : Int64)) < 0 then
        some ((0 : Int32), ST)
      else
        if 0 < (lg_cmp v2 (48 : Int64)) then
          some ((0 : Int32), ST)
        else
          if (lg_cmp v4 (0 : Int64)) < 0 then
            some ((0 : Int32), ST)
          else
            if (lg_cmp v4 (48 : Int64)) ≤ 0 then
              if xin v1 4 = true then
                (f_Outline_takeCorner v2.toInt32 v4.toInt32 (X_outlines ST v1.toNatClampNeg)).bind fun c68 =>
                  if c68.1 = 0 then
                  if xz c68.1 = true then
                    some (c68.1, (X_u_outlines ST (va_up (X_outlines ST) v1.toNatClampNeg c68.2)))
                  else none
                else
                  if (Outline_closed (X_outlines (X_u_outlines ST (va_up (X_outlines ST) v1.toNatClampNeg c68.2)) v1.toNatClampNeg)) = 0 then
                    if xz c68.1 = true then
                      some (c68.1, (X_u_outlines ST (va_up (X_outlines ST) v1.toNatClampNeg c68.2)))
                    else none
                  else
                    (f_MaskEdges_addToTarget v1.toNatClampNeg (X_u_outlines ST (va_up (X_outlines ST) v1.toNatClampNeg c68.2))).bind fun c89 =>
                      (f_MaskEdges_renewMask c89).bind fun c93 =>
                      if xz c68.1 = true then
                      some (c68.1, c93)
                    else none
              else none
            else
              some ((0 : Int32), ST)
    else
      some ((0 : Int32), ST)
set_option maxHeartbeats 4000000 in
set_option maxRecDepth 100000 in
theorem c_MaskEdges_corner (l : Launch) (X : xG) {H : Heap} (ad : Nat → Nat) (ST : xSt) (v1 : Int32) (v2 : Int64) (v4 : Int64) {res : Int32 × xSt} (hP : va_P X.1 vwCl (wX X ad ST) H) (hA : okA ad) (hf : f_MaskEdges_corner v1 v2 v4 ST = some res) : xM l y_MaskEdges_corner (Cond.code y_MaskEdges_corner prog_1_method_3_code 8 (some .boolean) :: xT) ({ frames := 4, cells := 0, slots := 0, locals := 93 } : Room) (xK X) [.ref (ad 0), .int v1, .long v2, .long v4] H (xA ad) (some (.int res.1)) (fun H1 => va_P X.1 vwCl (wX X ad res.2) H1) := by
  refine Met.ofW (cc := prog_1_method_3_code) (maxL := 8) (ret := (some .boolean)) (by decide) rfl ?_
  intro p e s m args below meth c s₁ B hml hv
  obtain ⟨ha, hH, hKK⟩ := hv
  subst hH
  have hx := B.exec
  have hb := B.bytes
  have hr := B.returns
  have ht : ∀ w ∈ xT, w.before args s = true := fun w h => atoms_spec (ws := (Cond.code y_MaskEdges_corner prog_1_method_3_code 8 (some .boolean) :: xT)) B.pre w (List.mem_cons_of_mem _ h)
  have hown : s.vm.findClass "MaskEdges" = some m.cls := findClass_of_methodNamed B.named
  have hlocks := B.notSynchronized
  have hK := hKK.1
  rw [show entryFrame m args 8 = entryFrame m ([.ref (ad 0), .int v1, .long v2, .long v4] : List Value).toArray 8 from by rw [ha]]
  clear ha
  have hS : va_S (xA ad) s.heap s.heap [] := va_S.rf
  have hl := lv_entry ([.ref (ad 0), .int v1, .long v2, .long v4]) (n := 8) (Nat.le_of_ble_eq_true rfl)
  rw [lg_entry_eq]
  generalize (lg_sl ([.ref (ad 0), .int v1, .long v2, .long v4]) ++ List.replicate (8 - (lg_sl ([.ref (ad 0), .int v1, .long v2, .long v4])).length) Slot.unset).toArray = ls at hl ⊢
  replace hl : lv_has ls 8 [(0, .ref (ad 0)), (1, .int v1), (2, .long v2), (4, .long v4)] := hl
  refine x_Q (fun Q hQ => ?_)
  unfold f_MaskEdges_corner at hf
  refine lv_iload_n hx hb d_MaskEdges_corner_0 rfl (lv_at hl 1 rfl) ?_
  refine lv_if_lt (tgt := 19) hx hb d_MaskEdges_corner_1 (by decide) (fun hc => ?_) (fun hc => ?_)
  · replace hf := x_t hc hf
    refine lv_iconst (v := (0 : Int32)) hx hb d_MaskEdges_corner_19 (by decide) ?_
    replace hf := x_s hf
    subst hf
    subst hQ
    exact W.zret (v := (0 : Int32)) hx hb hr (xz_n (by decide)) (fun t ht hW => ⟨⟨rfl, by rw [ht]; exact hP⟩, hS.F ht⟩) hS.2.2 d_MaskEdges_corner_20
  · replace hf := x_f hc hf
    refine lv_iload_n hx hb d_MaskEdges_corner_4 rfl (lv_at hl 1 rfl) ?_
    refine lv_aload_n hx hb d_MaskEdges_corner_5 rfl (lv_at hl 0 rfl) ?_
    refine va_get (D := X.1) (ci := 5) (v := .int (X_outlineCount ST)) (C := "MaskEdges") (T := F_MaskEdges) (N := 14) hx hb ht in_MaskEdges hown hK hP 0 xg0 rfl 1 (by decide) (ht _ xw_156) (fun _ h9 => h9) rfl d_MaskEdges_corner_6 ?_
    refine lv_icmp_ge (tgt := 19) hx hb d_MaskEdges_corner_9 (by decide) (fun hc => ?_) (fun hc => ?_)
    · replace hf := x_t hc hf
      refine lv_iconst (v := (0 : Int32)) hx hb d_MaskEdges_corner_19 (by decide) ?_
      replace hf := x_s hf
      subst hf
      subst hQ
      exact W.zret (v := (0 : Int32)) hx hb hr (xz_n (by decide)) (fun t ht hW => ⟨⟨rfl, by rw [ht]; exact hP⟩, hS.F ht⟩) hS.2.2 d_MaskEdges_corner_20
    · replace hf := x_f hc hf
      refine lv_aload_n hx hb d_MaskEdges_corner_12 rfl (lv_at hl 0 rfl) ?_
      refine va_get (D := X.1) (ci := 5) (v := .int (X_pieceCount ST)) (C := "MaskEdges") (T := F_MaskEdges) (N := 14) hx hb ht in_MaskEdges hown hK hP 0 xg0 rfl 3 (by decide) (ht _ xw_158) (fun _ h9 => h9) rfl d_MaskEdges_corner_13 ?_
      refine lv_if_le (tgt := 21) hx hb d_MaskEdges_corner_16 (by decide) (fun hc => ?_) (fun hc => ?_)
      · replace hf := x_t hc hf
        refine lv_lload_n hx hb d_MaskEdges_corner_21 rfl (lv_at hl 2 rfl) ?_
        refine lv_lconst (v := (0 : Int64)) hx hb d_MaskEdges_corner_22 (by decide) ?_
        refine W.lcmp hx hb d_MaskEdges_corner_23 ?_
        refine lv_if_lt (tgt := 51) hx hb d_MaskEdges_corner_24 (by decide) (fun hc => ?_) (fun hc => ?_)
        · replace hf := x_t hc hf
          refine lv_iconst (v := (0 : Int32)) hx hb d_MaskEdges_corner_51 (by decide) ?_
          replace hf := x_s hf
          subst hf
          subst hQ
          exact W.zret (v := (0 : Int32)) hx hb hr (xz_n (by decide)) (fun t ht hW => ⟨⟨rfl, by rw [ht]; exact hP⟩, hS.F ht⟩) hS.2.2 d_MaskEdges_corner_52
        · replace hf := x_f hc hf
          refine lv_lload_n hx hb d_MaskEdges_corner_27 rfl (lv_at hl 2 rfl) ?_
          refine lv_ldc2 (v := (48 : Int64)) hx hb hown (ht _ xw_191) d_MaskEdges_corner_28 ?_
          refine W.lcmp hx hb d_MaskEdges_corner_31 ?_
          refine lv_if_gt (tgt := 51) hx hb d_MaskEdges_corner_32 (by decide) (fun hc => ?_) (fun hc => ?_)
          · replace hf := x_t hc hf
            refine lv_iconst (v := (0 : Int32)) hx hb d_MaskEdges_corner_51 (by decide) ?_
            replace hf := x_s hf
            subst hf
            subst hQ
            exact W.zret (v := (0 : Int32)) hx hb hr (xz_n (by decide)) (fun t ht hW => ⟨⟨rfl, by rw [ht]; exact hP⟩, hS.F ht⟩) hS.2.2 d_MaskEdges_corner_52
          · replace hf := x_f hc hf
            refine lv_lload hx hb d_MaskEdges_corner_35 (lv_at hl 3 rfl) ?_
            refine lv_lconst (v := (0 : Int64)) hx hb d_MaskEdges_corner_37 (by decide) ?_
            refine W.lcmp hx hb d_MaskEdges_corner_38 ?_
            refine lv_if_lt (tgt := 51) hx hb d_MaskEdges_corner_39 (by decide) (fun hc => ?_) (fun hc => ?_)
            · replace hf := x_t hc hf
              refine lv_iconst (v := (0 : Int32)) hx hb d_MaskEdges_corner_51 (by decide) ?_
              replace hf := x_s hf
              subst hf
              subst hQ
              exact W.zret (v := (0 : Int32)) hx hb hr (xz_n (by decide)) (fun t ht hW => ⟨⟨rfl, by rw [ht]; exact hP⟩, hS.F ht⟩) hS.2.2 d_MaskEdges_corner_52
            · replace hf := x_f hc hf
              refine lv_lload hx hb d_MaskEdges_corner_42 (lv_at hl 3 rfl) ?_
              refine lv_ldc2 (v := (48 : Int64)) hx hb hown (ht _ xw_191) d_MaskEdges_corner_44 ?_
              refine W.lcmp hx hb d_MaskEdges_corner_47 ?_
              refine lv_if_le (tgt := 53) hx hb d_MaskEdges_corner_48 (by decide) (fun hc => ?_) (fun hc => ?_)
              · replace hf := x_t hc hf
                refine lv_aload_n hx hb d_MaskEdges_corner_53 rfl (lv_at hl 0 rfl) ?_
                refine va_get (D := X.1) (ci := 5) (v := .ref (ad 1)) (C := "MaskEdges") (T := F_MaskEdges) (N := 14) hx hb ht in_MaskEdges hown hK hP 0 xg0 rfl 0 (by decide) (ht _ xw_155) (fun _ h9 => h9) rfl d_MaskEdges_corner_54 ?_
                refine lv_iload_n hx hb d_MaskEdges_corner_57 rfl (lv_at hl 1 rfl) ?_
                obtain ⟨g58, hf⟩ := x_g hf
                have hk58 := xin_lt g58
                refine va_aldq hx hb hK hP 1 2 xg1 rfl (xin_in g58) d_MaskEdges_corner_58 ?_
                refine W.eq (g2 := F0 m 59 ls [.ref (ad (16 + v1.toNatClampNeg))]) rfl ?_
                refine lv_astore (lv' := [(6, .ref (ad (16 + v1.toNatClampNeg))), (0, .ref (ad 0)), (1, .int v1), (2, .long v2), (4, .long v4)]) hx hb d_MaskEdges_corner_59 hl (by decide) rfl (fun ls hl => ?_)
                refine lv_aload hx hb d_MaskEdges_corner_61 (lv_at hl 0 rfl) ?_
                refine lv_lload_n hx hb d_MaskEdges_corner_63 rfl (lv_at hl 3 rfl) ?_
                refine lv_l2i hx hb d_MaskEdges_corner_64 rfl ?_
                refine lv_lload hx hb d_MaskEdges_corner_65 (lv_at hl 4 rfl) ?_
                refine lv_l2i hx hb d_MaskEdges_corner_67 rfl ?_
                obtain ⟨c68, e68, hf⟩ := x_b hf
                refine xc (va_runV (As := [.int v2.toInt32, .int v4.toInt32]) (rest := []) ⟨hx, hb, hml, hown, ht⟩ (c_Outline_takeCorner l X (ad (16 + v1.toNatClampNeg)) (ad (20 + v1.toNatClampNeg)) (ad (24 + v1.toNatClampNeg)) (X_outlines ST v1.toNatClampNeg) v2.toInt32 v4.toInt32 (xs_outlines hk58 hP) (xnd3 hA (by omega) (by omega) (by omega) (by omega) (by omega) (by omega)) e68) (cwV 2 ht (xgV xw_192 xw_193 xw_194 xw_41 xw_195) rfl rfl rfl (by decide +kernel) ⟨Nat.le_of_ble_eq_true rfl, Nat.le_of_ble_eq_true rfl⟩) (xPV hKK (va_recv hK hP (ci := 3) (q0 := (16 + v1.toNatClampNeg)) rfl (xg_outlines0 hk58))) rfl rfl hl.1 rfl (lv_room (Nat.le_of_ble_eq_true rfl)) d_MaskEdges_corner_68 ⟨Nat.zero_le _, Nat.zero_le _⟩) (fun H1 L hq hz => ?_)
                replace hS := xS_call hS hz (fun q h => by
      simp only [xAl, List.mem_cons, List.mem_nil_iff, or_false] at h
      rcases h with rfl | rfl | rfl <;> exact xA_in _ (by omega))
                replace hP := xu_outlines hk58 hA hP hq hz
                clear hq hz
                refine W.eq (g2 := F0 m 71 ls [.int c68.1]) rfl ?_
                refine lv_istore (lv' := [(7, .int c68.1), (6, .ref (ad (16 + v1.toNatClampNeg))), (0, .ref (ad 0)), (1, .int v1), (2, .long v2), (4, .long v4)]) hx hb d_MaskEdges_corner_71 hl (by decide) rfl (fun ls hl => ?_)
                refine lv_iload hx hb d_MaskEdges_corner_73 (lv_at hl 0 rfl) ?_
                refine lv_if_eq (tgt := 96) hx hb d_MaskEdges_corner_75 (by decide) (fun hc => ?_) (fun hc => ?_)
                · replace hf := x_t hc hf
                  refine lv_iload hx hb d_MaskEdges_corner_96 (lv_at hl 0 rfl) ?_
                  obtain ⟨zr, hf⟩ := x_g hf
                  replace hf := x_s hf
                  subst hf
                  subst hQ
                  exact W.zret (v := c68.1) hx hb hr (xz_n zr) (fun t ht hW => ⟨⟨rfl, by rw [ht]; exact hP⟩, hS.F ht⟩) hS.2.2 d_MaskEdges_corner_98
                · replace hf := x_f hc hf
                  refine lv_aload hx hb d_MaskEdges_corner_78 (lv_at hl 1 rfl) ?_
                  refine va_get (D := X.1) (ci := 3) (v := .int (Outline_closed (X_outlines (X_u_outlines ST (va_up (X_outlines ST) v1.toNatClampNeg c68.2)) v1.toNatClampNeg))) (C := "MaskEdges$Outline") (T := F_Outline) (N := 4) hx hb ht in_Outline hown hK hP (16 + v1.toNatClampNeg) (xg_outlines0 hk58) rfl 3 (by decide) (ht _ xw_111) (fun _ h9 => h9) rfl d_MaskEdges_corner_80 ?_
                  refine lv_if_eq (tgt := 96) hx hb d_MaskEdges_corner_83 (by decide) (fun hc => ?_) (fun hc => ?_)
                  · replace hf := x_t hc hf
                    refine lv_iload hx hb d_MaskEdges_corner_96 (lv_at hl 0 rfl) ?_
                    obtain ⟨zr, hf⟩ := x_g hf
                    replace hf := x_s hf
                    subst hf
                    subst hQ
                    exact W.zret (v := c68.1) hx hb hr (xz_n zr) (fun t ht hW => ⟨⟨rfl, by rw [ht]; exact hP⟩, hS.F ht⟩) hS.2.2 d_MaskEdges_corner_98
                  · replace hf := x_f hc hf
                    refine lv_aload_n hx hb d_MaskEdges_corner_86 rfl (lv_at hl 2 rfl) ?_
                    refine lv_aload hx hb d_MaskEdges_corner_87 (lv_at hl 1 rfl) ?_
                    obtain ⟨c89, e89, hf⟩ := x_b hf
                    refine xc (va_runV (As := [.ref (ad (16 + v1.toNatClampNeg))]) (rest := []) ⟨hx, hb, hml, hown, ht⟩ (c_MaskEdges_addToTarget l X ad (X_u_outlines ST (va_up (X_outlines ST) v1.toNatClampNeg c68.2)) v1.toNatClampNeg hP hA hk58 e89) (cwV 1 ht (xgV xw_207 xw_208 xw_1 xw_37 xw_209) rfl rfl rfl (by decide +kernel) ⟨Nat.le_of_ble_eq_true rfl, Nat.le_of_ble_eq_true rfl⟩) (xPV hKK (va_recv hK hP (ci := 5) (q0 := 0) rfl xg0)) rfl rfl hl.1 rfl (lv_room (Nat.le_of_ble_eq_true rfl)) d_MaskEdges_corner_89 ⟨Nat.zero_le _, Nat.zero_le _⟩) (fun H1 L hq hz => ?_)
                    replace hS := xS_call hS hz (fun _ h => h)
                    replace hP : va_P X.1 vwCl (wX X ad c89) H1 := hq
                    clear hq hz
                    refine W.eq (g2 := F0 m 92 ls []) rfl ?_
                    refine lv_aload_n hx hb d_MaskEdges_corner_92 rfl (lv_at hl 2 rfl) ?_
                    obtain ⟨c93, e93, hf⟩ := x_b hf
                    refine xc (va_runV (As := []) (rest := []) ⟨hx, hb, hml, hown, ht⟩ (c_MaskEdges_renewMask l X ad c89 hP hA e93) (cwV 0 ht (xgV xw_226 xw_227 xw_2 xw_37 xw_228) rfl rfl rfl (by decide +kernel) ⟨Nat.le_of_ble_eq_true rfl, Nat.le_of_ble_eq_true rfl⟩) (xPV hKK (va_recv hK hP (ci := 5) (q0 := 0) rfl xg0)) rfl rfl hl.1 rfl (lv_room (Nat.le_of_ble_eq_true rfl)) d_MaskEdges_corner_93 ⟨Nat.zero_le _, Nat.zero_le _⟩) (fun H1 L hq hz => ?_)
                    replace hS := xS_call hS hz (fun _ h => h)
                    replace hP : va_P X.1 vwCl (wX X ad c93) H1 := hq
                    clear hq hz
                    refine W.eq (g2 := F0 m 96 ls []) rfl ?_
                    refine lv_iload hx hb d_MaskEdges_corner_96 (lv_at hl 0 rfl) ?_
                    obtain ⟨zr, hf⟩ := x_g hf
                    replace hf := x_s hf
                    subst hf
                    subst hQ
                    exact W.zret (v := c68.1) hx hb hr (xz_n zr) (fun t ht hW => ⟨⟨rfl, by rw [ht]; exact hP⟩, hS.F ht⟩) hS.2.2 d_MaskEdges_corner_98
              · replace hf := x_f hc hf
                refine lv_iconst (v := (0 : Int32)) hx hb d_MaskEdges_corner_51 (by decide) ?_
                replace hf := x_s hf
                subst hf
                subst hQ
                exact W.zret (v := (0 : Int32)) hx hb hr (xz_n (by decide)) (fun t ht hW => ⟨⟨rfl, by rw [ht]; exact hP⟩, hS.F ht⟩) hS.2.2 d_MaskEdges_corner_52
      · replace hf := x_f hc hf
        refine lv_iconst (v := (0 : Int32)) hx hb d_MaskEdges_corner_19 (by decide) ?_
        replace hf := x_s hf
        subst hf
        subst hQ
        exact W.zret (v := (0 : Int32)) hx hb hr (xz_n (by decide)) (fun t ht hW => ⟨⟨rfl, by rw [ht]; exact hP⟩, hS.F ht⟩) hS.2.2 d_MaskEdges_corner_20
def f_MaskEdges_kernel (v1 : Int32) (v2 : Int32) (ST : xSt) : Option (Int32 × xSt) :=
  (f_MaskEdges_within v1 (-20 : Int32) (20 : Int32)).bind fun c5 =>
  if c5 = 0 then
  some ((-2 : Int32), ST)
else
  (f_MaskEdges_within v2 (0 : Int32) (6 : Int32)).bind fun c15 =>
    if c15 = 0 then
    some ((-2 : Int32), ST)
  else
    (f_Exposure_addKernel v1 v2 (X_exposure ST)).bind fun c30 =>
      some (c30.1, (X_u_exposure ST c30.2))
set_option maxHeartbeats 4000000 in
set_option maxRecDepth 100000 in
theorem c_MaskEdges_kernel (l : Launch) (X : xG) {H : Heap} (ad : Nat → Nat) (ST : xSt) (v1 : Int32) (v2 : Int32) {res : Int32 × xSt} (hP : va_P X.1 vwCl (wX X ad ST) H) (hA : okA ad) (hf : f_MaskEdges_kernel v1 v2 ST = some res) : xM l y_MaskEdges_kernel (Cond.code y_MaskEdges_kernel prog_1_method_4_code 3 (some .int) :: xT) ({ frames := 1, cells := 0, slots := 0, locals := 22 } : Room) (xK X) [.ref (ad 0), .int v1, .int v2] H (xA ad) (some (.int res.1)) (fun H1 => va_P X.1 vwCl (wX X ad res.2) H1) := by
  refine Met.ofW (cc := prog_1_method_4_code) (maxL := 3) (ret := (some .int)) (by decide) rfl ?_
  intro p e s m args below meth c s₁ B hml hv
  obtain ⟨ha, hH, hKK⟩ := hv
  subst hH
  have hx := B.exec
  have hb := B.bytes
  have hr := B.returns
  have ht : ∀ w ∈ xT, w.before args s = true := fun w h => atoms_spec (ws := (Cond.code y_MaskEdges_kernel prog_1_method_4_code 3 (some .int) :: xT)) B.pre w (List.mem_cons_of_mem _ h)
  have hown : s.vm.findClass "MaskEdges" = some m.cls := findClass_of_methodNamed B.named
  have hlocks := B.notSynchronized
  have hK := hKK.1
  rw [show entryFrame m args 3 = entryFrame m ([.ref (ad 0), .int v1, .int v2] : List Value).toArray 3 from by rw [ha]]
  clear ha
  have hS : va_S (xA ad) s.heap s.heap [] := va_S.rf
  have hl := lv_entry ([.ref (ad 0), .int v1, .int v2]) (n := 3) (Nat.le_of_ble_eq_true rfl)
  rw [lg_entry_eq]
  generalize (lg_sl ([.ref (ad 0), .int v1, .int v2]) ++ List.replicate (3 - (lg_sl ([.ref (ad 0), .int v1, .int v2])).length) Slot.unset).toArray = ls at hl ⊢
  replace hl : lv_has ls 3 [(0, .ref (ad 0)), (1, .int v1), (2, .int v2)] := hl
  refine x_Q (fun Q hQ => ?_)
  unfold f_MaskEdges_kernel at hf
  refine lv_iload_n hx hb d_MaskEdges_kernel_0 rfl (lv_at hl 1 rfl) ?_
  refine lv_bipush (v := (-20 : Int32)) hx hb d_MaskEdges_kernel_1 (by decide) ?_
  refine lv_bipush (v := (20 : Int32)) hx hb d_MaskEdges_kernel_3 (by decide) ?_
  obtain ⟨c5, e5, hf⟩ := x_b hf
  refine xcR (va_runS (As := [.int v1, .int (-20 : Int32), .int (20 : Int32)]) (rest := []) ⟨hx, hb, hml, hown, ht⟩ (c_MaskEdges_within l X v1 (-20 : Int32) (20 : Int32) e5) (cwS 3 ht (xgS xw_263 xw_264 xw_37 xw_265) rfl rfl rfl (by decide +kernel) ⟨Nat.le_of_ble_eq_true rfl, Nat.le_of_ble_eq_true rfl⟩) (xPS hKK) rfl rfl hl.1 rfl (lv_room (Nat.le_of_ble_eq_true rfl)) d_MaskEdges_kernel_5 ⟨Nat.zero_le _, Nat.zero_le _⟩) ?_
  refine W.eq (g2 := F0 m 8 ls [.int c5]) rfl ?_
  refine lv_if_eq (tgt := 21) hx hb d_MaskEdges_kernel_8 (by decide) (fun hc => ?_) (fun hc => ?_)
  · replace hf := x_t hc hf
    refine lv_bipush (v := (-2 : Int32)) hx hb d_MaskEdges_kernel_21 (by decide) ?_
    replace hf := x_s hf
    subst hf
    subst hQ
    exact W.iret (v := (-2 : Int32)) hx hb hr (fun t ht hW => ⟨⟨rfl, by rw [ht]; exact hP⟩, hS.F ht⟩) hS.2.2 d_MaskEdges_kernel_23
  · replace hf := x_f hc hf
    refine lv_iload_n hx hb d_MaskEdges_kernel_11 rfl (lv_at hl 2 rfl) ?_
    refine lv_iconst (v := (0 : Int32)) hx hb d_MaskEdges_kernel_12 (by decide) ?_
    refine lv_bipush (v := (6 : Int32)) hx hb d_MaskEdges_kernel_13 (by decide) ?_
    obtain ⟨c15, e15, hf⟩ := x_b hf
    refine xcR (va_runS (As := [.int v2, .int (0 : Int32), .int (6 : Int32)]) (rest := []) ⟨hx, hb, hml, hown, ht⟩ (c_MaskEdges_within l X v2 (0 : Int32) (6 : Int32) e15) (cwS 3 ht (xgS xw_263 xw_264 xw_37 xw_265) rfl rfl rfl (by decide +kernel) ⟨Nat.le_of_ble_eq_true rfl, Nat.le_of_ble_eq_true rfl⟩) (xPS hKK) rfl rfl hl.1 rfl (lv_room (Nat.le_of_ble_eq_true rfl)) d_MaskEdges_kernel_15 ⟨Nat.zero_le _, Nat.zero_le _⟩) ?_
    refine W.eq (g2 := F0 m 18 ls [.int c15]) rfl ?_
    refine lv_if_ne (tgt := 24) hx hb d_MaskEdges_kernel_18 (by decide) (fun hc => ?_) (fun hc => ?_)
    · replace hf := x_f hc hf
      refine lv_aload_n hx hb d_MaskEdges_kernel_24 rfl (lv_at hl 0 rfl) ?_
      refine va_get (D := X.1) (ci := 5) (v := .ref (ad 11)) (C := "MaskEdges") (T := F_MaskEdges) (N := 14) hx hb ht in_MaskEdges hown hK hP 0 xg0 rfl 10 (by decide) (ht _ xw_165) (fun _ h9 => h9) rfl d_MaskEdges_kernel_25 ?_
      refine lv_iload_n hx hb d_MaskEdges_kernel_28 rfl (lv_at hl 1 rfl) ?_
      refine lv_iload_n hx hb d_MaskEdges_kernel_29 rfl (lv_at hl 2 rfl) ?_
      obtain ⟨c30, e30, hf⟩ := x_b hf
      refine xc (va_runV (As := [.int v1, .int v2]) (rest := []) ⟨hx, hb, hml, hown, ht⟩ (c_Exposure_addKernel l X (ad 11) (ad 12) (ad 13) (X_exposure ST) v1 v2 (xs_exposure hP) (xnd3 hA (by omega) (by omega) (by omega) (by omega) (by omega) (by omega)) e30) (cwV 2 ht (xgV xw_266 xw_267 xw_268 xw_39 xw_269) rfl rfl rfl (by decide +kernel) ⟨Nat.le_of_ble_eq_true rfl, Nat.le_of_ble_eq_true rfl⟩) (xPV hKK (va_recv hK hP (ci := 2) (q0 := 11) rfl xg11)) rfl rfl hl.1 rfl (lv_room (Nat.le_of_ble_eq_true rfl)) d_MaskEdges_kernel_30 ⟨Nat.zero_le _, Nat.zero_le _⟩) (fun H1 L hq hz => ?_)
      replace hS := xS_call hS hz (fun q h => by
      simp only [xAl, List.mem_cons, List.mem_nil_iff, or_false] at h
      rcases h with rfl | rfl | rfl <;> exact xA_in _ (by omega))
      replace hP := xu_exposure hA hP hq hz
      clear hq hz
      refine W.eq (g2 := F0 m 33 ls [.int c30.1]) rfl ?_
      replace hf := x_s hf
      subst hf
      subst hQ
      exact W.iret (v := c30.1) hx hb hr (fun t ht hW => ⟨⟨rfl, by rw [ht]; exact hP⟩, hS.F ht⟩) hS.2.2 d_MaskEdges_kernel_33
    · replace hf := x_t hc hf
      refine lv_bipush (v := (-2 : Int32)) hx hb d_MaskEdges_kernel_21 (by decide) ?_
      replace hf := x_s hf
      subst hf
      subst hQ
      exact W.iret (v := (-2 : Int32)) hx hb hr (fun t ht hW => ⟨⟨rfl, by rw [ht]; exact hP⟩, hS.F ht⟩) hS.2.2 d_MaskEdges_kernel_23
def f_MaskEdges_piecesFor_23 (ST : xSt) (r23 : Int32 → Int32 → Int32 → Nat → Int32 → Option (Int32)) (k58 : Int32 → Int32 → Int32 → Option (Int32)) (v1 : Int32) (v2 : Int32) (v3 : Int32) (kv4 : Nat) (v5 : Int32) : Option (Int32) :=
  if (Outline_closed (X_outlines ST kv4)) = 0 then
  k58 v1 v2 v3
else
  if (Outline_corners (X_outlines ST kv4)) ≤ v5 then
    k58 v1 v2 v3
  else
    (f_Outline_partsOf (X_outlines ST kv4) v5 v1).bind fun c47 =>
      r23 v1 (v2 + c47) v3 kv4 (v5 + (1 : Int32))
def f_MaskEdges_piecesFor_58 (ST : xSt) (r4 : Int32 → Int32 → Int32 → Option (Int32)) (v1 : Int32) (v2 : Int32) (v3 : Int32) : Option (Int32) :=
  r4 v1 v2 (v3 + (1 : Int32))
def f_MaskEdges_piecesFor_4 (ST : xSt) (r4 : Int32 → Int32 → Int32 → Option (Int32)) (v1 : Int32) (v2 : Int32) (v3 : Int32) : Option (Int32) :=
  if (X_outlineCount ST) ≤ v3 then
  some v2
else
  if xin v3 4 = true then
    (xloop (fun r => f_MaskEdges_piecesFor_23 ST r (f_MaskEdges_piecesFor_58 ST r4)) (fun _ _ _ _ _ => none) 100000) v1 v2 v3 v3.toNatClampNeg (0 : Int32)
  else none
def f_MaskEdges_piecesFor (ST : xSt) (v1 : Int32) : Option (Int32) :=
  (xloop (fun r => f_MaskEdges_piecesFor_4 ST r) (fun _ _ _ => none) 100000) v1 (0 : Int32) (0 : Int32)
set_option maxHeartbeats 4000000 in
set_option maxRecDepth 100000 in
theorem c_MaskEdges_piecesFor (l : Launch) (X : xG) {H : Heap} (ad : Nat → Nat) (ST : xSt) (v1 : Int32) {res : Int32} (hP : va_P X.1 vwCl (wX X ad ST) H) (hf : f_MaskEdges_piecesFor ST v1 = some res) : xM l y_MaskEdges_piecesFor (Cond.code y_MaskEdges_piecesFor prog_1_method_25_code 6 (some .int) :: xT) ({ frames := 4, cells := 0, slots := 0, locals := 87 } : Room) (xK X) [.ref (ad 0), .int v1] H xNo (some (.int res)) (fun H1 => H1 = H) := by
  refine Met.ofW (cc := prog_1_method_25_code) (maxL := 6) (ret := (some .int)) (by decide) rfl ?_
  intro p e s m args below meth c s₁ B hml hv
  obtain ⟨ha, hH, hKK⟩ := hv
  subst hH
  have hx := B.exec
  have hb := B.bytes
  have hr := B.returns
  have ht : ∀ w ∈ xT, w.before args s = true := fun w h => atoms_spec (ws := (Cond.code y_MaskEdges_piecesFor prog_1_method_25_code 6 (some .int) :: xT)) B.pre w (List.mem_cons_of_mem _ h)
  have hown : s.vm.findClass "MaskEdges" = some m.cls := findClass_of_methodNamed B.named
  have hlocks := B.notSynchronized
  have hK := hKK.1
  rw [show entryFrame m args 6 = entryFrame m ([.ref (ad 0), .int v1] : List Value).toArray 6 from by rw [ha]]
  clear ha
  have hl := lv_entry ([.ref (ad 0), .int v1]) (n := 6) (Nat.le_of_ble_eq_true rfl)
  rw [lg_entry_eq]
  generalize (lg_sl ([.ref (ad 0), .int v1]) ++ List.replicate (6 - (lg_sl ([.ref (ad 0), .int v1])).length) Slot.unset).toArray = ls at hl ⊢
  replace hl : lv_has ls 6 [(0, .ref (ad 0)), (1, .int v1)] := hl
  refine x_Q (fun Q hQ => ?_)
  have hL23 : ∀ (k58 : Int32 → Int32 → Int32 → Option (Int32)) (hk58 : ∀ (v1 : Int32) (v2 : Int32) (v3 : Int32), ∀ (ls : Array Slot), lv_has ls 6 [(0, .ref (ad 0)), (1, .int v1), (2, .int v2), (3, .int v3)] → k58 v1 v2 v3 = some res → W p l e (headSpec (Cond.code y_MaskEdges_piecesFor prog_1_method_25_code 6 (some .int) :: xT) ({ frames := 4, cells := 0, slots := 0, locals := 87 } : Room)).room s m args below meth c s.heap [] 0 0 Q (F0 m 58 ls [])), ∀ (n : Nat), ∀ (v1 : Int32) (v2 : Int32) (v3 : Int32) (kv4 : Nat) (v5 : Int32), kv4 < 4 → ∀ (ls : Array Slot), lv_has ls 6 [(0, .ref (ad 0)), (1, .int v1), (2, .int v2), (3, .int v3), (4, .ref (ad (16 + kv4))), (5, .int v5)] → (xloop (fun r => f_MaskEdges_piecesFor_23 ST r k58) (fun _ _ _ _ _ => none) n) v1 v2 v3 kv4 v5 = some res → W p l e (headSpec (Cond.code y_MaskEdges_piecesFor prog_1_method_25_code 6 (some .int) :: xT) ({ frames := 4, cells := 0, slots := 0, locals := 87 } : Room)).room s m args below meth c s.heap [] 0 0 Q (F0 m 23 ls []) := by
    intro k58 hk58
    intro n
    induction n with
    | zero => intro v1 v2 v3 kv4 v5 hkv4 ls hl hf; cases hf
    | succ n ih =>
      intro v1 v2 v3 kv4 v5 hkv4 ls hl hf
      replace hf : f_MaskEdges_piecesFor_23 ST (xloop (fun r => f_MaskEdges_piecesFor_23 ST r k58) (fun _ _ _ _ _ => none) n) k58 v1 v2 v3 kv4 v5 = some res := hf
      have hr23 := ih
      clear ih
      unfold f_MaskEdges_piecesFor_23 at hf
      refine lv_aload hx hb d_MaskEdges_piecesFor_23 (lv_at hl 4 rfl) ?_
      refine va_get (D := X.1) (ci := 3) (v := .int (Outline_closed (X_outlines ST kv4))) (C := "MaskEdges$Outline") (T := F_Outline) (N := 4) hx hb ht in_Outline hown hK hP (16 + kv4) (xg_outlines0 hkv4) rfl 3 (by decide) (ht _ xw_111) (fun _ h9 => h9) rfl d_MaskEdges_piecesFor_25 ?_
      refine lv_if_eq (tgt := 58) hx hb d_MaskEdges_piecesFor_28 (by decide) (fun hc => ?_) (fun hc => ?_)
      · replace hf := x_t hc hf
        exact hk58 v1 v2 v3  ls (lv_sub hl [0, 1, 2, 3] rfl) hf
      · replace hf := x_f hc hf
        refine lv_iload hx hb d_MaskEdges_piecesFor_31 (lv_at hl 5 rfl) ?_
        refine lv_aload hx hb d_MaskEdges_piecesFor_33 (lv_at hl 4 rfl) ?_
        refine va_get (D := X.1) (ci := 3) (v := .int (Outline_corners (X_outlines ST kv4))) (C := "MaskEdges$Outline") (T := F_Outline) (N := 4) hx hb ht in_Outline hown hK hP (16 + kv4) (xg_outlines0 hkv4) rfl 2 (by decide) (ht _ xw_109) (fun _ h9 => h9) rfl d_MaskEdges_piecesFor_35 ?_
        refine lv_icmp_ge (tgt := 58) hx hb d_MaskEdges_piecesFor_38 (by decide) (fun hc => ?_) (fun hc => ?_)
        · replace hf := x_t hc hf
          exact hk58 v1 v2 v3  ls (lv_sub hl [0, 1, 2, 3] rfl) hf
        · replace hf := x_f hc hf
          refine lv_iload_n hx hb d_MaskEdges_piecesFor_41 rfl (lv_at hl 2 rfl) ?_
          refine lv_aload hx hb d_MaskEdges_piecesFor_42 (lv_at hl 4 rfl) ?_
          refine lv_iload hx hb d_MaskEdges_piecesFor_44 (lv_at hl 5 rfl) ?_
          refine lv_iload_n hx hb d_MaskEdges_piecesFor_46 rfl (lv_at hl 1 rfl) ?_
          obtain ⟨c47, e47, hf⟩ := x_b hf
          refine xcR (va_runV (As := [.int v5, .int v1]) (rest := [.int v2]) ⟨hx, hb, hml, hown, ht⟩ (c_Outline_partsOf l X (ad (16 + kv4)) (ad (20 + kv4)) (ad (24 + kv4)) (X_outlines ST kv4) v5 v1 (xs_outlines hkv4 hP) e47) (cwV 2 ht (xgV xw_277 xw_278 xw_279 xw_41 xw_280) rfl rfl rfl (by decide +kernel) ⟨Nat.le_of_ble_eq_true rfl, Nat.le_of_ble_eq_true rfl⟩) (xPV hKK (va_recv hK hP (ci := 3) (q0 := (16 + kv4)) rfl (xg_outlines0 hkv4))) rfl rfl hl.1 rfl (lv_room (Nat.le_of_ble_eq_true rfl)) d_MaskEdges_piecesFor_47 ⟨Nat.zero_le _, Nat.zero_le _⟩) ?_
          refine W.eq (g2 := F0 m 50 ls [.int c47, .int v2]) rfl ?_
          refine lv_iadd hx hb d_MaskEdges_piecesFor_50 ?_
          refine lv_istore_n (lv' := [(2, .int (v2 + c47)), (0, .ref (ad 0)), (1, .int v1), (3, .int v3), (4, .ref (ad (16 + kv4))), (5, .int v5)]) hx hb d_MaskEdges_piecesFor_51 rfl hl (by decide) rfl (fun ls hl => ?_)
          refine lv_iinc (v := (v5 + (1 : Int32))) (lv' := [(5, .int (v5 + (1 : Int32))), (2, .int (v2 + c47)), (0, .ref (ad 0)), (1, .int v1), (3, .int v3), (4, .ref (ad (16 + kv4)))]) hx hb d_MaskEdges_piecesFor_52 hl (k := 5) rfl rfl (by decide) rfl (fun ls hl => ?_)
          refine lv_goto (tgt := 23) hx hb d_MaskEdges_piecesFor_55 (by decide) ?_
          exact hr23 v1 (v2 + c47) v3 kv4 (v5 + (1 : Int32)) hkv4  ls (lv_sub hl [2, 3, 1, 4, 5, 0] rfl) hf
  have hL58 : ∀ (r4 : Int32 → Int32 → Int32 → Option (Int32)) (hr4 : ∀ (v1 : Int32) (v2 : Int32) (v3 : Int32), ∀ (ls : Array Slot), lv_has ls 6 [(0, .ref (ad 0)), (1, .int v1), (2, .int v2), (3, .int v3)] → r4 v1 v2 v3 = some res → W p l e (headSpec (Cond.code y_MaskEdges_piecesFor prog_1_method_25_code 6 (some .int) :: xT) ({ frames := 4, cells := 0, slots := 0, locals := 87 } : Room)).room s m args below meth c s.heap [] 0 0 Q (F0 m 4 ls [])), ∀ (v1 : Int32) (v2 : Int32) (v3 : Int32), ∀ (ls : Array Slot), lv_has ls 6 [(0, .ref (ad 0)), (1, .int v1), (2, .int v2), (3, .int v3)] → f_MaskEdges_piecesFor_58 ST r4 v1 v2 v3 = some res → W p l e (headSpec (Cond.code y_MaskEdges_piecesFor prog_1_method_25_code 6 (some .int) :: xT) ({ frames := 4, cells := 0, slots := 0, locals := 87 } : Room)).room s m args below meth c s.heap [] 0 0 Q (F0 m 58 ls []) := by
    intro r4 hr4 v1 v2 v3 ls hl hf
    unfold f_MaskEdges_piecesFor_58 at hf
    refine lv_iinc (v := (v3 + (1 : Int32))) (lv' := [(3, .int (v3 + (1 : Int32))), (0, .ref (ad 0)), (1, .int v1), (2, .int v2)]) hx hb d_MaskEdges_piecesFor_58 hl (k := 3) rfl rfl (by decide) rfl (fun ls hl => ?_)
    refine lv_goto (tgt := 4) hx hb d_MaskEdges_piecesFor_61 (by decide) ?_
    exact hr4 v1 v2 (v3 + (1 : Int32))  ls (lv_sub hl [1, 2, 3, 0] rfl) hf
  have hL4 : ∀ (n : Nat), ∀ (v1 : Int32) (v2 : Int32) (v3 : Int32), ∀ (ls : Array Slot), lv_has ls 6 [(0, .ref (ad 0)), (1, .int v1), (2, .int v2), (3, .int v3)] → (xloop (fun r => f_MaskEdges_piecesFor_4 ST r) (fun _ _ _ => none) n) v1 v2 v3 = some res → W p l e (headSpec (Cond.code y_MaskEdges_piecesFor prog_1_method_25_code 6 (some .int) :: xT) ({ frames := 4, cells := 0, slots := 0, locals := 87 } : Room)).room s m args below meth c s.heap [] 0 0 Q (F0 m 4 ls []) := by
    intro n
    induction n with
    | zero => intro v1 v2 v3 ls hl hf; cases hf
    | succ n ih =>
      intro v1 v2 v3 ls hl hf
      replace hf : f_MaskEdges_piecesFor_4 ST (xloop (fun r => f_MaskEdges_piecesFor_4 ST r) (fun _ _ _ => none) n) v1 v2 v3 = some res := hf
      have hr4 := ih
      clear ih
      unfold f_MaskEdges_piecesFor_4 at hf
      refine lv_iload_n hx hb d_MaskEdges_piecesFor_4 rfl (lv_at hl 3 rfl) ?_
      refine lv_aload_n hx hb d_MaskEdges_piecesFor_5 rfl (lv_at hl 0 rfl) ?_
      refine va_get (D := X.1) (ci := 5) (v := .int (X_outlineCount ST)) (C := "MaskEdges") (T := F_MaskEdges) (N := 14) hx hb ht in_MaskEdges hown hK hP 0 xg0 rfl 1 (by decide) (ht _ xw_156) (fun _ h9 => h9) rfl d_MaskEdges_piecesFor_6 ?_
      refine lv_icmp_ge (tgt := 64) hx hb d_MaskEdges_piecesFor_9 (by decide) (fun hc => ?_) (fun hc => ?_)
      · replace hf := x_t hc hf
        refine lv_iload_n hx hb d_MaskEdges_piecesFor_64 rfl (lv_at hl 2 rfl) ?_
        replace hf := x_s hf
        subst hf
        subst hQ
        exact W.iret (v := v2) hx hb hr (fun t ht hW => ⟨⟨rfl, ht⟩, x_F0 ht⟩) x_l0 d_MaskEdges_piecesFor_65
      · replace hf := x_f hc hf
        refine lv_aload_n hx hb d_MaskEdges_piecesFor_12 rfl (lv_at hl 0 rfl) ?_
        refine va_get (D := X.1) (ci := 5) (v := .ref (ad 1)) (C := "MaskEdges") (T := F_MaskEdges) (N := 14) hx hb ht in_MaskEdges hown hK hP 0 xg0 rfl 0 (by decide) (ht _ xw_155) (fun _ h9 => h9) rfl d_MaskEdges_piecesFor_13 ?_
        refine lv_iload_n hx hb d_MaskEdges_piecesFor_16 rfl (lv_at hl 3 rfl) ?_
        obtain ⟨g17, hf⟩ := x_g hf
        have hk17 := xin_lt g17
        refine va_aldq hx hb hK hP 1 2 xg1 rfl (xin_in g17) d_MaskEdges_piecesFor_17 ?_
        refine W.eq (g2 := F0 m 18 ls [.ref (ad (16 + v3.toNatClampNeg))]) rfl ?_
        refine lv_astore (lv' := [(4, .ref (ad (16 + v3.toNatClampNeg))), (0, .ref (ad 0)), (1, .int v1), (2, .int v2), (3, .int v3)]) hx hb d_MaskEdges_piecesFor_18 hl (by decide) rfl (fun ls hl => ?_)
        refine lv_iconst (v := (0 : Int32)) hx hb d_MaskEdges_piecesFor_20 (by decide) ?_
        refine lv_istore (lv' := [(5, .int (0 : Int32)), (4, .ref (ad (16 + v3.toNatClampNeg))), (0, .ref (ad 0)), (1, .int v1), (2, .int v2), (3, .int v3)]) hx hb d_MaskEdges_piecesFor_21 hl (by decide) rfl (fun ls hl => ?_)
        exact (hL23 _ (hL58 _ hr4) 100000) v1 v2 v3 v3.toNatClampNeg (0 : Int32) hk17  ls (lv_sub hl [2, 3, 4, 5, 1, 0] rfl) hf
  unfold f_MaskEdges_piecesFor at hf
  refine lv_iconst (v := (0 : Int32)) hx hb d_MaskEdges_piecesFor_0 (by decide) ?_
  refine lv_istore_n (lv' := [(2, .int (0 : Int32)), (0, .ref (ad 0)), (1, .int v1)]) hx hb d_MaskEdges_piecesFor_1 rfl hl (by decide) rfl (fun ls hl => ?_)
  refine lv_iconst (v := (0 : Int32)) hx hb d_MaskEdges_piecesFor_2 (by decide) ?_
  refine lv_istore_n (lv' := [(3, .int (0 : Int32)), (2, .int (0 : Int32)), (0, .ref (ad 0)), (1, .int v1)]) hx hb d_MaskEdges_piecesFor_3 rfl hl (by decide) rfl (fun ls hl => ?_)
  exact (hL4 100000) v1 (0 : Int32) (0 : Int32)  ls (lv_sub hl [2, 3, 1, 0] rfl) hf
def f_MaskEdges_cutOutline_28 (r28 : Nat → Int32 → Int32 → Int32 → Int32 → xSt → Option (xSt)) (k78 : Nat → Int32 → Int32 → xSt → Option (xSt)) (kv1 : Nat) (v2 : Int32) (v3 : Int32) (v4 : Int32) (v5 : Int32) (ST : xSt) : Option (xSt) :=
  if v4 ≤ v5 then
  k78 kv1 v2 v3 ST
else
  if (120 : Int32) ≤ (X_pieceCount ST) then
    k78 kv1 v2 v3 ST
  else
    if xin (X_pieceCount ST) 120 = true then
      (f_Piece_lieOn (X_outlines ST kv1) v3 v5 v4 (X_pieces ST ((X_pieceCount ST).toNatClampNeg))).bind fun c59 =>
        r28 kv1 v2 v3 v4 (v5 + (1 : Int32)) (X_u_pieceCount (X_u_pieces ST (va_up (X_pieces ST) ((X_pieceCount ST).toNatClampNeg) c59)) ((X_pieceCount (X_u_pieces ST (va_up (X_pieces ST) ((X_pieceCount ST).toNatClampNeg) c59))) + (1 : Int32)))
    else none
def f_MaskEdges_cutOutline_78 (r2 : Nat → Int32 → Int32 → xSt → Option (xSt)) (kv1 : Nat) (v2 : Int32) (v3 : Int32) (ST : xSt) : Option (xSt) :=
  r2 kv1 v2 (v3 + (1 : Int32)) ST
def f_MaskEdges_cutOutline_2 (r2 : Nat → Int32 → Int32 → xSt → Option (xSt)) (kv1 : Nat) (v2 : Int32) (v3 : Int32) (ST : xSt) : Option (xSt) :=
  if (Outline_closed (X_outlines ST kv1)) = 0 then
  some ST
else
  if (Outline_corners (X_outlines ST kv1)) ≤ v3 then
    some ST
  else
    (f_Outline_partsOf (X_outlines ST kv1) v3 v2).bind fun c20 =>
      (xloop (fun r => f_MaskEdges_cutOutline_28 r (f_MaskEdges_cutOutline_78 r2)) (fun _ _ _ _ _ _ => none) 100000) kv1 v2 v3 c20 (0 : Int32) ST
def f_MaskEdges_cutOutline (k1 : Nat) (v2 : Int32) (ST : xSt) : Option (xSt) :=
  (xloop (fun r => f_MaskEdges_cutOutline_2 r) (fun _ _ _ _ => none) 100000) k1 v2 (0 : Int32) ST
set_option maxHeartbeats 4000000 in
set_option maxRecDepth 100000 in
theorem c_MaskEdges_cutOutline (l : Launch) (X : xG) {H : Heap} (ad : Nat → Nat) (ST : xSt) (k1 : Nat) (v2 : Int32) {res : xSt} (hP : va_P X.1 vwCl (wX X ad ST) H) (hA : okA ad) (hk1 : k1 < 4) (hf : f_MaskEdges_cutOutline k1 v2 ST = some res) : xM l y_MaskEdges_cutOutline (Cond.code y_MaskEdges_cutOutline prog_1_method_26_code 6 none :: xT) ({ frames := 4, cells := 0, slots := 0, locals := 100 } : Room) (xK X) [.ref (ad 0), .ref (ad (16 + k1)), .int v2] H (xA ad) none (fun H1 => va_P X.1 vwCl (wX X ad res) H1) := by
  refine Met.ofW (cc := prog_1_method_26_code) (maxL := 6) (ret := none) (by decide) rfl ?_
  intro p e s m args below meth c s₁ B hml hv
  obtain ⟨ha, hH, hKK⟩ := hv
  subst hH
  have hx := B.exec
  have hb := B.bytes
  have hr := B.returns
  have ht : ∀ w ∈ xT, w.before args s = true := fun w h => atoms_spec (ws := (Cond.code y_MaskEdges_cutOutline prog_1_method_26_code 6 none :: xT)) B.pre w (List.mem_cons_of_mem _ h)
  have hown : s.vm.findClass "MaskEdges" = some m.cls := findClass_of_methodNamed B.named
  have hlocks := B.notSynchronized
  have hK := hKK.1
  rw [show entryFrame m args 6 = entryFrame m ([.ref (ad 0), .ref (ad (16 + k1)), .int v2] : List Value).toArray 6 from by rw [ha]]
  clear ha
  have hS : va_S (xA ad) s.heap s.heap [] := va_S.rf
  have hl := lv_entry ([.ref (ad 0), .ref (ad (16 + k1)), .int v2]) (n := 6) (Nat.le_of_ble_eq_true rfl)
  rw [lg_entry_eq]
  generalize (lg_sl ([.ref (ad 0), .ref (ad (16 + k1)), .int v2]) ++ List.replicate (6 - (lg_sl ([.ref (ad 0), .ref (ad (16 + k1)), .int v2])).length) Slot.unset).toArray = ls at hl ⊢
  replace hl : lv_has ls 6 [(0, .ref (ad 0)), (1, .ref (ad (16 + k1))), (2, .int v2)] := hl
  refine x_Q (fun Q hQ => ?_)
  have hL28 : ∀ (k78 : Nat → Int32 → Int32 → xSt → Option (xSt)) (hk78 : ∀ (kv1 : Nat) (v2 : Int32) (v3 : Int32) (ST : xSt), kv1 < 4 → ∀ (H : Heap) (locs : List Loc), va_P X.1 vwCl (wX X ad ST) H → va_S (xA ad) s.heap H locs → ∀ (ls : Array Slot), lv_has ls 6 [(0, .ref (ad 0)), (1, .ref (ad (16 + kv1))), (2, .int v2), (3, .int v3)] → k78 kv1 v2 v3 ST = some res → W p l e (headSpec (Cond.code y_MaskEdges_cutOutline prog_1_method_26_code 6 none :: xT) ({ frames := 4, cells := 0, slots := 0, locals := 100 } : Room)).room s m args below meth c H locs 0 0 Q (F0 m 78 ls [])), ∀ (n : Nat), ∀ (kv1 : Nat) (v2 : Int32) (v3 : Int32) (v4 : Int32) (v5 : Int32) (ST : xSt), kv1 < 4 → ∀ (H : Heap) (locs : List Loc), va_P X.1 vwCl (wX X ad ST) H → va_S (xA ad) s.heap H locs → ∀ (ls : Array Slot), lv_has ls 6 [(0, .ref (ad 0)), (1, .ref (ad (16 + kv1))), (2, .int v2), (3, .int v3), (4, .int v4), (5, .int v5)] → (xloop (fun r => f_MaskEdges_cutOutline_28 r k78) (fun _ _ _ _ _ _ => none) n) kv1 v2 v3 v4 v5 ST = some res → W p l e (headSpec (Cond.code y_MaskEdges_cutOutline prog_1_method_26_code 6 none :: xT) ({ frames := 4, cells := 0, slots := 0, locals := 100 } : Room)).room s m args below meth c H locs 0 0 Q (F0 m 28 ls []) := by
    intro k78 hk78
    intro n
    induction n with
    | zero => intro kv1 v2 v3 v4 v5 ST hkv1 H locs hP hS ls hl hf; cases hf
    | succ n ih =>
      intro kv1 v2 v3 v4 v5 ST hkv1 H locs hP hS ls hl hf
      replace hf : f_MaskEdges_cutOutline_28 (xloop (fun r => f_MaskEdges_cutOutline_28 r k78) (fun _ _ _ _ _ _ => none) n) k78 kv1 v2 v3 v4 v5 ST = some res := hf
      have hr28 := ih
      clear ih
      unfold f_MaskEdges_cutOutline_28 at hf
      refine lv_iload hx hb d_MaskEdges_cutOutline_28 (lv_at hl 5 rfl) ?_
      refine lv_iload hx hb d_MaskEdges_cutOutline_30 (lv_at hl 4 rfl) ?_
      refine lv_icmp_ge (tgt := 78) hx hb d_MaskEdges_cutOutline_32 (by decide) (fun hc => ?_) (fun hc => ?_)
      · replace hf := x_t hc hf
        exact hk78 kv1 v2 v3 ST hkv1 _ _ hP hS ls (lv_sub hl [0, 1, 2, 3] rfl) hf
      · replace hf := x_f hc hf
        refine lv_aload_n hx hb d_MaskEdges_cutOutline_35 rfl (lv_at hl 0 rfl) ?_
        refine va_get (D := X.1) (ci := 5) (v := .int (X_pieceCount ST)) (C := "MaskEdges") (T := F_MaskEdges) (N := 14) hx hb ht in_MaskEdges hown hK hP 0 xg0 rfl 3 (by decide) (ht _ xw_158) (fun _ h9 => h9) rfl d_MaskEdges_cutOutline_36 ?_
        refine lv_bipush (v := (120 : Int32)) hx hb d_MaskEdges_cutOutline_39 (by decide) ?_
        refine lv_icmp_ge (tgt := 78) hx hb d_MaskEdges_cutOutline_41 (by decide) (fun hc => ?_) (fun hc => ?_)
        · replace hf := x_t hc hf
          exact hk78 kv1 v2 v3 ST hkv1 _ _ hP hS ls (lv_sub hl [0, 1, 2, 3] rfl) hf
        · replace hf := x_f hc hf
          refine lv_aload_n hx hb d_MaskEdges_cutOutline_44 rfl (lv_at hl 0 rfl) ?_
          refine va_get (D := X.1) (ci := 5) (v := .ref (ad 2)) (C := "MaskEdges") (T := F_MaskEdges) (N := 14) hx hb ht in_MaskEdges hown hK hP 0 xg0 rfl 2 (by decide) (ht _ xw_157) (fun _ h9 => h9) rfl d_MaskEdges_cutOutline_45 ?_
          refine lv_aload_n hx hb d_MaskEdges_cutOutline_48 rfl (lv_at hl 0 rfl) ?_
          refine va_get (D := X.1) (ci := 5) (v := .int (X_pieceCount ST)) (C := "MaskEdges") (T := F_MaskEdges) (N := 14) hx hb ht in_MaskEdges hown hK hP 0 xg0 rfl 3 (by decide) (ht _ xw_158) (fun _ h9 => h9) rfl d_MaskEdges_cutOutline_49 ?_
          obtain ⟨g52, hf⟩ := x_g hf
          have hk52 := xin_lt g52
          refine va_aldq hx hb hK hP 2 3 xg2 rfl (xin_in g52) d_MaskEdges_cutOutline_52 ?_
          refine W.eq (g2 := F0 m 53 ls [.ref (ad (28 + ((X_pieceCount ST).toNatClampNeg)))]) rfl ?_
          refine lv_aload_n hx hb d_MaskEdges_cutOutline_53 rfl (lv_at hl 1 rfl) ?_
          refine lv_iload_n hx hb d_MaskEdges_cutOutline_54 rfl (lv_at hl 3 rfl) ?_
          refine lv_iload hx hb d_MaskEdges_cutOutline_55 (lv_at hl 5 rfl) ?_
          refine lv_iload hx hb d_MaskEdges_cutOutline_57 (lv_at hl 4 rfl) ?_
          obtain ⟨c59, e59, hf⟩ := x_b hf
          refine xc (va_runV (As := [.ref (ad (16 + kv1)), .int v3, .int v5, .int v4]) (rest := []) ⟨hx, hb, hml, hown, ht⟩ (c_Piece_lieOn l X (ad (28 + ((X_pieceCount ST).toNatClampNeg))) (X_pieces ST ((X_pieceCount ST).toNatClampNeg)) (ad (16 + kv1)) (ad (20 + kv1)) (ad (24 + kv1)) (X_outlines ST kv1) v3 v5 v4 (xs_pieces hk52 hP) (xs_outlines hkv1 hP) (xnd1 _) (fun q hq h => by
          simp only [xAl, List.mem_cons, List.mem_nil_iff, or_false] at hq h
          rcases hq with rfl | rfl | rfl <;> rcases h with h <;> exact absurd (hA _ _ (by omega) (by omega) h) (by omega)) e59) (cwV 4 ht (xgV xw_295 xw_296 xw_297 xw_42 xw_298) rfl rfl rfl (by decide +kernel) ⟨Nat.le_of_ble_eq_true rfl, Nat.le_of_ble_eq_true rfl⟩) (xPV hKK (va_recv hK hP (ci := 4) (q0 := (28 + ((X_pieceCount ST).toNatClampNeg))) rfl (xg_pieces0 hk52))) rfl rfl hl.1 rfl (lv_room (Nat.le_of_ble_eq_true rfl)) d_MaskEdges_cutOutline_59 ⟨Nat.zero_le _, Nat.zero_le _⟩) (fun H1 L hq hz => ?_)
          replace hS := xS_call hS hz (fun q h => by
          simp only [xAl, List.mem_cons, List.mem_nil_iff, or_false] at h
          rcases h with rfl <;> exact xA_in _ (by omega))
          replace hP := xu_pieces hk52 hA hP hq hz
          clear hq hz
          refine W.eq (g2 := F0 m 62 ls []) rfl ?_
          refine lv_aload_n hx hb d_MaskEdges_cutOutline_62 rfl (lv_at hl 0 rfl) ?_
          refine lv_dup hx hb d_MaskEdges_cutOutline_63 rfl ?_
          refine va_get (D := X.1) (ci := 5) (v := .int (X_pieceCount (X_u_pieces ST (va_up (X_pieces ST) ((X_pieceCount ST).toNatClampNeg) c59)))) (C := "MaskEdges") (T := F_MaskEdges) (N := 14) hx hb ht in_MaskEdges hown hK hP 0 xg0 rfl 3 (by decide) (ht _ xw_158) (fun _ h9 => h9) rfl d_MaskEdges_cutOutline_64 ?_
          refine lv_iconst (v := (1 : Int32)) hx hb d_MaskEdges_cutOutline_67 (by decide) ?_
          refine lv_iadd hx hb d_MaskEdges_cutOutline_68 ?_
          refine va_put (D := X.1) (ci := 5) (v := .int ((X_pieceCount (X_u_pieces ST (va_up (X_pieces ST) ((X_pieceCount ST).toNatClampNeg) c59))) + (1 : Int32))) (ty := .int) (C := "MaskEdges") (T := F_MaskEdges) (N := 14) hx hb ht in_MaskEdges ty_MaskEdges tyk_MaskEdges nm_MaskEdges hown hK hP (xD hA) hS 0 xg0 rfl 3 (by decide) (ht _ xw_158) (fun _ h9 => h9) rfl (by decide +kernel) rfl rfl (Nat.le_of_ble_eq_true rfl) d_MaskEdges_cutOutline_69 (fun H locs hP _ hS => ?_)
          replace hP : va_P X.1 vwCl (wX X ad (X_u_pieceCount (X_u_pieces ST (va_up (X_pieces ST) ((X_pieceCount ST).toNatClampNeg) c59)) ((X_pieceCount (X_u_pieces ST (va_up (X_pieces ST) ((X_pieceCount ST).toNatClampNeg) c59))) + (1 : Int32)))) H := xeq xm_pieceCount hP
          refine lv_iinc (v := (v5 + (1 : Int32))) (lv' := [(5, .int (v5 + (1 : Int32))), (0, .ref (ad 0)), (1, .ref (ad (16 + kv1))), (2, .int v2), (3, .int v3), (4, .int v4)]) hx hb d_MaskEdges_cutOutline_72 hl (k := 5) rfl rfl (by decide) rfl (fun ls hl => ?_)
          refine lv_goto (tgt := 28) hx hb d_MaskEdges_cutOutline_75 (by decide) ?_
          exact hr28 kv1 v2 v3 v4 (v5 + (1 : Int32)) (X_u_pieceCount (X_u_pieces ST (va_up (X_pieces ST) ((X_pieceCount ST).toNatClampNeg) c59)) ((X_pieceCount (X_u_pieces ST (va_up (X_pieces ST) ((X_pieceCount ST).toNatClampNeg) c59))) + (1 : Int32))) hkv1 _ _ hP hS ls (lv_sub hl [1, 2, 3, 4, 5, 0] rfl) hf
  have hL78 : ∀ (r2 : Nat → Int32 → Int32 → xSt → Option (xSt)) (hr2 : ∀ (kv1 : Nat) (v2 : Int32) (v3 : Int32) (ST : xSt), kv1 < 4 → ∀ (H : Heap) (locs : List Loc), va_P X.1 vwCl (wX X ad ST) H → va_S (xA ad) s.heap H locs → ∀ (ls : Array Slot), lv_has ls 6 [(0, .ref (ad 0)), (1, .ref (ad (16 + kv1))), (2, .int v2), (3, .int v3)] → r2 kv1 v2 v3 ST = some res → W p l e (headSpec (Cond.code y_MaskEdges_cutOutline prog_1_method_26_code 6 none :: xT) ({ frames := 4, cells := 0, slots := 0, locals := 100 } : Room)).room s m args below meth c H locs 0 0 Q (F0 m 2 ls [])), ∀ (kv1 : Nat) (v2 : Int32) (v3 : Int32) (ST : xSt), kv1 < 4 → ∀ (H : Heap) (locs : List Loc), va_P X.1 vwCl (wX X ad ST) H → va_S (xA ad) s.heap H locs → ∀ (ls : Array Slot), lv_has ls 6 [(0, .ref (ad 0)), (1, .ref (ad (16 + kv1))), (2, .int v2), (3, .int v3)] → f_MaskEdges_cutOutline_78 r2 kv1 v2 v3 ST = some res → W p l e (headSpec (Cond.code y_MaskEdges_cutOutline prog_1_method_26_code 6 none :: xT) ({ frames := 4, cells := 0, slots := 0, locals := 100 } : Room)).room s m args below meth c H locs 0 0 Q (F0 m 78 ls []) := by
    intro r2 hr2 kv1 v2 v3 ST hkv1 H locs hP hS ls hl hf
    unfold f_MaskEdges_cutOutline_78 at hf
    refine lv_iinc (v := (v3 + (1 : Int32))) (lv' := [(3, .int (v3 + (1 : Int32))), (0, .ref (ad 0)), (1, .ref (ad (16 + kv1))), (2, .int v2)]) hx hb d_MaskEdges_cutOutline_78 hl (k := 3) rfl rfl (by decide) rfl (fun ls hl => ?_)
    refine lv_goto (tgt := 2) hx hb d_MaskEdges_cutOutline_81 (by decide) ?_
    exact hr2 kv1 v2 (v3 + (1 : Int32)) ST hkv1 _ _ hP hS ls (lv_sub hl [1, 2, 3, 0] rfl) hf
  have hL2 : ∀ (n : Nat), ∀ (kv1 : Nat) (v2 : Int32) (v3 : Int32) (ST : xSt), kv1 < 4 → ∀ (H : Heap) (locs : List Loc), va_P X.1 vwCl (wX X ad ST) H → va_S (xA ad) s.heap H locs → ∀ (ls : Array Slot), lv_has ls 6 [(0, .ref (ad 0)), (1, .ref (ad (16 + kv1))), (2, .int v2), (3, .int v3)] → (xloop (fun r => f_MaskEdges_cutOutline_2 r) (fun _ _ _ _ => none) n) kv1 v2 v3 ST = some res → W p l e (headSpec (Cond.code y_MaskEdges_cutOutline prog_1_method_26_code 6 none :: xT) ({ frames := 4, cells := 0, slots := 0, locals := 100 } : Room)).room s m args below meth c H locs 0 0 Q (F0 m 2 ls []) := by
    intro n
    induction n with
    | zero => intro kv1 v2 v3 ST hkv1 H locs hP hS ls hl hf; cases hf
    | succ n ih =>
      intro kv1 v2 v3 ST hkv1 H locs hP hS ls hl hf
      replace hf : f_MaskEdges_cutOutline_2 (xloop (fun r => f_MaskEdges_cutOutline_2 r) (fun _ _ _ _ => none) n) kv1 v2 v3 ST = some res := hf
      have hr2 := ih
      clear ih
      unfold f_MaskEdges_cutOutline_2 at hf
      refine lv_aload_n hx hb d_MaskEdges_cutOutline_2 rfl (lv_at hl 1 rfl) ?_
      refine va_get (D := X.1) (ci := 3) (v := .int (Outline_closed (X_outlines ST kv1))) (C := "MaskEdges$Outline") (T := F_Outline) (N := 4) hx hb ht in_Outline hown hK hP (16 + kv1) (xg_outlines0 hkv1) rfl 3 (by decide) (ht _ xw_111) (fun _ h9 => h9) rfl d_MaskEdges_cutOutline_3 ?_
      refine lv_if_eq (tgt := 84) hx hb d_MaskEdges_cutOutline_6 (by decide) (fun hc => ?_) (fun hc => ?_)
      · replace hf := x_t hc hf
        replace hf := x_s hf
        subst hf
        subst hQ
        exact W.vret hx hb hr (fun t ht hW => ⟨⟨rfl, by rw [ht]; exact hP⟩, hS.F ht⟩) hS.2.2 d_MaskEdges_cutOutline_84
      · replace hf := x_f hc hf
        refine lv_iload_n hx hb d_MaskEdges_cutOutline_9 rfl (lv_at hl 3 rfl) ?_
        refine lv_aload_n hx hb d_MaskEdges_cutOutline_10 rfl (lv_at hl 1 rfl) ?_
        refine va_get (D := X.1) (ci := 3) (v := .int (Outline_corners (X_outlines ST kv1))) (C := "MaskEdges$Outline") (T := F_Outline) (N := 4) hx hb ht in_Outline hown hK hP (16 + kv1) (xg_outlines0 hkv1) rfl 2 (by decide) (ht _ xw_109) (fun _ h9 => h9) rfl d_MaskEdges_cutOutline_11 ?_
        refine lv_icmp_ge (tgt := 84) hx hb d_MaskEdges_cutOutline_14 (by decide) (fun hc => ?_) (fun hc => ?_)
        · replace hf := x_t hc hf
          replace hf := x_s hf
          subst hf
          subst hQ
          exact W.vret hx hb hr (fun t ht hW => ⟨⟨rfl, by rw [ht]; exact hP⟩, hS.F ht⟩) hS.2.2 d_MaskEdges_cutOutline_84
        · replace hf := x_f hc hf
          refine lv_aload_n hx hb d_MaskEdges_cutOutline_17 rfl (lv_at hl 1 rfl) ?_
          refine lv_iload_n hx hb d_MaskEdges_cutOutline_18 rfl (lv_at hl 3 rfl) ?_
          refine lv_iload_n hx hb d_MaskEdges_cutOutline_19 rfl (lv_at hl 2 rfl) ?_
          obtain ⟨c20, e20, hf⟩ := x_b hf
          refine xcR (va_runV (As := [.int v3, .int v2]) (rest := []) ⟨hx, hb, hml, hown, ht⟩ (c_Outline_partsOf l X (ad (16 + kv1)) (ad (20 + kv1)) (ad (24 + kv1)) (X_outlines ST kv1) v3 v2 (xs_outlines hkv1 hP) e20) (cwV 2 ht (xgV xw_277 xw_278 xw_279 xw_41 xw_280) rfl rfl rfl (by decide +kernel) ⟨Nat.le_of_ble_eq_true rfl, Nat.le_of_ble_eq_true rfl⟩) (xPV hKK (va_recv hK hP (ci := 3) (q0 := (16 + kv1)) rfl (xg_outlines0 hkv1))) rfl rfl hl.1 rfl (lv_room (Nat.le_of_ble_eq_true rfl)) d_MaskEdges_cutOutline_20 ⟨Nat.zero_le _, Nat.zero_le _⟩) ?_
          refine W.eq (g2 := F0 m 23 ls [.int c20]) rfl ?_
          refine lv_istore (lv' := [(4, .int c20), (0, .ref (ad 0)), (1, .ref (ad (16 + kv1))), (2, .int v2), (3, .int v3)]) hx hb d_MaskEdges_cutOutline_23 hl (by decide) rfl (fun ls hl => ?_)
          refine lv_iconst (v := (0 : Int32)) hx hb d_MaskEdges_cutOutline_25 (by decide) ?_
          refine lv_istore (lv' := [(5, .int (0 : Int32)), (4, .int c20), (0, .ref (ad 0)), (1, .ref (ad (16 + kv1))), (2, .int v2), (3, .int v3)]) hx hb d_MaskEdges_cutOutline_26 hl (by decide) rfl (fun ls hl => ?_)
          exact (hL28 _ (hL78 _ hr2) 100000) kv1 v2 v3 c20 (0 : Int32) ST hkv1 _ _ hP hS ls (lv_sub hl [2, 3, 4, 5, 1, 0] rfl) hf
  unfold f_MaskEdges_cutOutline at hf
  refine lv_iconst (v := (0 : Int32)) hx hb d_MaskEdges_cutOutline_0 (by decide) ?_
  refine lv_istore_n (lv' := [(3, .int (0 : Int32)), (0, .ref (ad 0)), (1, .ref (ad (16 + k1))), (2, .int v2)]) hx hb d_MaskEdges_cutOutline_1 rfl hl (by decide) rfl (fun ls hl => ?_)
  exact (hL2 100000) k1 v2 (0 : Int32) ST hk1 _ _ hP hS ls (lv_sub hl [1, 2, 3, 0] rfl) hf
def f_MaskEdges_cut_42 (r42 : Int32 → Int32 → xSt → Option (Int32 × xSt)) (k67 : xSt → Option (Int32 × xSt)) (v1 : Int32) (v3 : Int32) (ST : xSt) : Option (Int32 × xSt) :=
  if (X_outlineCount ST) ≤ v3 then
  k67 ST
else
  if xin v3 4 = true then
    (f_MaskEdges_cutOutline v3.toNatClampNeg v1 ST).bind fun c58 =>
      r42 v1 (v3 + (1 : Int32)) c58
  else none
def f_MaskEdges_cut_67 (ST : xSt) : Option (Int32 × xSt) :=
  (f_MaskEdges_renewMask ST).bind fun c68 =>
  some ((X_pieceCount c68), c68)
def f_MaskEdges_cut (v1 : Int32) (ST : xSt) : Option (Int32 × xSt) :=
  (f_MaskEdges_within v1 (1 : Int32) (48 : Int32)).bind fun c4 =>
  if c4 = 0 then
  some ((-2 : Int32), ST)
else
  (f_MaskEdges_piecesFor ST v1).bind fun c15 =>
    if c15 = 0 then
    some ((-3 : Int32), ST)
  else
    if c15 ≤ (120 : Int32) then
      (xloop (fun r => f_MaskEdges_cut_42 r f_MaskEdges_cut_67) (fun _ _ _ => none) 100000) v1 (0 : Int32) (X_u_pieceCount ST (0 : Int32))
    else
      some ((-4 : Int32), ST)
set_option maxHeartbeats 4000000 in
set_option maxRecDepth 100000 in
theorem c_MaskEdges_cut (l : Launch) (X : xG) {H : Heap} (ad : Nat → Nat) (ST : xSt) (v1 : Int32) {res : Int32 × xSt} (hP : va_P X.1 vwCl (wX X ad ST) H) (hA : okA ad) (hf : f_MaskEdges_cut v1 ST = some res) : xM l y_MaskEdges_cut (Cond.code y_MaskEdges_cut prog_1_method_5_code 4 (some .int) :: xT) ({ frames := 5, cells := 0, slots := 0, locals := 125 } : Room) (xK X) [.ref (ad 0), .int v1] H (xA ad) (some (.int res.1)) (fun H1 => va_P X.1 vwCl (wX X ad res.2) H1) := by
  refine Met.ofW (cc := prog_1_method_5_code) (maxL := 4) (ret := (some .int)) (by decide) rfl ?_
  intro p e s m args below meth c s₁ B hml hv
  obtain ⟨ha, hH, hKK⟩ := hv
  subst hH
  have hx := B.exec
  have hb := B.bytes
  have hr := B.returns
  have ht : ∀ w ∈ xT, w.before args s = true := fun w h => atoms_spec (ws := (Cond.code y_MaskEdges_cut prog_1_method_5_code 4 (some .int) :: xT)) B.pre w (List.mem_cons_of_mem _ h)
  have hown : s.vm.findClass "MaskEdges" = some m.cls := findClass_of_methodNamed B.named
  have hlocks := B.notSynchronized
  have hK := hKK.1
  rw [show entryFrame m args 4 = entryFrame m ([.ref (ad 0), .int v1] : List Value).toArray 4 from by rw [ha]]
  clear ha
  have hS : va_S (xA ad) s.heap s.heap [] := va_S.rf
  have hl := lv_entry ([.ref (ad 0), .int v1]) (n := 4) (Nat.le_of_ble_eq_true rfl)
  rw [lg_entry_eq]
  generalize (lg_sl ([.ref (ad 0), .int v1]) ++ List.replicate (4 - (lg_sl ([.ref (ad 0), .int v1])).length) Slot.unset).toArray = ls at hl ⊢
  replace hl : lv_has ls 4 [(0, .ref (ad 0)), (1, .int v1)] := hl
  refine x_Q (fun Q hQ => ?_)
  have hL42 : ∀ (k67 : xSt → Option (Int32 × xSt)) (hk67 : ∀ (ST : xSt), ∀ (H : Heap) (locs : List Loc), va_P X.1 vwCl (wX X ad ST) H → va_S (xA ad) s.heap H locs → ∀ (ls : Array Slot), lv_has ls 4 [(0, .ref (ad 0))] → k67 ST = some res → W p l e (headSpec (Cond.code y_MaskEdges_cut prog_1_method_5_code 4 (some .int) :: xT) ({ frames := 5, cells := 0, slots := 0, locals := 125 } : Room)).room s m args below meth c H locs 0 0 Q (F0 m 67 ls [])), ∀ (n : Nat), ∀ (v1 : Int32) (v3 : Int32) (ST : xSt), ∀ (H : Heap) (locs : List Loc), va_P X.1 vwCl (wX X ad ST) H → va_S (xA ad) s.heap H locs → ∀ (ls : Array Slot), lv_has ls 4 [(0, .ref (ad 0)), (1, .int v1), (3, .int v3)] → (xloop (fun r => f_MaskEdges_cut_42 r k67) (fun _ _ _ => none) n) v1 v3 ST = some res → W p l e (headSpec (Cond.code y_MaskEdges_cut prog_1_method_5_code 4 (some .int) :: xT) ({ frames := 5, cells := 0, slots := 0, locals := 125 } : Room)).room s m args below meth c H locs 0 0 Q (F0 m 42 ls []) := by
    intro k67 hk67
    intro n
    induction n with
    | zero => intro v1 v3 ST H locs hP hS ls hl hf; cases hf
    | succ n ih =>
      intro v1 v3 ST H locs hP hS ls hl hf
      replace hf : f_MaskEdges_cut_42 (xloop (fun r => f_MaskEdges_cut_42 r k67) (fun _ _ _ => none) n) k67 v1 v3 ST = some res := hf
      have hr42 := ih
      clear ih
      unfold f_MaskEdges_cut_42 at hf
      refine lv_iload_n hx hb d_MaskEdges_cut_42 rfl (lv_at hl 2 rfl) ?_
      refine lv_aload_n hx hb d_MaskEdges_cut_43 rfl (lv_at hl 0 rfl) ?_
      refine va_get (D := X.1) (ci := 5) (v := .int (X_outlineCount ST)) (C := "MaskEdges") (T := F_MaskEdges) (N := 14) hx hb ht in_MaskEdges hown hK hP 0 xg0 rfl 1 (by decide) (ht _ xw_156) (fun _ h9 => h9) rfl d_MaskEdges_cut_44 ?_
      refine lv_icmp_ge (tgt := 67) hx hb d_MaskEdges_cut_47 (by decide) (fun hc => ?_) (fun hc => ?_)
      · replace hf := x_t hc hf
        exact hk67 ST _ _ hP hS ls (lv_sub hl [0] rfl) hf
      · replace hf := x_f hc hf
        refine lv_aload_n hx hb d_MaskEdges_cut_50 rfl (lv_at hl 0 rfl) ?_
        refine lv_aload_n hx hb d_MaskEdges_cut_51 rfl (lv_at hl 0 rfl) ?_
        refine va_get (D := X.1) (ci := 5) (v := .ref (ad 1)) (C := "MaskEdges") (T := F_MaskEdges) (N := 14) hx hb ht in_MaskEdges hown hK hP 0 xg0 rfl 0 (by decide) (ht _ xw_155) (fun _ h9 => h9) rfl d_MaskEdges_cut_52 ?_
        refine lv_iload_n hx hb d_MaskEdges_cut_55 rfl (lv_at hl 2 rfl) ?_
        obtain ⟨g56, hf⟩ := x_g hf
        have hk56 := xin_lt g56
        refine va_aldq hx hb hK hP 1 2 xg1 rfl (xin_in g56) d_MaskEdges_cut_56 ?_
        refine W.eq (g2 := F0 m 57 ls [.ref (ad (16 + v3.toNatClampNeg)), .ref (ad 0)]) rfl ?_
        refine lv_iload_n hx hb d_MaskEdges_cut_57 rfl (lv_at hl 1 rfl) ?_
        obtain ⟨c58, e58, hf⟩ := x_b hf
        refine xc (va_runV (As := [.ref (ad (16 + v3.toNatClampNeg)), .int v1]) (rest := []) ⟨hx, hb, hml, hown, ht⟩ (c_MaskEdges_cutOutline l X ad ST v3.toNatClampNeg v1 hP hA hk56 e58) (cwV 2 ht (xgV xw_292 xw_293 xw_5 xw_37 xw_294) rfl rfl rfl (by decide +kernel) ⟨Nat.le_of_ble_eq_true rfl, Nat.le_of_ble_eq_true rfl⟩) (xPV hKK (va_recv hK hP (ci := 5) (q0 := 0) rfl xg0)) rfl rfl hl.1 rfl (lv_room (Nat.le_of_ble_eq_true rfl)) d_MaskEdges_cut_58 ⟨Nat.zero_le _, Nat.zero_le _⟩) (fun H1 L hq hz => ?_)
        replace hS := xS_call hS hz (fun _ h => h)
        replace hP : va_P X.1 vwCl (wX X ad c58) H1 := hq
        clear hq hz
        refine W.eq (g2 := F0 m 61 ls []) rfl ?_
        refine lv_iinc (v := (v3 + (1 : Int32))) (lv' := [(3, .int (v3 + (1 : Int32))), (0, .ref (ad 0)), (1, .int v1)]) hx hb d_MaskEdges_cut_61 hl (k := 2) rfl rfl (by decide) rfl (fun ls hl => ?_)
        refine lv_goto (tgt := 42) hx hb d_MaskEdges_cut_64 (by decide) ?_
        exact hr42 v1 (v3 + (1 : Int32)) c58 _ _ hP hS ls (lv_sub hl [1, 2, 0] rfl) hf
  have hL67 : ∀ (ST : xSt), ∀ (H : Heap) (locs : List Loc), va_P X.1 vwCl (wX X ad ST) H → va_S (xA ad) s.heap H locs → ∀ (ls : Array Slot), lv_has ls 4 [(0, .ref (ad 0))] → f_MaskEdges_cut_67 ST = some res → W p l e (headSpec (Cond.code y_MaskEdges_cut prog_1_method_5_code 4 (some .int) :: xT) ({ frames := 5, cells := 0, slots := 0, locals := 125 } : Room)).room s m args below meth c H locs 0 0 Q (F0 m 67 ls []) := by
    intro ST H locs hP hS ls hl hf
    unfold f_MaskEdges_cut_67 at hf
    refine lv_aload_n hx hb d_MaskEdges_cut_67 rfl (lv_at hl 0 rfl) ?_
    obtain ⟨c68, e68, hf⟩ := x_b hf
    refine xc (va_runV (As := []) (rest := []) ⟨hx, hb, hml, hown, ht⟩ (c_MaskEdges_renewMask l X ad ST hP hA e68) (cwV 0 ht (xgV xw_226 xw_227 xw_2 xw_37 xw_228) rfl rfl rfl (by decide +kernel) ⟨Nat.le_of_ble_eq_true rfl, Nat.le_of_ble_eq_true rfl⟩) (xPV hKK (va_recv hK hP (ci := 5) (q0 := 0) rfl xg0)) rfl rfl hl.1 rfl (lv_room (Nat.le_of_ble_eq_true rfl)) d_MaskEdges_cut_68 ⟨Nat.zero_le _, Nat.zero_le _⟩) (fun H1 L hq hz => ?_)
    replace hS := xS_call hS hz (fun _ h => h)
    replace hP : va_P X.1 vwCl (wX X ad c68) H1 := hq
    clear hq hz
    refine W.eq (g2 := F0 m 71 ls []) rfl ?_
    refine lv_aload_n hx hb d_MaskEdges_cut_71 rfl (lv_at hl 0 rfl) ?_
    refine va_get (D := X.1) (ci := 5) (v := .int (X_pieceCount c68)) (C := "MaskEdges") (T := F_MaskEdges) (N := 14) hx hb ht in_MaskEdges hown hK hP 0 xg0 rfl 3 (by decide) (ht _ xw_158) (fun _ h9 => h9) rfl d_MaskEdges_cut_72 ?_
    replace hf := x_s hf
    subst hf
    subst hQ
    exact W.iret (v := (X_pieceCount c68)) hx hb hr (fun t ht hW => ⟨⟨rfl, by rw [ht]; exact hP⟩, hS.F ht⟩) hS.2.2 d_MaskEdges_cut_75
  unfold f_MaskEdges_cut at hf
  refine lv_iload_n hx hb d_MaskEdges_cut_0 rfl (lv_at hl 1 rfl) ?_
  refine lv_iconst (v := (1 : Int32)) hx hb d_MaskEdges_cut_1 (by decide) ?_
  refine lv_bipush (v := (48 : Int32)) hx hb d_MaskEdges_cut_2 (by decide) ?_
  obtain ⟨c4, e4, hf⟩ := x_b hf
  refine xcR (va_runS (As := [.int v1, .int (1 : Int32), .int (48 : Int32)]) (rest := []) ⟨hx, hb, hml, hown, ht⟩ (c_MaskEdges_within l X v1 (1 : Int32) (48 : Int32) e4) (cwS 3 ht (xgS xw_263 xw_264 xw_37 xw_265) rfl rfl rfl (by decide +kernel) ⟨Nat.le_of_ble_eq_true rfl, Nat.le_of_ble_eq_true rfl⟩) (xPS hKK) rfl rfl hl.1 rfl (lv_room (Nat.le_of_ble_eq_true rfl)) d_MaskEdges_cut_4 ⟨Nat.zero_le _, Nat.zero_le _⟩) ?_
  refine W.eq (g2 := F0 m 7 ls [.int c4]) rfl ?_
  refine lv_if_ne (tgt := 13) hx hb d_MaskEdges_cut_7 (by decide) (fun hc => ?_) (fun hc => ?_)
  · replace hf := x_f hc hf
    refine lv_aload_n hx hb d_MaskEdges_cut_13 rfl (lv_at hl 0 rfl) ?_
    refine lv_iload_n hx hb d_MaskEdges_cut_14 rfl (lv_at hl 1 rfl) ?_
    obtain ⟨c15, e15, hf⟩ := x_b hf
    refine xcR (va_runV (As := [.int v1]) (rest := []) ⟨hx, hb, hml, hown, ht⟩ (c_MaskEdges_piecesFor l X ad ST v1 hP e15) (cwV 1 ht (xgV xw_274 xw_275 xw_4 xw_37 xw_276) rfl rfl rfl (by decide +kernel) ⟨Nat.le_of_ble_eq_true rfl, Nat.le_of_ble_eq_true rfl⟩) (xPV hKK (va_recv hK hP (ci := 5) (q0 := 0) rfl xg0)) rfl rfl hl.1 rfl (lv_room (Nat.le_of_ble_eq_true rfl)) d_MaskEdges_cut_15 ⟨Nat.zero_le _, Nat.zero_le _⟩) ?_
    refine W.eq (g2 := F0 m 18 ls [.int c15]) rfl ?_
    refine lv_istore_n (lv' := [(2, .int c15), (0, .ref (ad 0)), (1, .int v1)]) hx hb d_MaskEdges_cut_18 rfl hl (by decide) rfl (fun ls hl => ?_)
    refine lv_iload_n hx hb d_MaskEdges_cut_19 rfl (lv_at hl 0 rfl) ?_
    refine lv_if_ne (tgt := 26) hx hb d_MaskEdges_cut_20 (by decide) (fun hc => ?_) (fun hc => ?_)
    · replace hf := x_f hc hf
      refine lv_iload_n hx hb d_MaskEdges_cut_26 rfl (lv_at hl 0 rfl) ?_
      refine lv_bipush (v := (120 : Int32)) hx hb d_MaskEdges_cut_27 (by decide) ?_
      refine lv_icmp_le (tgt := 35) hx hb d_MaskEdges_cut_29 (by decide) (fun hc => ?_) (fun hc => ?_)
      · replace hf := x_t hc hf
        refine lv_aload_n hx hb d_MaskEdges_cut_35 rfl (lv_at hl 1 rfl) ?_
        refine lv_iconst (v := (0 : Int32)) hx hb d_MaskEdges_cut_36 (by decide) ?_
        refine va_put (D := X.1) (ci := 5) (v := .int (0 : Int32)) (ty := .int) (C := "MaskEdges") (T := F_MaskEdges) (N := 14) hx hb ht in_MaskEdges ty_MaskEdges tyk_MaskEdges nm_MaskEdges hown hK hP (xD hA) hS 0 xg0 rfl 3 (by decide) (ht _ xw_158) (fun _ h9 => h9) rfl (by decide +kernel) rfl rfl (Nat.le_of_ble_eq_true rfl) d_MaskEdges_cut_37 (fun H locs hP _ hS => ?_)
        replace hP : va_P X.1 vwCl (wX X ad (X_u_pieceCount ST (0 : Int32))) H := xeq xm_pieceCount hP
        refine lv_iconst (v := (0 : Int32)) hx hb d_MaskEdges_cut_40 (by decide) ?_
        refine lv_istore_n (lv' := [(3, .int (0 : Int32)), (2, .int c15), (0, .ref (ad 0)), (1, .int v1)]) hx hb d_MaskEdges_cut_41 rfl hl (by decide) rfl (fun ls hl => ?_)
        exact (hL42 _ hL67 100000) v1 (0 : Int32) (X_u_pieceCount ST (0 : Int32)) _ _ hP hS ls (lv_sub hl [2, 3, 0] rfl) hf
      · replace hf := x_f hc hf
        refine lv_bipush (v := (-4 : Int32)) hx hb d_MaskEdges_cut_32 (by decide) ?_
        replace hf := x_s hf
        subst hf
        subst hQ
        exact W.iret (v := (-4 : Int32)) hx hb hr (fun t ht hW => ⟨⟨rfl, by rw [ht]; exact hP⟩, hS.F ht⟩) hS.2.2 d_MaskEdges_cut_34
    · replace hf := x_t hc hf
      refine lv_bipush (v := (-3 : Int32)) hx hb d_MaskEdges_cut_23 (by decide) ?_
      replace hf := x_s hf
      subst hf
      subst hQ
      exact W.iret (v := (-3 : Int32)) hx hb hr (fun t ht hW => ⟨⟨rfl, by rw [ht]; exact hP⟩, hS.F ht⟩) hS.2.2 d_MaskEdges_cut_25
  · replace hf := x_t hc hf
    refine lv_bipush (v := (-2 : Int32)) hx hb d_MaskEdges_cut_10 (by decide) ?_
    replace hf := x_s hf
    subst hf
    subst hQ
    exact W.iret (v := (-2 : Int32)) hx hb hr (fun t ht hW => ⟨⟨rfl, by rw [ht]; exact hP⟩, hS.F ht⟩) hS.2.2 d_MaskEdges_cut_12
def f_MaskEdges_image (ST : xSt) (v1 : Int32) (v2 : Int32) : Option (Int32) :=
  (f_MaskEdges_onGrid v1 v2).bind fun c2 =>
  if c2 = 0 then
  some (0 : Int32)
else
  (f_Exposure_imageAt (X_exposure ST) (X_mask ST) v1 v2).bind fun c18 =>
    some c18
set_option maxHeartbeats 4000000 in
set_option maxRecDepth 100000 in
theorem c_MaskEdges_image (l : Launch) (X : xG) {H : Heap} (ad : Nat → Nat) (ST : xSt) (v1 : Int32) (v2 : Int32) {res : Int32} (hP : va_P X.1 vwCl (wX X ad ST) H) (hf : f_MaskEdges_image ST v1 v2 = some res) : xM l y_MaskEdges_image (Cond.code y_MaskEdges_image prog_1_method_6_code 3 (some .int) :: xT) ({ frames := 3, cells := 0, slots := 0, locals := 76 } : Room) (xK X) [.ref (ad 0), .int v1, .int v2] H xNo (some (.int res)) (fun H1 => H1 = H) := by
  refine Met.ofW (cc := prog_1_method_6_code) (maxL := 3) (ret := (some .int)) (by decide) rfl ?_
  intro p e s m args below meth c s₁ B hml hv
  obtain ⟨ha, hH, hKK⟩ := hv
  subst hH
  have hx := B.exec
  have hb := B.bytes
  have hr := B.returns
  have ht : ∀ w ∈ xT, w.before args s = true := fun w h => atoms_spec (ws := (Cond.code y_MaskEdges_image prog_1_method_6_code 3 (some .int) :: xT)) B.pre w (List.mem_cons_of_mem _ h)
  have hown : s.vm.findClass "MaskEdges" = some m.cls := findClass_of_methodNamed B.named
  have hlocks := B.notSynchronized
  have hK := hKK.1
  rw [show entryFrame m args 3 = entryFrame m ([.ref (ad 0), .int v1, .int v2] : List Value).toArray 3 from by rw [ha]]
  clear ha
  have hl := lv_entry ([.ref (ad 0), .int v1, .int v2]) (n := 3) (Nat.le_of_ble_eq_true rfl)
  rw [lg_entry_eq]
  generalize (lg_sl ([.ref (ad 0), .int v1, .int v2]) ++ List.replicate (3 - (lg_sl ([.ref (ad 0), .int v1, .int v2])).length) Slot.unset).toArray = ls at hl ⊢
  replace hl : lv_has ls 3 [(0, .ref (ad 0)), (1, .int v1), (2, .int v2)] := hl
  refine x_Q (fun Q hQ => ?_)
  unfold f_MaskEdges_image at hf
  refine lv_iload_n hx hb d_MaskEdges_image_0 rfl (lv_at hl 1 rfl) ?_
  refine lv_iload_n hx hb d_MaskEdges_image_1 rfl (lv_at hl 2 rfl) ?_
  obtain ⟨c2, e2, hf⟩ := x_b hf
  refine xcR (va_runS (As := [.int v1, .int v2]) (rest := []) ⟨hx, hb, hml, hown, ht⟩ (c_MaskEdges_onGrid l X v1 v2 e2) (cwS 2 ht (xgS xw_316 xw_224 xw_37 xw_225) rfl rfl rfl (by decide +kernel) ⟨Nat.le_of_ble_eq_true rfl, Nat.le_of_ble_eq_true rfl⟩) (xPS hKK) rfl rfl hl.1 rfl (lv_room (Nat.le_of_ble_eq_true rfl)) d_MaskEdges_image_2 ⟨Nat.zero_le _, Nat.zero_le _⟩) ?_
  refine W.eq (g2 := F0 m 5 ls [.int c2]) rfl ?_
  refine lv_if_eq (tgt := 24) hx hb d_MaskEdges_image_5 (by decide) (fun hc => ?_) (fun hc => ?_)
  · replace hf := x_t hc hf
    refine lv_iconst (v := (0 : Int32)) hx hb d_MaskEdges_image_24 (by decide) ?_
    replace hf := x_s hf
    subst hf
    subst hQ
    exact W.iret (v := (0 : Int32)) hx hb hr (fun t ht hW => ⟨⟨rfl, ht⟩, x_F0 ht⟩) x_l0 d_MaskEdges_image_25
  · replace hf := x_f hc hf
    refine lv_aload_n hx hb d_MaskEdges_image_8 rfl (lv_at hl 0 rfl) ?_
    refine va_get (D := X.1) (ci := 5) (v := .ref (ad 11)) (C := "MaskEdges") (T := F_MaskEdges) (N := 14) hx hb ht in_MaskEdges hown hK hP 0 xg0 rfl 10 (by decide) (ht _ xw_165) (fun _ h9 => h9) rfl d_MaskEdges_image_9 ?_
    refine lv_aload_n hx hb d_MaskEdges_image_12 rfl (lv_at hl 0 rfl) ?_
    refine va_get (D := X.1) (ci := 5) (v := .ref (ad 9)) (C := "MaskEdges") (T := F_MaskEdges) (N := 14) hx hb ht in_MaskEdges hown hK hP 0 xg0 rfl 9 (by decide) (ht _ xw_164) (fun _ h9 => h9) rfl d_MaskEdges_image_13 ?_
    refine lv_iload_n hx hb d_MaskEdges_image_16 rfl (lv_at hl 1 rfl) ?_
    refine lv_iload_n hx hb d_MaskEdges_image_17 rfl (lv_at hl 2 rfl) ?_
    obtain ⟨c18, e18, hf⟩ := x_b hf
    refine xcR (va_runV (As := [.ref (ad 9), .int v1, .int v2]) (rest := []) ⟨hx, hb, hml, hown, ht⟩ (c_Exposure_imageAt l X (ad 11) (ad 12) (ad 13) (X_exposure ST) (ad 9) (ad 10) (X_mask ST) v1 v2 (xs_exposure hP) (xs_mask hP) e18) (cwV 3 ht (xgV xw_317 xw_318 xw_319 xw_39 xw_320) rfl rfl rfl (by decide +kernel) ⟨Nat.le_of_ble_eq_true rfl, Nat.le_of_ble_eq_true rfl⟩) (xPV hKK (va_recv hK hP (ci := 2) (q0 := 11) rfl xg11)) rfl rfl hl.1 rfl (lv_room (Nat.le_of_ble_eq_true rfl)) d_MaskEdges_image_18 ⟨Nat.zero_le _, Nat.zero_le _⟩) ?_
    refine W.eq (g2 := F0 m 21 ls [.int c18]) rfl ?_
    refine lv_goto (tgt := 25) hx hb d_MaskEdges_image_21 (by decide) ?_
    replace hf := x_s hf
    subst hf
    subst hQ
    exact W.iret (v := c18) hx hb hr (fun t ht hW => ⟨⟨rfl, ht⟩, x_F0 ht⟩) x_l0 d_MaskEdges_image_25
