def f_Box_layBeside_105 (o1 : t_Piece) (s0 : Int32) (o0 : t_Box) : Option (t_Box) :=
  some (Box_u_bottom o0 s0)
def f_Box_layBeside_88 (o1 : t_Piece) (v3 : Int32) (v10 : Int32) (s0 : Int32) (o0 : t_Box) : Option (t_Box) :=
  if (Piece_alongX o1) = 0 then
  (f_Box_layBeside_105 o1) v3 (Box_u_top o0 s0)
else
  (f_Box_layBeside_105 o1) v10 (Box_u_top o0 s0)
def f_Box_layBeside_71 (o1 : t_Piece) (v2 : Int32) (v3 : Int32) (v9 : Int32) (v10 : Int32) (s0 : Int32) (o0 : t_Box) : Option (t_Box) :=
  if (Piece_alongX o1) = 0 then
  (f_Box_layBeside_88 o1) v3 v10 v2 (Box_u_right o0 s0)
else
  (f_Box_layBeside_88 o1) v3 v10 v9 (Box_u_right o0 s0)
def f_Box_layBeside_54 (o1 : t_Piece) (v2 : Int32) (v3 : Int32) (v9 : Int32) (v10 : Int32) (s0 : Int32) (o0 : t_Box) : Option (t_Box) :=
  if (Piece_alongX o1) = 0 then
  (f_Box_layBeside_71 o1) v2 v3 v9 v10 v10 (Box_u_left o0 s0)
else
  (f_Box_layBeside_71 o1) v2 v3 v9 v10 v3 (Box_u_left o0 s0)
def f_Box_layBeside (o1 : t_Piece) (v2 : Int32) (v3 : Int32) (v4 : Int32) (v5 : Int32) (v6 : Int32) (o0 : t_Box) : Option (t_Box) :=
  if (Piece_alongX o1) = 0 then
  (f_Box_layBeside_54 o1) v2 v3 (if (((Piece_line o1) + (v4 * v5)) + (v4 * v6)) < ((Piece_line o1) + (v4 * v5)) then (((Piece_line o1) + (v4 * v5)) + (v4 * v6)) else ((Piece_line o1) + (v4 * v5))) (if ((Piece_line o1) + (v4 * v5)) < (((Piece_line o1) + (v4 * v5)) + (v4 * v6)) then (((Piece_line o1) + (v4 * v5)) + (v4 * v6)) else ((Piece_line o1) + (v4 * v5))) (if (((Piece_line o1) + (v4 * v5)) + (v4 * v6)) < ((Piece_line o1) + (v4 * v5)) then (((Piece_line o1) + (v4 * v5)) + (v4 * v6)) else ((Piece_line o1) + (v4 * v5))) o0
else
  (f_Box_layBeside_54 o1) v2 v3 (if (((Piece_line o1) + (v4 * v5)) + (v4 * v6)) < ((Piece_line o1) + (v4 * v5)) then (((Piece_line o1) + (v4 * v5)) + (v4 * v6)) else ((Piece_line o1) + (v4 * v5))) (if ((Piece_line o1) + (v4 * v5)) < (((Piece_line o1) + (v4 * v5)) + (v4 * v6)) then (((Piece_line o1) + (v4 * v5)) + (v4 * v6)) else ((Piece_line o1) + (v4 * v5))) v2 o0
set_option maxHeartbeats 4000000 in
set_option maxRecDepth 100000 in
theorem c_Box_layBeside (l : Launch) (X : xG) {H : Heap} (h0 : Nat) (o0 : t_Box) (h1 : Nat) (o1 : t_Piece) (v2 : Int32) (v3 : Int32) (v4 : Int32) (v5 : Int32) (v6 : Int32) {res : t_Box} (hP0 : va_P X.1 vwCl (w_Box X h0 o0) H) (hP1 : va_P X.1 vwCl (w_Piece X h1 o1) H) (hnd : [h0].Nodup) (hno1 : ∀ q ∈ [h1], ¬ xAl [h0] q) (hf : f_Box_layBeside o1 v2 v3 v4 v5 v6 o0 = some res) : xM l y_Box_layBeside (Cond.code y_Box_layBeside prog_2_method_2_code 11 none :: xT) ({ frames := 1, cells := 0, slots := 0, locals := 21 } : Room) (xK X) [.ref h0, .ref h1, .int v2, .int v3, .int v4, .int v5, .int v6] H (xAl [h0]) none (fun H1 => va_P X.1 vwCl (w_Box X h0 res) H1) := by
  refine Met.ofW (cc := prog_2_method_2_code) (maxL := 11) (ret := none) (by decide) rfl ?_
  intro p e s m args below meth c s₁ B hml hv
  obtain ⟨ha, hH, hKK⟩ := hv
  subst hH
  have hx := B.exec
  have hb := B.bytes
  have hr := B.returns
  have ht : ∀ w ∈ xT, w.before args s = true := fun w h => atoms_spec (ws := (Cond.code y_Box_layBeside prog_2_method_2_code 11 none :: xT)) B.pre w (List.mem_cons_of_mem _ h)
  have hown : s.vm.findClass "MaskEdges$Box" = some m.cls := findClass_of_methodNamed B.named
  have hlocks := B.notSynchronized
  have hK := hKK.1
  rw [show entryFrame m args 11 = entryFrame m ([.ref h0, .ref h1, .int v2, .int v3, .int v4, .int v5, .int v6] : List Value).toArray 11 from by rw [ha]]
  clear ha
  have hP := hP0
  have hD : va_D (xAl [h0]) (w_Box X h0 o0) := xDl rfl hnd
  have hS : va_S (xAl [h0]) s.heap s.heap [] := va_S.rf
  have hl := lv_entry ([.ref h0, .ref h1, .int v2, .int v3, .int v4, .int v5, .int v6]) (n := 11) (Nat.le_of_ble_eq_true rfl)
  rw [lg_entry_eq]
  generalize (lg_sl ([.ref h0, .ref h1, .int v2, .int v3, .int v4, .int v5, .int v6]) ++ List.replicate (11 - (lg_sl ([.ref h0, .ref h1, .int v2, .int v3, .int v4, .int v5, .int v6])).length) Slot.unset).toArray = ls at hl ⊢
  replace hl : lv_has ls 11 [(0, .ref h0), (1, .ref h1), (2, .int v2), (3, .int v3), (4, .int v4), (5, .int v5), (6, .int v6)] := hl
  refine x_Q (fun Q hQ => ?_)
  have hL105 : ∀ (s0 : Int32) (o0 : t_Box), ∀ (H : Heap) (locs : List Loc), va_P X.1 vwCl (w_Box X h0 o0) H → va_S (xAl [h0]) s.heap H locs → ∀ (ls : Array Slot), lv_has ls 11 [] → f_Box_layBeside_105 o1 s0 o0 = some res → W p l e (headSpec (Cond.code y_Box_layBeside prog_2_method_2_code 11 none :: xT) ({ frames := 1, cells := 0, slots := 0, locals := 21 } : Room)).room s m args below meth c H locs 0 0 Q (F0 m 105 ls [.int s0, .ref h0]) := by
    intro s0 o0 H locs hP hS ls hl hf
    unfold f_Box_layBeside_105 at hf
    have hD : va_D (xAl [h0]) (w_Box X h0 o0) := xDl rfl hnd
    refine va_put (D := X.1) (ci := 0) (v := .int s0) (ty := .int) (C := "MaskEdges$Box") (T := F_Box) (N := 4) hx hb ht in_Box ty_Box tyk_Box nm_Box hown hK hP hD hS 0 rfl rfl 3 (by decide) (ht _ xw_93) (fun _ h9 => h9) rfl (by decide +kernel) rfl rfl (Nat.le_of_ble_eq_true rfl) d_Box_layBeside_105 (fun H locs hP hD hS => ?_)
    replace hP : va_P X.1 vwCl (w_Box X h0 (Box_u_bottom o0 s0)) H := hP
    replace hD : va_D _ (w_Box X h0 (Box_u_bottom o0 s0)) := hD
    replace hf := x_s hf
    subst hf
    subst hQ
    exact W.vret hx hb hr (fun t ht hW => ⟨⟨rfl, by rw [ht]; exact hP⟩, hS.F ht⟩) hS.2.2 d_Box_layBeside_108
  have hL88 : ∀ (v3 : Int32) (v10 : Int32) (s0 : Int32) (o0 : t_Box), ∀ (H : Heap) (locs : List Loc), va_P X.1 vwCl (w_Box X h0 o0) H → va_S (xAl [h0]) s.heap H locs → ∀ (ls : Array Slot), lv_has ls 11 [(0, .ref h0), (1, .ref h1), (3, .int v3), (10, .int v10)] → f_Box_layBeside_88 o1 v3 v10 s0 o0 = some res → W p l e (headSpec (Cond.code y_Box_layBeside prog_2_method_2_code 11 none :: xT) ({ frames := 1, cells := 0, slots := 0, locals := 21 } : Room)).room s m args below meth c H locs 0 0 Q (F0 m 88 ls [.int s0, .ref h0]) := by
    intro v3 v10 s0 o0 H locs hP hS ls hl hf
    unfold f_Box_layBeside_88 at hf
    have hD : va_D (xAl [h0]) (w_Box X h0 o0) := xDl rfl hnd
    refine va_put (D := X.1) (ci := 0) (v := .int s0) (ty := .int) (C := "MaskEdges$Box") (T := F_Box) (N := 4) hx hb ht in_Box ty_Box tyk_Box nm_Box hown hK hP hD hS 0 rfl rfl 1 (by decide) (ht _ xw_87) (fun _ h9 => h9) rfl (by decide +kernel) rfl rfl (Nat.le_of_ble_eq_true rfl) d_Box_layBeside_88 (fun H locs hP hD hS => ?_)
    replace hP : va_P X.1 vwCl (w_Box X h0 (Box_u_top o0 s0)) H := hP
    replace hD : va_D _ (w_Box X h0 (Box_u_top o0 s0)) := hD
    refine lv_aload_n hx hb d_Box_layBeside_91 rfl (lv_at hl 0 rfl) ?_
    refine lv_aload_n hx hb d_Box_layBeside_92 rfl (lv_at hl 1 rfl) ?_
    refine va_get (D := X.1) (ci := 4) (v := .int (Piece_alongX o1)) (C := "MaskEdges$Piece") (T := F_Piece) (N := 12) hx hb ht in_Piece hown hK (xkept hP1 hno1 hS) 0 rfl rfl 0 (by decide) (ht _ xw_121) (fun _ h9 => h9) rfl d_Box_layBeside_93 ?_
    refine lv_if_eq (tgt := 104) hx hb d_Box_layBeside_96 (by decide) (fun hc => ?_) (fun hc => ?_)
    · replace hf := x_t hc hf
      refine lv_iload_n hx hb d_Box_layBeside_104 rfl (lv_at hl 2 rfl) ?_
      exact hL105 v3 (Box_u_top o0 s0) _ _ hP hS ls (lv_sub hl [] rfl) hf
    · replace hf := x_f hc hf
      refine lv_iload hx hb d_Box_layBeside_99 (lv_at hl 3 rfl) ?_
      refine lv_goto (tgt := 105) hx hb d_Box_layBeside_101 (by decide) ?_
      exact hL105 v10 (Box_u_top o0 s0) _ _ hP hS ls (lv_sub hl [] rfl) hf
  have hL71 : ∀ (v2 : Int32) (v3 : Int32) (v9 : Int32) (v10 : Int32) (s0 : Int32) (o0 : t_Box), ∀ (H : Heap) (locs : List Loc), va_P X.1 vwCl (w_Box X h0 o0) H → va_S (xAl [h0]) s.heap H locs → ∀ (ls : Array Slot), lv_has ls 11 [(0, .ref h0), (1, .ref h1), (2, .int v2), (3, .int v3), (9, .int v9), (10, .int v10)] → f_Box_layBeside_71 o1 v2 v3 v9 v10 s0 o0 = some res → W p l e (headSpec (Cond.code y_Box_layBeside prog_2_method_2_code 11 none :: xT) ({ frames := 1, cells := 0, slots := 0, locals := 21 } : Room)).room s m args below meth c H locs 0 0 Q (F0 m 71 ls [.int s0, .ref h0]) := by
    intro v2 v3 v9 v10 s0 o0 H locs hP hS ls hl hf
    unfold f_Box_layBeside_71 at hf
    have hD : va_D (xAl [h0]) (w_Box X h0 o0) := xDl rfl hnd
    refine va_put (D := X.1) (ci := 0) (v := .int s0) (ty := .int) (C := "MaskEdges$Box") (T := F_Box) (N := 4) hx hb ht in_Box ty_Box tyk_Box nm_Box hown hK hP hD hS 0 rfl rfl 2 (by decide) (ht _ xw_90) (fun _ h9 => h9) rfl (by decide +kernel) rfl rfl (Nat.le_of_ble_eq_true rfl) d_Box_layBeside_71 (fun H locs hP hD hS => ?_)
    replace hP : va_P X.1 vwCl (w_Box X h0 (Box_u_right o0 s0)) H := hP
    replace hD : va_D _ (w_Box X h0 (Box_u_right o0 s0)) := hD
    refine lv_aload_n hx hb d_Box_layBeside_74 rfl (lv_at hl 0 rfl) ?_
    refine lv_aload_n hx hb d_Box_layBeside_75 rfl (lv_at hl 1 rfl) ?_
    refine va_get (D := X.1) (ci := 4) (v := .int (Piece_alongX o1)) (C := "MaskEdges$Piece") (T := F_Piece) (N := 12) hx hb ht in_Piece hown hK (xkept hP1 hno1 hS) 0 rfl rfl 0 (by decide) (ht _ xw_121) (fun _ h9 => h9) rfl d_Box_layBeside_76 ?_
    refine lv_if_eq (tgt := 87) hx hb d_Box_layBeside_79 (by decide) (fun hc => ?_) (fun hc => ?_)
    · replace hf := x_t hc hf
      refine lv_iload_n hx hb d_Box_layBeside_87 rfl (lv_at hl 2 rfl) ?_
      exact hL88 v3 v10 v2 (Box_u_right o0 s0) _ _ hP hS ls (lv_sub hl [0, 1, 3, 5] rfl) hf
    · replace hf := x_f hc hf
      refine lv_iload hx hb d_Box_layBeside_82 (lv_at hl 4 rfl) ?_
      refine lv_goto (tgt := 88) hx hb d_Box_layBeside_84 (by decide) ?_
      exact hL88 v3 v10 v9 (Box_u_right o0 s0) _ _ hP hS ls (lv_sub hl [0, 1, 3, 5] rfl) hf
  have hL54 : ∀ (v2 : Int32) (v3 : Int32) (v9 : Int32) (v10 : Int32) (s0 : Int32) (o0 : t_Box), ∀ (H : Heap) (locs : List Loc), va_P X.1 vwCl (w_Box X h0 o0) H → va_S (xAl [h0]) s.heap H locs → ∀ (ls : Array Slot), lv_has ls 11 [(0, .ref h0), (1, .ref h1), (2, .int v2), (3, .int v3), (9, .int v9), (10, .int v10)] → f_Box_layBeside_54 o1 v2 v3 v9 v10 s0 o0 = some res → W p l e (headSpec (Cond.code y_Box_layBeside prog_2_method_2_code 11 none :: xT) ({ frames := 1, cells := 0, slots := 0, locals := 21 } : Room)).room s m args below meth c H locs 0 0 Q (F0 m 54 ls [.int s0, .ref h0]) := by
    intro v2 v3 v9 v10 s0 o0 H locs hP hS ls hl hf
    unfold f_Box_layBeside_54 at hf
    have hD : va_D (xAl [h0]) (w_Box X h0 o0) := xDl rfl hnd
    refine va_put (D := X.1) (ci := 0) (v := .int s0) (ty := .int) (C := "MaskEdges$Box") (T := F_Box) (N := 4) hx hb ht in_Box ty_Box tyk_Box nm_Box hown hK hP hD hS 0 rfl rfl 0 (by decide) (ht _ xw_84) (fun _ h9 => h9) rfl (by decide +kernel) rfl rfl (Nat.le_of_ble_eq_true rfl) d_Box_layBeside_54 (fun H locs hP hD hS => ?_)
    replace hP : va_P X.1 vwCl (w_Box X h0 (Box_u_left o0 s0)) H := hP
    replace hD : va_D _ (w_Box X h0 (Box_u_left o0 s0)) := hD
    refine lv_aload_n hx hb d_Box_layBeside_57 rfl (lv_at hl 0 rfl) ?_
    refine lv_aload_n hx hb d_Box_layBeside_58 rfl (lv_at hl 1 rfl) ?_
    refine va_get (D := X.1) (ci := 4) (v := .int (Piece_alongX o1)) (C := "MaskEdges$Piece") (T := F_Piece) (N := 12) hx hb ht in_Piece hown hK (xkept hP1 hno1 hS) 0 rfl rfl 0 (by decide) (ht _ xw_121) (fun _ h9 => h9) rfl d_Box_layBeside_59 ?_
    refine lv_if_eq (tgt := 69) hx hb d_Box_layBeside_62 (by decide) (fun hc => ?_) (fun hc => ?_)
    · replace hf := x_t hc hf
      refine lv_iload hx hb d_Box_layBeside_69 (lv_at hl 5 rfl) ?_
      exact hL71 v2 v3 v9 v10 v10 (Box_u_left o0 s0) _ _ hP hS ls (lv_sub hl [0, 1, 2, 3, 4, 5] rfl) hf
    · replace hf := x_f hc hf
      refine lv_iload_n hx hb d_Box_layBeside_65 rfl (lv_at hl 3 rfl) ?_
      refine lv_goto (tgt := 71) hx hb d_Box_layBeside_66 (by decide) ?_
      exact hL71 v2 v3 v9 v10 v3 (Box_u_left o0 s0) _ _ hP hS ls (lv_sub hl [0, 1, 2, 3, 4, 5] rfl) hf
  unfold f_Box_layBeside at hf
  refine lv_aload_n hx hb d_Box_layBeside_0 rfl (lv_at hl 1 rfl) ?_
  refine va_get (D := X.1) (ci := 4) (v := .int (Piece_line o1)) (C := "MaskEdges$Piece") (T := F_Piece) (N := 12) hx hb ht in_Piece hown hK (xkept hP1 hno1 hS) 0 rfl rfl 1 (by decide) (ht _ xw_123) (fun _ h9 => h9) rfl d_Box_layBeside_1 ?_
  refine lv_iload hx hb d_Box_layBeside_4 (lv_at hl 4 rfl) ?_
  refine lv_iload hx hb d_Box_layBeside_6 (lv_at hl 5 rfl) ?_
  refine lv_imul hx hb d_Box_layBeside_8 ?_
  refine lv_iadd hx hb d_Box_layBeside_9 ?_
  refine lv_istore (lv' := [(7, .int ((Piece_line o1) + (v4 * v5))), (0, .ref h0), (1, .ref h1), (2, .int v2), (3, .int v3), (4, .int v4), (5, .int v5), (6, .int v6)]) hx hb d_Box_layBeside_10 hl (by decide) rfl (fun ls hl => ?_)
  refine lv_iload hx hb d_Box_layBeside_12 (lv_at hl 0 rfl) ?_
  refine lv_iload hx hb d_Box_layBeside_14 (lv_at hl 5 rfl) ?_
  refine lv_iload hx hb d_Box_layBeside_16 (lv_at hl 7 rfl) ?_
  refine lv_imul hx hb d_Box_layBeside_18 ?_
  refine lv_iadd hx hb d_Box_layBeside_19 ?_
  refine lv_istore (lv' := [(8, .int (((Piece_line o1) + (v4 * v5)) + (v4 * v6))), (7, .int ((Piece_line o1) + (v4 * v5))), (0, .ref h0), (1, .ref h1), (2, .int v2), (3, .int v3), (4, .int v4), (5, .int v5), (6, .int v6)]) hx hb d_Box_layBeside_20 hl (by decide) rfl (fun ls hl => ?_)
  refine lv_iload hx hb d_Box_layBeside_22 (lv_at hl 1 rfl) ?_
  refine lv_iload hx hb d_Box_layBeside_24 (lv_at hl 0 rfl) ?_
  refine va_mmin hx hb (hml.trans hl.1.symm) hown (ht _ xw_240) (ht _ xw_215) (ht _ xw_44) (ht _ xw_math_min) (Nat.le_of_ble_eq_true rfl) (Nat.le_of_ble_eq_true rfl) (Nat.zero_le _) (Nat.zero_le _) d_Box_layBeside_26 ?_
  refine lv_istore (lv' := [(9, .int (if (((Piece_line o1) + (v4 * v5)) + (v4 * v6)) < ((Piece_line o1) + (v4 * v5)) then (((Piece_line o1) + (v4 * v5)) + (v4 * v6)) else ((Piece_line o1) + (v4 * v5)))), (8, .int (((Piece_line o1) + (v4 * v5)) + (v4 * v6))), (7, .int ((Piece_line o1) + (v4 * v5))), (0, .ref h0), (1, .ref h1), (2, .int v2), (3, .int v3), (4, .int v4), (5, .int v5), (6, .int v6)]) hx hb d_Box_layBeside_29 hl (by decide) rfl (fun ls hl => ?_)
  refine lv_iload hx hb d_Box_layBeside_31 (lv_at hl 2 rfl) ?_
  refine lv_iload hx hb d_Box_layBeside_33 (lv_at hl 1 rfl) ?_
  refine va_mmax hx hb (hml.trans hl.1.symm) hown (ht _ xw_241) (ht _ xw_218) (ht _ xw_44) (ht _ xw_math_max) (Nat.le_of_ble_eq_true rfl) (Nat.le_of_ble_eq_true rfl) (Nat.zero_le _) (Nat.zero_le _) d_Box_layBeside_35 ?_
  refine lv_istore (lv' := [(10, .int (if ((Piece_line o1) + (v4 * v5)) < (((Piece_line o1) + (v4 * v5)) + (v4 * v6)) then (((Piece_line o1) + (v4 * v5)) + (v4 * v6)) else ((Piece_line o1) + (v4 * v5)))), (9, .int (if (((Piece_line o1) + (v4 * v5)) + (v4 * v6)) < ((Piece_line o1) + (v4 * v5)) then (((Piece_line o1) + (v4 * v5)) + (v4 * v6)) else ((Piece_line o1) + (v4 * v5)))), (8, .int (((Piece_line o1) + (v4 * v5)) + (v4 * v6))), (7, .int ((Piece_line o1) + (v4 * v5))), (0, .ref h0), (1, .ref h1), (2, .int v2), (3, .int v3), (4, .int v4), (5, .int v5), (6, .int v6)]) hx hb d_Box_layBeside_38 hl (by decide) rfl (fun ls hl => ?_)
  refine lv_aload_n hx hb d_Box_layBeside_40 rfl (lv_at hl 4 rfl) ?_
  refine lv_aload_n hx hb d_Box_layBeside_41 rfl (lv_at hl 5 rfl) ?_
  refine va_get (D := X.1) (ci := 4) (v := .int (Piece_alongX o1)) (C := "MaskEdges$Piece") (T := F_Piece) (N := 12) hx hb ht in_Piece hown hK (xkept hP1 hno1 hS) 0 rfl rfl 0 (by decide) (ht _ xw_121) (fun _ h9 => h9) rfl d_Box_layBeside_42 ?_
  refine lv_if_eq (tgt := 52) hx hb d_Box_layBeside_45 (by decide) (fun hc => ?_) (fun hc => ?_)
  · replace hf := x_t hc hf
    refine lv_iload hx hb d_Box_layBeside_52 (lv_at hl 1 rfl) ?_
    exact hL54 v2 v3 (if (((Piece_line o1) + (v4 * v5)) + (v4 * v6)) < ((Piece_line o1) + (v4 * v5)) then (((Piece_line o1) + (v4 * v5)) + (v4 * v6)) else ((Piece_line o1) + (v4 * v5))) (if ((Piece_line o1) + (v4 * v5)) < (((Piece_line o1) + (v4 * v5)) + (v4 * v6)) then (((Piece_line o1) + (v4 * v5)) + (v4 * v6)) else ((Piece_line o1) + (v4 * v5))) (if (((Piece_line o1) + (v4 * v5)) + (v4 * v6)) < ((Piece_line o1) + (v4 * v5)) then (((Piece_line o1) + (v4 * v5)) + (v4 * v6)) else ((Piece_line o1) + (v4 * v5))) o0 _ _ hP hS ls (lv_sub hl [4, 5, 6, 7, 1, 0] rfl) hf
  · replace hf := x_f hc hf
    refine lv_iload_n hx hb d_Box_layBeside_48 rfl (lv_at hl 6 rfl) ?_
    refine lv_goto (tgt := 54) hx hb d_Box_layBeside_49 (by decide) ?_
    exact hL54 v2 v3 (if (((Piece_line o1) + (v4 * v5)) + (v4 * v6)) < ((Piece_line o1) + (v4 * v5)) then (((Piece_line o1) + (v4 * v5)) + (v4 * v6)) else ((Piece_line o1) + (v4 * v5))) (if ((Piece_line o1) + (v4 * v5)) < (((Piece_line o1) + (v4 * v5)) + (v4 * v6)) then (((Piece_line o1) + (v4 * v5)) + (v4 * v6)) else ((Piece_line o1) + (v4 * v5))) v2 o0 _ _ hP hS ls (lv_sub hl [4, 5, 6, 7, 1, 0] rfl) hf
def f_Box_copyFrom (o1 : t_Box) (o0 : t_Box) : Option (t_Box) :=
  some (Box_u_bottom (Box_u_right (Box_u_top (Box_u_left o0 (Box_left o1)) (Box_top o1)) (Box_right o1)) (Box_bottom o1))
set_option maxHeartbeats 4000000 in
set_option maxRecDepth 100000 in
theorem c_Box_copyFrom (l : Launch) (X : xG) {H : Heap} (h0 : Nat) (o0 : t_Box) (h1 : Nat) (o1 : t_Box) {res : t_Box} (hP0 : va_P X.1 vwCl (w_Box X h0 o0) H) (hP1 : va_P X.1 vwCl (w_Box X h1 o1) H) (hnd : [h0].Nodup) (hno1 : ∀ q ∈ [h1], ¬ xAl [h0] q) (hf : f_Box_copyFrom o1 o0 = some res) : xM l y_Box_copyFrom (Cond.code y_Box_copyFrom prog_2_method_3_code 2 none :: xT) ({ frames := 0, cells := 0, slots := 0, locals := 0 } : Room) (xK X) [.ref h0, .ref h1] H (xAl [h0]) none (fun H1 => va_P X.1 vwCl (w_Box X h0 res) H1) := by
  refine Met.ofW (cc := prog_2_method_3_code) (maxL := 2) (ret := none) (by decide) rfl ?_
  intro p e s m args below meth c s₁ B hml hv
  obtain ⟨ha, hH, hKK⟩ := hv
  subst hH
  have hx := B.exec
  have hb := B.bytes
  have hr := B.returns
  have ht : ∀ w ∈ xT, w.before args s = true := fun w h => atoms_spec (ws := (Cond.code y_Box_copyFrom prog_2_method_3_code 2 none :: xT)) B.pre w (List.mem_cons_of_mem _ h)
  have hown : s.vm.findClass "MaskEdges$Box" = some m.cls := findClass_of_methodNamed B.named
  have hlocks := B.notSynchronized
  have hK := hKK.1
  rw [show entryFrame m args 2 = entryFrame m ([.ref h0, .ref h1] : List Value).toArray 2 from by rw [ha]]
  clear ha
  have hP := hP0
  have hD : va_D (xAl [h0]) (w_Box X h0 o0) := xDl rfl hnd
  have hS : va_S (xAl [h0]) s.heap s.heap [] := va_S.rf
  have hl := lv_entry ([.ref h0, .ref h1]) (n := 2) (Nat.le_of_ble_eq_true rfl)
  rw [lg_entry_eq]
  generalize (lg_sl ([.ref h0, .ref h1]) ++ List.replicate (2 - (lg_sl ([.ref h0, .ref h1])).length) Slot.unset).toArray = ls at hl ⊢
  replace hl : lv_has ls 2 [(0, .ref h0), (1, .ref h1)] := hl
  refine x_Q (fun Q hQ => ?_)
  unfold f_Box_copyFrom at hf
  refine lv_aload_n hx hb d_Box_copyFrom_0 rfl (lv_at hl 0 rfl) ?_
  refine lv_aload_n hx hb d_Box_copyFrom_1 rfl (lv_at hl 1 rfl) ?_
  refine va_get (D := X.1) (ci := 0) (v := .int (Box_left o1)) (C := "MaskEdges$Box") (T := F_Box) (N := 4) hx hb ht in_Box hown hK (xkept hP1 hno1 hS) 0 rfl rfl 0 (by decide) (ht _ xw_84) (fun _ h9 => h9) rfl d_Box_copyFrom_2 ?_
  refine va_put (D := X.1) (ci := 0) (v := .int (Box_left o1)) (ty := .int) (C := "MaskEdges$Box") (T := F_Box) (N := 4) hx hb ht in_Box ty_Box tyk_Box nm_Box hown hK hP hD hS 0 rfl rfl 0 (by decide) (ht _ xw_84) (fun _ h9 => h9) rfl (by decide +kernel) rfl rfl (Nat.le_of_ble_eq_true rfl) d_Box_copyFrom_5 (fun H locs hP hD hS => ?_)
  replace hP : va_P X.1 vwCl (w_Box X h0 (Box_u_left o0 (Box_left o1))) H := hP
  replace hD : va_D _ (w_Box X h0 (Box_u_left o0 (Box_left o1))) := hD
  refine lv_aload_n hx hb d_Box_copyFrom_8 rfl (lv_at hl 0 rfl) ?_
  refine lv_aload_n hx hb d_Box_copyFrom_9 rfl (lv_at hl 1 rfl) ?_
  refine va_get (D := X.1) (ci := 0) (v := .int (Box_top o1)) (C := "MaskEdges$Box") (T := F_Box) (N := 4) hx hb ht in_Box hown hK (xkept hP1 hno1 hS) 0 rfl rfl 1 (by decide) (ht _ xw_87) (fun _ h9 => h9) rfl d_Box_copyFrom_10 ?_
  refine va_put (D := X.1) (ci := 0) (v := .int (Box_top o1)) (ty := .int) (C := "MaskEdges$Box") (T := F_Box) (N := 4) hx hb ht in_Box ty_Box tyk_Box nm_Box hown hK hP hD hS 0 rfl rfl 1 (by decide) (ht _ xw_87) (fun _ h9 => h9) rfl (by decide +kernel) rfl rfl (Nat.le_of_ble_eq_true rfl) d_Box_copyFrom_13 (fun H locs hP hD hS => ?_)
  replace hP : va_P X.1 vwCl (w_Box X h0 (Box_u_top (Box_u_left o0 (Box_left o1)) (Box_top o1))) H := hP
  replace hD : va_D _ (w_Box X h0 (Box_u_top (Box_u_left o0 (Box_left o1)) (Box_top o1))) := hD
  refine lv_aload_n hx hb d_Box_copyFrom_16 rfl (lv_at hl 0 rfl) ?_
  refine lv_aload_n hx hb d_Box_copyFrom_17 rfl (lv_at hl 1 rfl) ?_
  refine va_get (D := X.1) (ci := 0) (v := .int (Box_right o1)) (C := "MaskEdges$Box") (T := F_Box) (N := 4) hx hb ht in_Box hown hK (xkept hP1 hno1 hS) 0 rfl rfl 2 (by decide) (ht _ xw_90) (fun _ h9 => h9) rfl d_Box_copyFrom_18 ?_
  refine va_put (D := X.1) (ci := 0) (v := .int (Box_right o1)) (ty := .int) (C := "MaskEdges$Box") (T := F_Box) (N := 4) hx hb ht in_Box ty_Box tyk_Box nm_Box hown hK hP hD hS 0 rfl rfl 2 (by decide) (ht _ xw_90) (fun _ h9 => h9) rfl (by decide +kernel) rfl rfl (Nat.le_of_ble_eq_true rfl) d_Box_copyFrom_21 (fun H locs hP hD hS => ?_)
  replace hP : va_P X.1 vwCl (w_Box X h0 (Box_u_right (Box_u_top (Box_u_left o0 (Box_left o1)) (Box_top o1)) (Box_right o1))) H := hP
  replace hD : va_D _ (w_Box X h0 (Box_u_right (Box_u_top (Box_u_left o0 (Box_left o1)) (Box_top o1)) (Box_right o1))) := hD
  refine lv_aload_n hx hb d_Box_copyFrom_24 rfl (lv_at hl 0 rfl) ?_
  refine lv_aload_n hx hb d_Box_copyFrom_25 rfl (lv_at hl 1 rfl) ?_
  refine va_get (D := X.1) (ci := 0) (v := .int (Box_bottom o1)) (C := "MaskEdges$Box") (T := F_Box) (N := 4) hx hb ht in_Box hown hK (xkept hP1 hno1 hS) 0 rfl rfl 3 (by decide) (ht _ xw_93) (fun _ h9 => h9) rfl d_Box_copyFrom_26 ?_
  refine va_put (D := X.1) (ci := 0) (v := .int (Box_bottom o1)) (ty := .int) (C := "MaskEdges$Box") (T := F_Box) (N := 4) hx hb ht in_Box ty_Box tyk_Box nm_Box hown hK hP hD hS 0 rfl rfl 3 (by decide) (ht _ xw_93) (fun _ h9 => h9) rfl (by decide +kernel) rfl rfl (Nat.le_of_ble_eq_true rfl) d_Box_copyFrom_29 (fun H locs hP hD hS => ?_)
  replace hP : va_P X.1 vwCl (w_Box X h0 (Box_u_bottom (Box_u_right (Box_u_top (Box_u_left o0 (Box_left o1)) (Box_top o1)) (Box_right o1)) (Box_bottom o1))) H := hP
  replace hD : va_D _ (w_Box X h0 (Box_u_bottom (Box_u_right (Box_u_top (Box_u_left o0 (Box_left o1)) (Box_top o1)) (Box_right o1)) (Box_bottom o1))) := hD
  replace hf := x_s hf
  subst hf
  subst hQ
  exact W.vret hx hb hr (fun t ht hW => ⟨⟨rfl, by rw [ht]; exact hP⟩, hS.F ht⟩) hS.2.2 d_Box_copyFrom_32
def f_Box_isOnGrid (o0 : t_Box) : Option (Int32) :=
  if (Box_left o0) < 0 then
  some (0 : Int32)
else
  if (Box_top o0) < 0 then
    some (0 : Int32)
  else
    if (48 : Int32) < (Box_right o0) then
      some (0 : Int32)
    else
      if (48 : Int32) < (Box_bottom o0) then
        some (0 : Int32)
      else
        some (1 : Int32)
set_option maxHeartbeats 4000000 in
set_option maxRecDepth 100000 in
theorem c_Box_isOnGrid (l : Launch) (X : xG) {H : Heap} (h0 : Nat) (o0 : t_Box) {res : Int32} (hP0 : va_P X.1 vwCl (w_Box X h0 o0) H) (hf : f_Box_isOnGrid o0 = some res) : xM l y_Box_isOnGrid (Cond.code y_Box_isOnGrid prog_2_method_4_code 1 (some .boolean) :: xT) ({ frames := 0, cells := 0, slots := 0, locals := 0 } : Room) (xK X) [.ref h0] H xNo (some (.int res)) (fun H1 => H1 = H) := by
  refine Met.ofW (cc := prog_2_method_4_code) (maxL := 1) (ret := (some .boolean)) (by decide) rfl ?_
  intro p e s m args below meth c s₁ B hml hv
  obtain ⟨ha, hH, hKK⟩ := hv
  subst hH
  have hx := B.exec
  have hb := B.bytes
  have hr := B.returns
  have ht : ∀ w ∈ xT, w.before args s = true := fun w h => atoms_spec (ws := (Cond.code y_Box_isOnGrid prog_2_method_4_code 1 (some .boolean) :: xT)) B.pre w (List.mem_cons_of_mem _ h)
  have hown : s.vm.findClass "MaskEdges$Box" = some m.cls := findClass_of_methodNamed B.named
  have hlocks := B.notSynchronized
  have hK := hKK.1
  rw [show entryFrame m args 1 = entryFrame m ([.ref h0] : List Value).toArray 1 from by rw [ha]]
  clear ha
  have hl := lv_entry ([.ref h0]) (n := 1) (Nat.le_of_ble_eq_true rfl)
  rw [lg_entry_eq]
  generalize (lg_sl ([.ref h0]) ++ List.replicate (1 - (lg_sl ([.ref h0])).length) Slot.unset).toArray = ls at hl ⊢
  replace hl : lv_has ls 1 [(0, .ref h0)] := hl
  refine x_Q (fun Q hQ => ?_)
  unfold f_Box_isOnGrid at hf
  refine lv_aload_n hx hb d_Box_isOnGrid_0 rfl (lv_at hl 0 rfl) ?_
  refine va_get (D := X.1) (ci := 0) (v := .int (Box_left o0)) (C := "MaskEdges$Box") (T := F_Box) (N := 4) hx hb ht in_Box hown hK hP0 0 rfl rfl 0 (by decide) (ht _ xw_84) (fun _ h9 => h9) rfl d_Box_isOnGrid_1 ?_
  refine lv_if_lt (tgt := 36) hx hb d_Box_isOnGrid_4 (by decide) (fun hc => ?_) (fun hc => ?_)
  · replace hf := x_t hc hf
    refine lv_iconst (v := (0 : Int32)) hx hb d_Box_isOnGrid_36 (by decide) ?_
    replace hf := x_s hf
    subst hf
    subst hQ
    exact W.zret (v := (0 : Int32)) hx hb hr (xz_n (by decide)) (fun t ht hW => ⟨⟨rfl, ht⟩, x_F0 ht⟩) x_l0 d_Box_isOnGrid_37
  · replace hf := x_f hc hf
    refine lv_aload_n hx hb d_Box_isOnGrid_7 rfl (lv_at hl 0 rfl) ?_
    refine va_get (D := X.1) (ci := 0) (v := .int (Box_top o0)) (C := "MaskEdges$Box") (T := F_Box) (N := 4) hx hb ht in_Box hown hK hP0 0 rfl rfl 1 (by decide) (ht _ xw_87) (fun _ h9 => h9) rfl d_Box_isOnGrid_8 ?_
    refine lv_if_lt (tgt := 36) hx hb d_Box_isOnGrid_11 (by decide) (fun hc => ?_) (fun hc => ?_)
    · replace hf := x_t hc hf
      refine lv_iconst (v := (0 : Int32)) hx hb d_Box_isOnGrid_36 (by decide) ?_
      replace hf := x_s hf
      subst hf
      subst hQ
      exact W.zret (v := (0 : Int32)) hx hb hr (xz_n (by decide)) (fun t ht hW => ⟨⟨rfl, ht⟩, x_F0 ht⟩) x_l0 d_Box_isOnGrid_37
    · replace hf := x_f hc hf
      refine lv_aload_n hx hb d_Box_isOnGrid_14 rfl (lv_at hl 0 rfl) ?_
      refine va_get (D := X.1) (ci := 0) (v := .int (Box_right o0)) (C := "MaskEdges$Box") (T := F_Box) (N := 4) hx hb ht in_Box hown hK hP0 0 rfl rfl 2 (by decide) (ht _ xw_90) (fun _ h9 => h9) rfl d_Box_isOnGrid_15 ?_
      refine lv_bipush (v := (48 : Int32)) hx hb d_Box_isOnGrid_18 (by decide) ?_
      refine lv_icmp_gt (tgt := 36) hx hb d_Box_isOnGrid_20 (by decide) (fun hc => ?_) (fun hc => ?_)
      · replace hf := x_t hc hf
        refine lv_iconst (v := (0 : Int32)) hx hb d_Box_isOnGrid_36 (by decide) ?_
        replace hf := x_s hf
        subst hf
        subst hQ
        exact W.zret (v := (0 : Int32)) hx hb hr (xz_n (by decide)) (fun t ht hW => ⟨⟨rfl, ht⟩, x_F0 ht⟩) x_l0 d_Box_isOnGrid_37
      · replace hf := x_f hc hf
        refine lv_aload_n hx hb d_Box_isOnGrid_23 rfl (lv_at hl 0 rfl) ?_
        refine va_get (D := X.1) (ci := 0) (v := .int (Box_bottom o0)) (C := "MaskEdges$Box") (T := F_Box) (N := 4) hx hb ht in_Box hown hK hP0 0 rfl rfl 3 (by decide) (ht _ xw_93) (fun _ h9 => h9) rfl d_Box_isOnGrid_24 ?_
        refine lv_bipush (v := (48 : Int32)) hx hb d_Box_isOnGrid_27 (by decide) ?_
        refine lv_icmp_gt (tgt := 36) hx hb d_Box_isOnGrid_29 (by decide) (fun hc => ?_) (fun hc => ?_)
        · replace hf := x_t hc hf
          refine lv_iconst (v := (0 : Int32)) hx hb d_Box_isOnGrid_36 (by decide) ?_
          replace hf := x_s hf
          subst hf
          subst hQ
          exact W.zret (v := (0 : Int32)) hx hb hr (xz_n (by decide)) (fun t ht hW => ⟨⟨rfl, ht⟩, x_F0 ht⟩) x_l0 d_Box_isOnGrid_37
        · replace hf := x_f hc hf
          refine lv_iconst (v := (1 : Int32)) hx hb d_Box_isOnGrid_32 (by decide) ?_
          refine lv_goto (tgt := 37) hx hb d_Box_isOnGrid_33 (by decide) ?_
          replace hf := x_s hf
          subst hf
          subst hQ
          exact W.zret (v := (1 : Int32)) hx hb hr (xz_n (by decide)) (fun t ht hW => ⟨⟨rfl, ht⟩, x_F0 ht⟩) x_l0 d_Box_isOnGrid_37
