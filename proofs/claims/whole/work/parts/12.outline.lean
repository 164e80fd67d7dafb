def f_Outline_nextCorner (o0 : t_Outline) (v1 : Int32) : Option (Int32) :=
  if (Outline_corners o0) ≤ (v1 + (1 : Int32)) then
  some (0 : Int32)
else
  some (v1 + (1 : Int32))
set_option maxHeartbeats 4000000 in
set_option maxRecDepth 100000 in
theorem c_Outline_nextCorner (l : Launch) (X : xG) {H : Heap} (h0 a0_0 a0_1 : Nat) (o0 : t_Outline) (v1 : Int32) {res : Int32} (hP0 : va_P X.1 vwCl (w_Outline X h0 a0_0 a0_1 o0) H) (hf : f_Outline_nextCorner o0 v1 = some res) : xM l y_Outline_nextCorner (Cond.code y_Outline_nextCorner prog_5_method_4_code 2 (some .int) :: xT) ({ frames := 0, cells := 0, slots := 0, locals := 0 } : Room) (xK X) [.ref h0, .int v1] H xNo (some (.int res)) (fun H1 => H1 = H) := by
  refine Met.ofW (cc := prog_5_method_4_code) (maxL := 2) (ret := (some .int)) (by decide) rfl ?_
  intro p e s m args below meth c s₁ B hml hv
  obtain ⟨ha, hH, hKK⟩ := hv
  subst hH
  have hx := B.exec
  have hb := B.bytes
  have hr := B.returns
  have ht : ∀ w ∈ xT, w.before args s = true := fun w h => atoms_spec (ws := (Cond.code y_Outline_nextCorner prog_5_method_4_code 2 (some .int) :: xT)) B.pre w (List.mem_cons_of_mem _ h)
  have hown : s.vm.findClass "MaskEdges$Outline" = some m.cls := findClass_of_methodNamed B.named
  have hlocks := B.notSynchronized
  have hK := hKK.1
  rw [show entryFrame m args 2 = entryFrame m ([.ref h0, .int v1] : List Value).toArray 2 from by rw [ha]]
  clear ha
  have hl := lv_entry ([.ref h0, .int v1]) (n := 2) (Nat.le_of_ble_eq_true rfl)
  rw [lg_entry_eq]
  generalize (lg_sl ([.ref h0, .int v1]) ++ List.replicate (2 - (lg_sl ([.ref h0, .int v1])).length) Slot.unset).toArray = ls at hl ⊢
  replace hl : lv_has ls 2 [(0, .ref h0), (1, .int v1)] := hl
  refine x_Q (fun Q hQ => ?_)
  unfold f_Outline_nextCorner at hf
  refine lv_iload_n hx hb d_Outline_nextCorner_0 rfl (lv_at hl 1 rfl) ?_
  refine lv_iconst (v := (1 : Int32)) hx hb d_Outline_nextCorner_1 (by decide) ?_
  refine lv_iadd hx hb d_Outline_nextCorner_2 ?_
  refine lv_aload_n hx hb d_Outline_nextCorner_3 rfl (lv_at hl 0 rfl) ?_
  refine va_get (D := X.1) (ci := 3) (v := .int (Outline_corners o0)) (C := "MaskEdges$Outline") (T := F_Outline) (N := 4) hx hb ht in_Outline hown hK hP0 0 rfl rfl 2 (by decide) (ht _ xw_108) (fun _ h9 => h9) rfl d_Outline_nextCorner_4 ?_
  refine lv_icmp_ge (tgt := 16) hx hb d_Outline_nextCorner_7 (by decide) (fun hc => ?_) (fun hc => ?_)
  · replace hf := x_t hc hf
    refine lv_iconst (v := (0 : Int32)) hx hb d_Outline_nextCorner_16 (by decide) ?_
    replace hf := x_s hf
    subst hf
    subst hQ
    exact W.iret (v := (0 : Int32)) hx hb hr (fun t ht hW => ⟨⟨rfl, ht⟩, x_F0 ht⟩) x_l0 d_Outline_nextCorner_17
  · replace hf := x_f hc hf
    refine lv_iload_n hx hb d_Outline_nextCorner_10 rfl (lv_at hl 1 rfl) ?_
    refine lv_iconst (v := (1 : Int32)) hx hb d_Outline_nextCorner_11 (by decide) ?_
    refine lv_iadd hx hb d_Outline_nextCorner_12 ?_
    refine lv_goto (tgt := 17) hx hb d_Outline_nextCorner_13 (by decide) ?_
    replace hf := x_s hf
    subst hf
    subst hQ
    exact W.iret (v := (v1 + (1 : Int32))) hx hb hr (fun t ht hW => ⟨⟨rfl, ht⟩, x_F0 ht⟩) x_l0 d_Outline_nextCorner_17
def f_Outline_isAlongX (o0 : t_Outline) (v1 : Int32) : Option (Int32) :=
  if xin v1 16 = true then
  (f_Outline_nextCorner o0 v1).bind fun c12 =>
    if xin c12 16 = true then
    if (Outline_ys o0 v1.toNatClampNeg) = (Outline_ys o0 c12.toNatClampNeg) then
      some (1 : Int32)
    else
      some (0 : Int32)
  else none
else none
set_option maxHeartbeats 4000000 in
set_option maxRecDepth 100000 in
theorem c_Outline_isAlongX (l : Launch) (X : xG) {H : Heap} (h0 a0_0 a0_1 : Nat) (o0 : t_Outline) (v1 : Int32) {res : Int32} (hP0 : va_P X.1 vwCl (w_Outline X h0 a0_0 a0_1 o0) H) (hf : f_Outline_isAlongX o0 v1 = some res) : xM l y_Outline_isAlongX (Cond.code y_Outline_isAlongX prog_5_method_5_code 2 (some .boolean) :: xT) ({ frames := 1, cells := 0, slots := 0, locals := 21 } : Room) (xK X) [.ref h0, .int v1] H xNo (some (.int res)) (fun H1 => H1 = H) := by
  refine Met.ofW (cc := prog_5_method_5_code) (maxL := 2) (ret := (some .boolean)) (by decide) rfl ?_
  intro p e s m args below meth c s₁ B hml hv
  obtain ⟨ha, hH, hKK⟩ := hv
  subst hH
  have hx := B.exec
  have hb := B.bytes
  have hr := B.returns
  have ht : ∀ w ∈ xT, w.before args s = true := fun w h => atoms_spec (ws := (Cond.code y_Outline_isAlongX prog_5_method_5_code 2 (some .boolean) :: xT)) B.pre w (List.mem_cons_of_mem _ h)
  have hown : s.vm.findClass "MaskEdges$Outline" = some m.cls := findClass_of_methodNamed B.named
  have hlocks := B.notSynchronized
  have hK := hKK.1
  rw [show entryFrame m args 2 = entryFrame m ([.ref h0, .int v1] : List Value).toArray 2 from by rw [ha]]
  clear ha
  have hl := lv_entry ([.ref h0, .int v1]) (n := 2) (Nat.le_of_ble_eq_true rfl)
  rw [lg_entry_eq]
  generalize (lg_sl ([.ref h0, .int v1]) ++ List.replicate (2 - (lg_sl ([.ref h0, .int v1])).length) Slot.unset).toArray = ls at hl ⊢
  replace hl : lv_has ls 2 [(0, .ref h0), (1, .int v1)] := hl
  refine x_Q (fun Q hQ => ?_)
  unfold f_Outline_isAlongX at hf
  refine lv_aload_n hx hb d_Outline_isAlongX_0 rfl (lv_at hl 0 rfl) ?_
  refine va_get (D := X.1) (ci := 3) (v := .ref a0_1) (C := "MaskEdges$Outline") (T := F_Outline) (N := 4) hx hb ht in_Outline hown hK hP0 0 rfl rfl 1 (by decide) (ht _ xw_106) (fun _ h9 => h9) rfl d_Outline_isAlongX_1 ?_
  refine lv_iload_n hx hb d_Outline_isAlongX_4 rfl (lv_at hl 1 rfl) ?_
  obtain ⟨g5, hf⟩ := x_g hf
  refine va_iald hx hb hK hP0 2 0 rfl rfl (xin_in g5) d_Outline_isAlongX_5 ?_
  refine lv_aload_n hx hb d_Outline_isAlongX_6 rfl (lv_at hl 0 rfl) ?_
  refine va_get (D := X.1) (ci := 3) (v := .ref a0_1) (C := "MaskEdges$Outline") (T := F_Outline) (N := 4) hx hb ht in_Outline hown hK hP0 0 rfl rfl 1 (by decide) (ht _ xw_106) (fun _ h9 => h9) rfl d_Outline_isAlongX_7 ?_
  refine lv_aload_n hx hb d_Outline_isAlongX_10 rfl (lv_at hl 0 rfl) ?_
  refine lv_iload_n hx hb d_Outline_isAlongX_11 rfl (lv_at hl 1 rfl) ?_
  obtain ⟨c12, e12, hf⟩ := x_b hf
  refine xcR (va_runV (As := [.int v1]) (rest := [.ref a0_1, .int (Outline_ys o0 v1.toNatClampNeg)]) ⟨hx, hb, hml, hown, ht⟩ (c_Outline_nextCorner l X h0 a0_0 a0_1 o0 v1 hP0 e12) (cwV 1 ht (xgV xw_203 xw_204 xw_205 xw_41 xw_206) rfl rfl rfl (by decide +kernel) ⟨Nat.le_of_ble_eq_true rfl, Nat.le_of_ble_eq_true rfl⟩) (xPV hKK (va_recv hK hP0 (ci := 3) (q0 := 0) rfl rfl)) rfl rfl hl.1 rfl (lv_room (Nat.le_of_ble_eq_true rfl)) d_Outline_isAlongX_12 ⟨Nat.zero_le _, Nat.zero_le _⟩) ?_
  refine W.eq (g2 := F0 m 15 ls [.int c12, .ref a0_1, .int (Outline_ys o0 v1.toNatClampNeg)]) rfl ?_
  obtain ⟨g15, hf⟩ := x_g hf
  refine va_iald hx hb hK hP0 2 0 rfl rfl (xin_in g15) d_Outline_isAlongX_15 ?_
  refine lv_icmp_ne (tgt := 23) hx hb d_Outline_isAlongX_16 (by decide) (fun hc => ?_) (fun hc => ?_)
  · replace hf := x_f hc hf
    refine lv_iconst (v := (0 : Int32)) hx hb d_Outline_isAlongX_23 (by decide) ?_
    replace hf := x_s hf
    subst hf
    subst hQ
    exact W.zret (v := (0 : Int32)) hx hb hr (xz_n (by decide)) (fun t ht hW => ⟨⟨rfl, ht⟩, x_F0 ht⟩) x_l0 d_Outline_isAlongX_24
  · replace hf := x_t hc hf
    refine lv_iconst (v := (1 : Int32)) hx hb d_Outline_isAlongX_19 (by decide) ?_
    refine lv_goto (tgt := 24) hx hb d_Outline_isAlongX_20 (by decide) ?_
    replace hf := x_s hf
    subst hf
    subst hQ
    exact W.zret (v := (1 : Int32)) hx hb hr (xz_n (by decide)) (fun t ht hW => ⟨⟨rfl, ht⟩, x_F0 ht⟩) x_l0 d_Outline_isAlongX_24
def f_Outline_maySideGoTo_50 (o0 : t_Outline) (v3 : Int32) (s0 : Int32) : Option (Int32) :=
  if v3 = s0 then
  some (0 : Int32)
else
  if (Outline_corners o0) = (1 : Int32) then
    some (1 : Int32)
  else
    (f_Outline_isAlongX o0 ((Outline_corners o0) - (2 : Int32))).bind fun c76 =>
      if v3 = c76 then
      some (0 : Int32)
    else
      some (1 : Int32)
def f_Outline_maySideGoTo_29 (o0 : t_Outline) (v1 : Int32) (s0 : Int32) : Option (Int32) :=
  if xin ((Outline_corners o0) - (1 : Int32)) 16 = true then
  if v1 = (Outline_xs o0 ((Outline_corners o0) - (1 : Int32)).toNatClampNeg) then
    (f_Outline_maySideGoTo_50 o0) s0 (1 : Int32)
  else
    (f_Outline_maySideGoTo_50 o0) s0 (0 : Int32)
else none
def f_Outline_maySideGoTo (o0 : t_Outline) (v1 : Int32) (v2 : Int32) : Option (Int32) :=
  if (Outline_corners o0) = 0 then
  some (1 : Int32)
else
  if xin ((Outline_corners o0) - (1 : Int32)) 16 = true then
    if v2 = (Outline_ys o0 ((Outline_corners o0) - (1 : Int32)).toNatClampNeg) then
      (f_Outline_maySideGoTo_29 o0) v1 (1 : Int32)
    else
      (f_Outline_maySideGoTo_29 o0) v1 (0 : Int32)
  else none
set_option maxHeartbeats 4000000 in
set_option maxRecDepth 100000 in
theorem c_Outline_maySideGoTo (l : Launch) (X : xG) {H : Heap} (h0 a0_0 a0_1 : Nat) (o0 : t_Outline) (v1 : Int32) (v2 : Int32) {res : Int32} (hP0 : va_P X.1 vwCl (w_Outline X h0 a0_0 a0_1 o0) H) (hf : f_Outline_maySideGoTo o0 v1 v2 = some res) : xM l y_Outline_maySideGoTo (Cond.code y_Outline_maySideGoTo prog_5_method_3_code 5 (some .boolean) :: xT) ({ frames := 2, cells := 0, slots := 0, locals := 42 } : Room) (xK X) [.ref h0, .int v1, .int v2] H xNo (some (.int res)) (fun H1 => H1 = H) := by
  refine Met.ofW (cc := prog_5_method_3_code) (maxL := 5) (ret := (some .boolean)) (by decide) rfl ?_
  intro p e s m args below meth c s₁ B hml hv
  obtain ⟨ha, hH, hKK⟩ := hv
  subst hH
  have hx := B.exec
  have hb := B.bytes
  have hr := B.returns
  have ht : ∀ w ∈ xT, w.before args s = true := fun w h => atoms_spec (ws := (Cond.code y_Outline_maySideGoTo prog_5_method_3_code 5 (some .boolean) :: xT)) B.pre w (List.mem_cons_of_mem _ h)
  have hown : s.vm.findClass "MaskEdges$Outline" = some m.cls := findClass_of_methodNamed B.named
  have hlocks := B.notSynchronized
  have hK := hKK.1
  rw [show entryFrame m args 5 = entryFrame m ([.ref h0, .int v1, .int v2] : List Value).toArray 5 from by rw [ha]]
  clear ha
  have hl := lv_entry ([.ref h0, .int v1, .int v2]) (n := 5) (Nat.le_of_ble_eq_true rfl)
  rw [lg_entry_eq]
  generalize (lg_sl ([.ref h0, .int v1, .int v2]) ++ List.replicate (5 - (lg_sl ([.ref h0, .int v1, .int v2])).length) Slot.unset).toArray = ls at hl ⊢
  replace hl : lv_has ls 5 [(0, .ref h0), (1, .int v1), (2, .int v2)] := hl
  refine x_Q (fun Q hQ => ?_)
  have hL50 : ∀ (v3 : Int32) (s0 : Int32), ∀ (ls : Array Slot), lv_has ls 5 [(0, .ref h0), (3, .int v3)] → f_Outline_maySideGoTo_50 o0 v3 s0 = some res → W p l e (headSpec (Cond.code y_Outline_maySideGoTo prog_5_method_3_code 5 (some .boolean) :: xT) ({ frames := 2, cells := 0, slots := 0, locals := 42 } : Room)).room s m args below meth c s.heap [] 0 0 Q (F0 m 50 ls [.int s0]) := by
    intro v3 s0 ls hl hf
    unfold f_Outline_maySideGoTo_50 at hf
    refine lv_istore (lv' := [(4, .int s0), (0, .ref h0), (3, .int v3)]) hx hb d_Outline_maySideGoTo_50 hl (by decide) rfl (fun ls hl => ?_)
    refine lv_iload_n hx hb d_Outline_maySideGoTo_52 rfl (lv_at hl 2 rfl) ?_
    refine lv_iload hx hb d_Outline_maySideGoTo_53 (lv_at hl 0 rfl) ?_
    refine lv_icmp_ne (tgt := 60) hx hb d_Outline_maySideGoTo_55 (by decide) (fun hc => ?_) (fun hc => ?_)
    · replace hf := x_f hc hf
      refine lv_aload_n hx hb d_Outline_maySideGoTo_60 rfl (lv_at hl 1 rfl) ?_
      refine va_get (D := X.1) (ci := 3) (v := .int (Outline_corners o0)) (C := "MaskEdges$Outline") (T := F_Outline) (N := 4) hx hb ht in_Outline hown hK hP0 0 rfl rfl 2 (by decide) (ht _ xw_108) (fun _ h9 => h9) rfl d_Outline_maySideGoTo_61 ?_
      refine lv_iconst (v := (1 : Int32)) hx hb d_Outline_maySideGoTo_64 (by decide) ?_
      refine lv_icmp_eq (tgt := 82) hx hb d_Outline_maySideGoTo_65 (by decide) (fun hc => ?_) (fun hc => ?_)
      · replace hf := x_t hc hf
        refine lv_iconst (v := (1 : Int32)) hx hb d_Outline_maySideGoTo_82 (by decide) ?_
        refine lv_goto (tgt := 87) hx hb d_Outline_maySideGoTo_83 (by decide) ?_
        replace hf := x_s hf
        subst hf
        subst hQ
        exact W.zret (v := (1 : Int32)) hx hb hr (xz_n (by decide)) (fun t ht hW => ⟨⟨rfl, ht⟩, x_F0 ht⟩) x_l0 d_Outline_maySideGoTo_87
      · replace hf := x_f hc hf
        refine lv_iload_n hx hb d_Outline_maySideGoTo_68 rfl (lv_at hl 2 rfl) ?_
        refine lv_aload_n hx hb d_Outline_maySideGoTo_69 rfl (lv_at hl 1 rfl) ?_
        refine lv_aload_n hx hb d_Outline_maySideGoTo_70 rfl (lv_at hl 1 rfl) ?_
        refine va_get (D := X.1) (ci := 3) (v := .int (Outline_corners o0)) (C := "MaskEdges$Outline") (T := F_Outline) (N := 4) hx hb ht in_Outline hown hK hP0 0 rfl rfl 2 (by decide) (ht _ xw_108) (fun _ h9 => h9) rfl d_Outline_maySideGoTo_71 ?_
        refine lv_iconst (v := (2 : Int32)) hx hb d_Outline_maySideGoTo_74 (by decide) ?_
        refine lv_isub hx hb d_Outline_maySideGoTo_75 ?_
        obtain ⟨c76, e76, hf⟩ := x_b hf
        refine xcR (va_runV (As := [.int ((Outline_corners o0) - (2 : Int32))]) (rest := [.int v3]) ⟨hx, hb, hml, hown, ht⟩ (c_Outline_isAlongX l X h0 a0_0 a0_1 o0 ((Outline_corners o0) - (2 : Int32)) hP0 e76) (cwV 1 ht (xgV xw_199 xw_200 xw_201 xw_41 xw_202) rfl rfl rfl (by decide +kernel) ⟨Nat.le_of_ble_eq_true rfl, Nat.le_of_ble_eq_true rfl⟩) (xPV hKK (va_recv hK hP0 (ci := 3) (q0 := 0) rfl rfl)) rfl rfl hl.1 rfl (lv_room (Nat.le_of_ble_eq_true rfl)) d_Outline_maySideGoTo_76 ⟨Nat.zero_le _, Nat.zero_le _⟩) ?_
        refine W.eq (g2 := F0 m 79 ls [.int c76, .int v3]) rfl ?_
        refine lv_icmp_eq (tgt := 86) hx hb d_Outline_maySideGoTo_79 (by decide) (fun hc => ?_) (fun hc => ?_)
        · replace hf := x_t hc hf
          refine lv_iconst (v := (0 : Int32)) hx hb d_Outline_maySideGoTo_86 (by decide) ?_
          replace hf := x_s hf
          subst hf
          subst hQ
          exact W.zret (v := (0 : Int32)) hx hb hr (xz_n (by decide)) (fun t ht hW => ⟨⟨rfl, ht⟩, x_F0 ht⟩) x_l0 d_Outline_maySideGoTo_87
        · replace hf := x_f hc hf
          refine lv_iconst (v := (1 : Int32)) hx hb d_Outline_maySideGoTo_82 (by decide) ?_
          refine lv_goto (tgt := 87) hx hb d_Outline_maySideGoTo_83 (by decide) ?_
          replace hf := x_s hf
          subst hf
          subst hQ
          exact W.zret (v := (1 : Int32)) hx hb hr (xz_n (by decide)) (fun t ht hW => ⟨⟨rfl, ht⟩, x_F0 ht⟩) x_l0 d_Outline_maySideGoTo_87
    · replace hf := x_t hc hf
      refine lv_iconst (v := (0 : Int32)) hx hb d_Outline_maySideGoTo_58 (by decide) ?_
      replace hf := x_s hf
      subst hf
      subst hQ
      exact W.zret (v := (0 : Int32)) hx hb hr (xz_n (by decide)) (fun t ht hW => ⟨⟨rfl, ht⟩, x_F0 ht⟩) x_l0 d_Outline_maySideGoTo_59
  have hL29 : ∀ (v1 : Int32) (s0 : Int32), ∀ (ls : Array Slot), lv_has ls 5 [(0, .ref h0), (1, .int v1)] → f_Outline_maySideGoTo_29 o0 v1 s0 = some res → W p l e (headSpec (Cond.code y_Outline_maySideGoTo prog_5_method_3_code 5 (some .boolean) :: xT) ({ frames := 2, cells := 0, slots := 0, locals := 42 } : Room)).room s m args below meth c s.heap [] 0 0 Q (F0 m 29 ls [.int s0]) := by
    intro v1 s0 ls hl hf
    unfold f_Outline_maySideGoTo_29 at hf
    refine lv_istore_n (lv' := [(3, .int s0), (0, .ref h0), (1, .int v1)]) hx hb d_Outline_maySideGoTo_29 rfl hl (by decide) rfl (fun ls hl => ?_)
    refine lv_iload_n hx hb d_Outline_maySideGoTo_30 rfl (lv_at hl 2 rfl) ?_
    refine lv_aload_n hx hb d_Outline_maySideGoTo_31 rfl (lv_at hl 1 rfl) ?_
    refine va_get (D := X.1) (ci := 3) (v := .ref a0_0) (C := "MaskEdges$Outline") (T := F_Outline) (N := 4) hx hb ht in_Outline hown hK hP0 0 rfl rfl 0 (by decide) (ht _ xw_104) (fun _ h9 => h9) rfl d_Outline_maySideGoTo_32 ?_
    refine lv_aload_n hx hb d_Outline_maySideGoTo_35 rfl (lv_at hl 1 rfl) ?_
    refine va_get (D := X.1) (ci := 3) (v := .int (Outline_corners o0)) (C := "MaskEdges$Outline") (T := F_Outline) (N := 4) hx hb ht in_Outline hown hK hP0 0 rfl rfl 2 (by decide) (ht _ xw_108) (fun _ h9 => h9) rfl d_Outline_maySideGoTo_36 ?_
    refine lv_iconst (v := (1 : Int32)) hx hb d_Outline_maySideGoTo_39 (by decide) ?_
    refine lv_isub hx hb d_Outline_maySideGoTo_40 ?_
    obtain ⟨g41, hf⟩ := x_g hf
    refine va_iald hx hb hK hP0 1 0 rfl rfl (xin_in g41) d_Outline_maySideGoTo_41 ?_
    refine lv_icmp_ne (tgt := 49) hx hb d_Outline_maySideGoTo_42 (by decide) (fun hc => ?_) (fun hc => ?_)
    · replace hf := x_f hc hf
      refine lv_iconst (v := (0 : Int32)) hx hb d_Outline_maySideGoTo_49 (by decide) ?_
      exact hL50 s0 (0 : Int32)  ls (lv_sub hl [1, 0] rfl) hf
    · replace hf := x_t hc hf
      refine lv_iconst (v := (1 : Int32)) hx hb d_Outline_maySideGoTo_45 (by decide) ?_
      refine lv_goto (tgt := 50) hx hb d_Outline_maySideGoTo_46 (by decide) ?_
      exact hL50 s0 (1 : Int32)  ls (lv_sub hl [1, 0] rfl) hf
  unfold f_Outline_maySideGoTo at hf
  refine lv_aload_n hx hb d_Outline_maySideGoTo_0 rfl (lv_at hl 0 rfl) ?_
  refine va_get (D := X.1) (ci := 3) (v := .int (Outline_corners o0)) (C := "MaskEdges$Outline") (T := F_Outline) (N := 4) hx hb ht in_Outline hown hK hP0 0 rfl rfl 2 (by decide) (ht _ xw_108) (fun _ h9 => h9) rfl d_Outline_maySideGoTo_1 ?_
  refine lv_if_ne (tgt := 9) hx hb d_Outline_maySideGoTo_4 (by decide) (fun hc => ?_) (fun hc => ?_)
  · replace hf := x_f hc hf
    refine lv_iload_n hx hb d_Outline_maySideGoTo_9 rfl (lv_at hl 2 rfl) ?_
    refine lv_aload_n hx hb d_Outline_maySideGoTo_10 rfl (lv_at hl 0 rfl) ?_
    refine va_get (D := X.1) (ci := 3) (v := .ref a0_1) (C := "MaskEdges$Outline") (T := F_Outline) (N := 4) hx hb ht in_Outline hown hK hP0 0 rfl rfl 1 (by decide) (ht _ xw_106) (fun _ h9 => h9) rfl d_Outline_maySideGoTo_11 ?_
    refine lv_aload_n hx hb d_Outline_maySideGoTo_14 rfl (lv_at hl 0 rfl) ?_
    refine va_get (D := X.1) (ci := 3) (v := .int (Outline_corners o0)) (C := "MaskEdges$Outline") (T := F_Outline) (N := 4) hx hb ht in_Outline hown hK hP0 0 rfl rfl 2 (by decide) (ht _ xw_108) (fun _ h9 => h9) rfl d_Outline_maySideGoTo_15 ?_
    refine lv_iconst (v := (1 : Int32)) hx hb d_Outline_maySideGoTo_18 (by decide) ?_
    refine lv_isub hx hb d_Outline_maySideGoTo_19 ?_
    obtain ⟨g20, hf⟩ := x_g hf
    refine va_iald hx hb hK hP0 2 0 rfl rfl (xin_in g20) d_Outline_maySideGoTo_20 ?_
    refine lv_icmp_ne (tgt := 28) hx hb d_Outline_maySideGoTo_21 (by decide) (fun hc => ?_) (fun hc => ?_)
    · replace hf := x_f hc hf
      refine lv_iconst (v := (0 : Int32)) hx hb d_Outline_maySideGoTo_28 (by decide) ?_
      exact hL29 v1 (0 : Int32)  ls (lv_sub hl [0, 1] rfl) hf
    · replace hf := x_t hc hf
      refine lv_iconst (v := (1 : Int32)) hx hb d_Outline_maySideGoTo_24 (by decide) ?_
      refine lv_goto (tgt := 29) hx hb d_Outline_maySideGoTo_25 (by decide) ?_
      exact hL29 v1 (1 : Int32)  ls (lv_sub hl [0, 1] rfl) hf
  · replace hf := x_t hc hf
    refine lv_iconst (v := (1 : Int32)) hx hb d_Outline_maySideGoTo_7 (by decide) ?_
    replace hf := x_s hf
    subst hf
    subst hQ
    exact W.zret (v := (1 : Int32)) hx hb hr (xz_n (by decide)) (fun t ht hW => ⟨⟨rfl, ht⟩, x_F0 ht⟩) x_l0 d_Outline_maySideGoTo_8
def f_Outline_takeCorner_78 (v1 : Int32) (v2 : Int32) (o0 : t_Outline) : Option (Int32 × t_Outline) :=
  if (Outline_corners o0) < (16 : Int32) then
  if xin (Outline_corners o0) 16 = true then
    if xin (Outline_corners (Outline_u_xs o0 (upd (Outline_xs o0) (Outline_corners o0).toNatClampNeg v1))) 16 = true then
      some ((1 : Int32), (Outline_u_corners (Outline_u_ys (Outline_u_xs o0 (upd (Outline_xs o0) (Outline_corners o0).toNatClampNeg v1)) (upd (Outline_ys (Outline_u_xs o0 (upd (Outline_xs o0) (Outline_corners o0).toNatClampNeg v1))) (Outline_corners (Outline_u_xs o0 (upd (Outline_xs o0) (Outline_corners o0).toNatClampNeg v1))).toNatClampNeg v2)) ((Outline_corners (Outline_u_ys (Outline_u_xs o0 (upd (Outline_xs o0) (Outline_corners o0).toNatClampNeg v1)) (upd (Outline_ys (Outline_u_xs o0 (upd (Outline_xs o0) (Outline_corners o0).toNatClampNeg v1))) (Outline_corners (Outline_u_xs o0 (upd (Outline_xs o0) (Outline_corners o0).toNatClampNeg v1))).toNatClampNeg v2))) + (1 : Int32))))
    else none
  else none
else
  some ((0 : Int32), o0)
def f_Outline_takeCorner_70 (s0 : Int32) (o0 : t_Outline) : Option (Int32 × t_Outline) :=
  if xz s0 = true then
  if xz (Outline_closed (Outline_u_closed o0 s0)) = true then
    some ((Outline_closed (Outline_u_closed o0 s0)), (Outline_u_closed o0 s0))
  else none
else none
def f_Outline_takeCorner (v1 : Int32) (v2 : Int32) (o0 : t_Outline) : Option (Int32 × t_Outline) :=
  if (Outline_closed o0) = 0 then
  (f_Outline_maySideGoTo o0 v1 v2).bind fun c10 =>
    if c10 = 0 then
    some ((0 : Int32), o0)
  else
    if (Outline_corners o0) < (4 : Int32) then
      f_Outline_takeCorner_78 v1 v2 o0
    else
      if xin (0 : Int32) 16 = true then
        if v1 = (Outline_xs o0 (0 : Int32).toNatClampNeg) then
          if xin (0 : Int32) 16 = true then
            if v2 = (Outline_ys o0 (0 : Int32).toNatClampNeg) then
              (f_Outline_isAlongX o0 ((Outline_corners o0) - (1 : Int32))).bind fun c54 =>
                (f_Outline_isAlongX o0 (0 : Int32)).bind fun c59 =>
                if c54 = c59 then
                f_Outline_takeCorner_70 (0 : Int32) o0
              else
                f_Outline_takeCorner_70 (1 : Int32) o0
            else
              f_Outline_takeCorner_78 v1 v2 o0
          else none
        else
          f_Outline_takeCorner_78 v1 v2 o0
      else none
else
  some ((0 : Int32), o0)
set_option maxHeartbeats 4000000 in
set_option maxRecDepth 100000 in
theorem c_Outline_takeCorner (l : Launch) (X : xG) {H : Heap} (h0 a0_0 a0_1 : Nat) (o0 : t_Outline) (v1 : Int32) (v2 : Int32) {res : Int32 × t_Outline} (hP0 : va_P X.1 vwCl (w_Outline X h0 a0_0 a0_1 o0) H) (hnd : [h0, a0_0, a0_1].Nodup) (hf : f_Outline_takeCorner v1 v2 o0 = some res) : xM l y_Outline_takeCorner (Cond.code y_Outline_takeCorner prog_5_method_2_code 3 (some .boolean) :: xT) ({ frames := 3, cells := 0, slots := 0, locals := 66 } : Room) (xK X) [.ref h0, .int v1, .int v2] H (xAl [h0, a0_0, a0_1]) (some (.int res.1)) (fun H1 => va_P X.1 vwCl (w_Outline X h0 a0_0 a0_1 res.2) H1) := by
  refine Met.ofW (cc := prog_5_method_2_code) (maxL := 3) (ret := (some .boolean)) (by decide) rfl ?_
  intro p e s m args below meth c s₁ B hml hv
  obtain ⟨ha, hH, hKK⟩ := hv
  subst hH
  have hx := B.exec
  have hb := B.bytes
  have hr := B.returns
  have ht : ∀ w ∈ xT, w.before args s = true := fun w h => atoms_spec (ws := (Cond.code y_Outline_takeCorner prog_5_method_2_code 3 (some .boolean) :: xT)) B.pre w (List.mem_cons_of_mem _ h)
  have hown : s.vm.findClass "MaskEdges$Outline" = some m.cls := findClass_of_methodNamed B.named
  have hlocks := B.notSynchronized
  have hK := hKK.1
  rw [show entryFrame m args 3 = entryFrame m ([.ref h0, .int v1, .int v2] : List Value).toArray 3 from by rw [ha]]
  clear ha
  have hP := hP0
  have hD : va_D (xAl [h0, a0_0, a0_1]) (w_Outline X h0 a0_0 a0_1 o0) := xDl rfl hnd
  have hS : va_S (xAl [h0, a0_0, a0_1]) s.heap s.heap [] := va_S.rf
  have hl := lv_entry ([.ref h0, .int v1, .int v2]) (n := 3) (Nat.le_of_ble_eq_true rfl)
  rw [lg_entry_eq]
  generalize (lg_sl ([.ref h0, .int v1, .int v2]) ++ List.replicate (3 - (lg_sl ([.ref h0, .int v1, .int v2])).length) Slot.unset).toArray = ls at hl ⊢
  replace hl : lv_has ls 3 [(0, .ref h0), (1, .int v1), (2, .int v2)] := hl
  refine x_Q (fun Q hQ => ?_)
  have hL78 : ∀ (v1 : Int32) (v2 : Int32) (o0 : t_Outline), ∀ (H : Heap) (locs : List Loc), va_P X.1 vwCl (w_Outline X h0 a0_0 a0_1 o0) H → va_S (xAl [h0, a0_0, a0_1]) s.heap H locs → ∀ (ls : Array Slot), lv_has ls 3 [(0, .ref h0), (1, .int v1), (2, .int v2)] → f_Outline_takeCorner_78 v1 v2 o0 = some res → W p l e (headSpec (Cond.code y_Outline_takeCorner prog_5_method_2_code 3 (some .boolean) :: xT) ({ frames := 3, cells := 0, slots := 0, locals := 66 } : Room)).room s m args below meth c H locs 0 0 Q (F0 m 78 ls []) := by
    intro v1 v2 o0 H locs hP hS ls hl hf
    unfold f_Outline_takeCorner_78 at hf
    have hD : va_D (xAl [h0, a0_0, a0_1]) (w_Outline X h0 a0_0 a0_1 o0) := xDl rfl hnd
    refine lv_aload_n hx hb d_Outline_takeCorner_78 rfl (lv_at hl 0 rfl) ?_
    refine va_get (D := X.1) (ci := 3) (v := .int (Outline_corners o0)) (C := "MaskEdges$Outline") (T := F_Outline) (N := 4) hx hb ht in_Outline hown hK hP 0 rfl rfl 2 (by decide) (ht _ xw_108) (fun _ h9 => h9) rfl d_Outline_takeCorner_79 ?_
    refine lv_bipush (v := (16 : Int32)) hx hb d_Outline_takeCorner_82 (by decide) ?_
    refine lv_icmp_lt (tgt := 89) hx hb d_Outline_takeCorner_84 (by decide) (fun hc => ?_) (fun hc => ?_)
    · replace hf := x_t hc hf
      refine lv_aload_n hx hb d_Outline_takeCorner_89 rfl (lv_at hl 0 rfl) ?_
      refine va_get (D := X.1) (ci := 3) (v := .ref a0_0) (C := "MaskEdges$Outline") (T := F_Outline) (N := 4) hx hb ht in_Outline hown hK hP 0 rfl rfl 0 (by decide) (ht _ xw_104) (fun _ h9 => h9) rfl d_Outline_takeCorner_90 ?_
      refine lv_aload_n hx hb d_Outline_takeCorner_93 rfl (lv_at hl 0 rfl) ?_
      refine va_get (D := X.1) (ci := 3) (v := .int (Outline_corners o0)) (C := "MaskEdges$Outline") (T := F_Outline) (N := 4) hx hb ht in_Outline hown hK hP 0 rfl rfl 2 (by decide) (ht _ xw_108) (fun _ h9 => h9) rfl d_Outline_takeCorner_94 ?_
      refine lv_iload_n hx hb d_Outline_takeCorner_97 rfl (lv_at hl 1 rfl) ?_
      obtain ⟨g98, hf⟩ := x_g hf
      refine va_iast hx hb hK hP hD hS 1 0 rfl rfl (xin_in g98) d_Outline_takeCorner_98 (fun H locs hP hD hS => ?_)
      replace hP : va_P X.1 vwCl (w_Outline X h0 a0_0 a0_1 (Outline_u_xs o0 (upd (Outline_xs o0) (Outline_corners o0).toNatClampNeg v1))) H := hP
      replace hD : va_D _ (w_Outline X h0 a0_0 a0_1 (Outline_u_xs o0 (upd (Outline_xs o0) (Outline_corners o0).toNatClampNeg v1))) := hD
      refine lv_aload_n hx hb d_Outline_takeCorner_99 rfl (lv_at hl 0 rfl) ?_
      refine va_get (D := X.1) (ci := 3) (v := .ref a0_1) (C := "MaskEdges$Outline") (T := F_Outline) (N := 4) hx hb ht in_Outline hown hK hP 0 rfl rfl 1 (by decide) (ht _ xw_106) (fun _ h9 => h9) rfl d_Outline_takeCorner_100 ?_
      refine lv_aload_n hx hb d_Outline_takeCorner_103 rfl (lv_at hl 0 rfl) ?_
      refine va_get (D := X.1) (ci := 3) (v := .int (Outline_corners (Outline_u_xs o0 (upd (Outline_xs o0) (Outline_corners o0).toNatClampNeg v1)))) (C := "MaskEdges$Outline") (T := F_Outline) (N := 4) hx hb ht in_Outline hown hK hP 0 rfl rfl 2 (by decide) (ht _ xw_108) (fun _ h9 => h9) rfl d_Outline_takeCorner_104 ?_
      refine lv_iload_n hx hb d_Outline_takeCorner_107 rfl (lv_at hl 2 rfl) ?_
      obtain ⟨g108, hf⟩ := x_g hf
      refine va_iast hx hb hK hP hD hS 2 0 rfl rfl (xin_in g108) d_Outline_takeCorner_108 (fun H locs hP hD hS => ?_)
      replace hP : va_P X.1 vwCl (w_Outline X h0 a0_0 a0_1 (Outline_u_ys (Outline_u_xs o0 (upd (Outline_xs o0) (Outline_corners o0).toNatClampNeg v1)) (upd (Outline_ys (Outline_u_xs o0 (upd (Outline_xs o0) (Outline_corners o0).toNatClampNeg v1))) (Outline_corners (Outline_u_xs o0 (upd (Outline_xs o0) (Outline_corners o0).toNatClampNeg v1))).toNatClampNeg v2))) H := hP
      replace hD : va_D _ (w_Outline X h0 a0_0 a0_1 (Outline_u_ys (Outline_u_xs o0 (upd (Outline_xs o0) (Outline_corners o0).toNatClampNeg v1)) (upd (Outline_ys (Outline_u_xs o0 (upd (Outline_xs o0) (Outline_corners o0).toNatClampNeg v1))) (Outline_corners (Outline_u_xs o0 (upd (Outline_xs o0) (Outline_corners o0).toNatClampNeg v1))).toNatClampNeg v2))) := hD
      refine lv_aload_n hx hb d_Outline_takeCorner_109 rfl (lv_at hl 0 rfl) ?_
      refine lv_dup hx hb d_Outline_takeCorner_110 rfl ?_
      refine va_get (D := X.1) (ci := 3) (v := .int (Outline_corners (Outline_u_ys (Outline_u_xs o0 (upd (Outline_xs o0) (Outline_corners o0).toNatClampNeg v1)) (upd (Outline_ys (Outline_u_xs o0 (upd (Outline_xs o0) (Outline_corners o0).toNatClampNeg v1))) (Outline_corners (Outline_u_xs o0 (upd (Outline_xs o0) (Outline_corners o0).toNatClampNeg v1))).toNatClampNeg v2)))) (C := "MaskEdges$Outline") (T := F_Outline) (N := 4) hx hb ht in_Outline hown hK hP 0 rfl rfl 2 (by decide) (ht _ xw_108) (fun _ h9 => h9) rfl d_Outline_takeCorner_111 ?_
      refine lv_iconst (v := (1 : Int32)) hx hb d_Outline_takeCorner_114 (by decide) ?_
      refine lv_iadd hx hb d_Outline_takeCorner_115 ?_
      refine va_put (D := X.1) (ci := 3) (v := .int ((Outline_corners (Outline_u_ys (Outline_u_xs o0 (upd (Outline_xs o0) (Outline_corners o0).toNatClampNeg v1)) (upd (Outline_ys (Outline_u_xs o0 (upd (Outline_xs o0) (Outline_corners o0).toNatClampNeg v1))) (Outline_corners (Outline_u_xs o0 (upd (Outline_xs o0) (Outline_corners o0).toNatClampNeg v1))).toNatClampNeg v2))) + (1 : Int32))) (ty := .int) (C := "MaskEdges$Outline") (T := F_Outline) (N := 4) hx hb ht in_Outline ty_Outline tyk_Outline nm_Outline hown hK hP hD hS 0 rfl rfl 2 (by decide) (ht _ xw_108) (fun _ h9 => h9) rfl (by decide +kernel) rfl rfl (Nat.le_of_ble_eq_true rfl) d_Outline_takeCorner_116 (fun H locs hP hD hS => ?_)
      replace hP : va_P X.1 vwCl (w_Outline X h0 a0_0 a0_1 (Outline_u_corners (Outline_u_ys (Outline_u_xs o0 (upd (Outline_xs o0) (Outline_corners o0).toNatClampNeg v1)) (upd (Outline_ys (Outline_u_xs o0 (upd (Outline_xs o0) (Outline_corners o0).toNatClampNeg v1))) (Outline_corners (Outline_u_xs o0 (upd (Outline_xs o0) (Outline_corners o0).toNatClampNeg v1))).toNatClampNeg v2)) ((Outline_corners (Outline_u_ys (Outline_u_xs o0 (upd (Outline_xs o0) (Outline_corners o0).toNatClampNeg v1)) (upd (Outline_ys (Outline_u_xs o0 (upd (Outline_xs o0) (Outline_corners o0).toNatClampNeg v1))) (Outline_corners (Outline_u_xs o0 (upd (Outline_xs o0) (Outline_corners o0).toNatClampNeg v1))).toNatClampNeg v2))) + (1 : Int32)))) H := hP
      replace hD : va_D _ (w_Outline X h0 a0_0 a0_1 (Outline_u_corners (Outline_u_ys (Outline_u_xs o0 (upd (Outline_xs o0) (Outline_corners o0).toNatClampNeg v1)) (upd (Outline_ys (Outline_u_xs o0 (upd (Outline_xs o0) (Outline_corners o0).toNatClampNeg v1))) (Outline_corners (Outline_u_xs o0 (upd (Outline_xs o0) (Outline_corners o0).toNatClampNeg v1))).toNatClampNeg v2)) ((Outline_corners (Outline_u_ys (Outline_u_xs o0 (upd (Outline_xs o0) (Outline_corners o0).toNatClampNeg v1)) (upd (Outline_ys (Outline_u_xs o0 (upd (Outline_xs o0) (Outline_corners o0).toNatClampNeg v1))) (Outline_corners (Outline_u_xs o0 (upd (Outline_xs o0) (Outline_corners o0).toNatClampNeg v1))).toNatClampNeg v2))) + (1 : Int32)))) := hD
      refine lv_iconst (v := (1 : Int32)) hx hb d_Outline_takeCorner_119 (by decide) ?_
      replace hf := x_s hf
      subst hf
      subst hQ
      exact W.zret (v := (1 : Int32)) hx hb hr (xz_n (by decide)) (fun t ht hW => ⟨⟨rfl, by rw [ht]; exact hP⟩, hS.F ht⟩) hS.2.2 d_Outline_takeCorner_120
    · replace hf := x_f hc hf
      refine lv_iconst (v := (0 : Int32)) hx hb d_Outline_takeCorner_87 (by decide) ?_
      replace hf := x_s hf
      subst hf
      subst hQ
      exact W.zret (v := (0 : Int32)) hx hb hr (xz_n (by decide)) (fun t ht hW => ⟨⟨rfl, by rw [ht]; exact hP⟩, hS.F ht⟩) hS.2.2 d_Outline_takeCorner_88
  have hL70 : ∀ (s0 : Int32) (o0 : t_Outline), ∀ (H : Heap) (locs : List Loc), va_P X.1 vwCl (w_Outline X h0 a0_0 a0_1 o0) H → va_S (xAl [h0, a0_0, a0_1]) s.heap H locs → ∀ (ls : Array Slot), lv_has ls 3 [(0, .ref h0)] → f_Outline_takeCorner_70 s0 o0 = some res → W p l e (headSpec (Cond.code y_Outline_takeCorner prog_5_method_2_code 3 (some .boolean) :: xT) ({ frames := 3, cells := 0, slots := 0, locals := 66 } : Room)).room s m args below meth c H locs 0 0 Q (F0 m 70 ls [.int s0, .ref h0]) := by
    intro s0 o0 H locs hP hS ls hl hf
    unfold f_Outline_takeCorner_70 at hf
    have hD : va_D (xAl [h0, a0_0, a0_1]) (w_Outline X h0 a0_0 a0_1 o0) := xDl rfl hnd
    obtain ⟨z70, hf⟩ := x_g hf
    refine va_put (D := X.1) (ci := 3) (v := .int s0) (ty := .boolean) (C := "MaskEdges$Outline") (T := F_Outline) (N := 4) hx hb ht in_Outline ty_Outline tyk_Outline nm_Outline hown hK hP hD hS 0 rfl rfl 3 (by decide) (ht _ xw_110) (fun _ h9 => h9) rfl (by decide +kernel) (xz_n z70) (xz_f z70) (Nat.le_of_ble_eq_true rfl) d_Outline_takeCorner_70 (fun H locs hP hD hS => ?_)
    replace hP : va_P X.1 vwCl (w_Outline X h0 a0_0 a0_1 (Outline_u_closed o0 s0)) H := hP
    replace hD : va_D _ (w_Outline X h0 a0_0 a0_1 (Outline_u_closed o0 s0)) := hD
    refine lv_aload_n hx hb d_Outline_takeCorner_73 rfl (lv_at hl 0 rfl) ?_
    refine va_get (D := X.1) (ci := 3) (v := .int (Outline_closed (Outline_u_closed o0 s0))) (C := "MaskEdges$Outline") (T := F_Outline) (N := 4) hx hb ht in_Outline hown hK hP 0 rfl rfl 3 (by decide) (ht _ xw_110) (fun _ h9 => h9) rfl d_Outline_takeCorner_74 ?_
    obtain ⟨zr, hf⟩ := x_g hf
    replace hf := x_s hf
    subst hf
    subst hQ
    exact W.zret (v := (Outline_closed (Outline_u_closed o0 s0))) hx hb hr (xz_n zr) (fun t ht hW => ⟨⟨rfl, by rw [ht]; exact hP⟩, hS.F ht⟩) hS.2.2 d_Outline_takeCorner_77
  unfold f_Outline_takeCorner at hf
  refine lv_aload_n hx hb d_Outline_takeCorner_0 rfl (lv_at hl 0 rfl) ?_
  refine va_get (D := X.1) (ci := 3) (v := .int (Outline_closed o0)) (C := "MaskEdges$Outline") (T := F_Outline) (N := 4) hx hb ht in_Outline hown hK hP 0 rfl rfl 3 (by decide) (ht _ xw_110) (fun _ h9 => h9) rfl d_Outline_takeCorner_1 ?_
  refine lv_if_ne (tgt := 16) hx hb d_Outline_takeCorner_4 (by decide) (fun hc => ?_) (fun hc => ?_)
  · replace hf := x_f hc hf
    refine lv_iconst (v := (0 : Int32)) hx hb d_Outline_takeCorner_16 (by decide) ?_
    replace hf := x_s hf
    subst hf
    subst hQ
    exact W.zret (v := (0 : Int32)) hx hb hr (xz_n (by decide)) (fun t ht hW => ⟨⟨rfl, by rw [ht]; exact hP⟩, hS.F ht⟩) hS.2.2 d_Outline_takeCorner_17
  · replace hf := x_t hc hf
    refine lv_aload_n hx hb d_Outline_takeCorner_7 rfl (lv_at hl 0 rfl) ?_
    refine lv_iload_n hx hb d_Outline_takeCorner_8 rfl (lv_at hl 1 rfl) ?_
    refine lv_iload_n hx hb d_Outline_takeCorner_9 rfl (lv_at hl 2 rfl) ?_
    obtain ⟨c10, e10, hf⟩ := x_b hf
    refine xcR (va_runV (As := [.int v1, .int v2]) (rest := []) ⟨hx, hb, hml, hown, ht⟩ (c_Outline_maySideGoTo l X h0 a0_0 a0_1 o0 v1 v2 hP e10) (cwV 2 ht (xgV xw_196 xw_197 xw_0 xw_41 xw_198) rfl rfl rfl (by decide +kernel) ⟨Nat.le_of_ble_eq_true rfl, Nat.le_of_ble_eq_true rfl⟩) (xPV hKK (va_recv hK hP (ci := 3) (q0 := 0) rfl rfl)) rfl rfl hl.1 rfl (lv_room (Nat.le_of_ble_eq_true rfl)) d_Outline_takeCorner_10 ⟨Nat.zero_le _, Nat.zero_le _⟩) ?_
    refine W.eq (g2 := F0 m 13 ls [.int c10]) rfl ?_
    refine lv_if_ne (tgt := 18) hx hb d_Outline_takeCorner_13 (by decide) (fun hc => ?_) (fun hc => ?_)
    · replace hf := x_f hc hf
      refine lv_aload_n hx hb d_Outline_takeCorner_18 rfl (lv_at hl 0 rfl) ?_
      refine va_get (D := X.1) (ci := 3) (v := .int (Outline_corners o0)) (C := "MaskEdges$Outline") (T := F_Outline) (N := 4) hx hb ht in_Outline hown hK hP 0 rfl rfl 2 (by decide) (ht _ xw_108) (fun _ h9 => h9) rfl d_Outline_takeCorner_19 ?_
      refine lv_iconst (v := (4 : Int32)) hx hb d_Outline_takeCorner_22 (by decide) ?_
      refine lv_icmp_lt (tgt := 78) hx hb d_Outline_takeCorner_23 (by decide) (fun hc => ?_) (fun hc => ?_)
      · replace hf := x_t hc hf
        exact hL78 v1 v2 o0 _ _ hP hS ls (lv_sub hl [0, 1, 2] rfl) hf
      · replace hf := x_f hc hf
        refine lv_iload_n hx hb d_Outline_takeCorner_26 rfl (lv_at hl 1 rfl) ?_
        refine lv_aload_n hx hb d_Outline_takeCorner_27 rfl (lv_at hl 0 rfl) ?_
        refine va_get (D := X.1) (ci := 3) (v := .ref a0_0) (C := "MaskEdges$Outline") (T := F_Outline) (N := 4) hx hb ht in_Outline hown hK hP 0 rfl rfl 0 (by decide) (ht _ xw_104) (fun _ h9 => h9) rfl d_Outline_takeCorner_28 ?_
        refine lv_iconst (v := (0 : Int32)) hx hb d_Outline_takeCorner_31 (by decide) ?_
        obtain ⟨g32, hf⟩ := x_g hf
        refine va_iald hx hb hK hP 1 0 rfl rfl (xin_in g32) d_Outline_takeCorner_32 ?_
        refine lv_icmp_ne (tgt := 78) hx hb d_Outline_takeCorner_33 (by decide) (fun hc => ?_) (fun hc => ?_)
        · replace hf := x_f hc hf
          exact hL78 v1 v2 o0 _ _ hP hS ls (lv_sub hl [0, 1, 2] rfl) hf
        · replace hf := x_t hc hf
          refine lv_iload_n hx hb d_Outline_takeCorner_36 rfl (lv_at hl 2 rfl) ?_
          refine lv_aload_n hx hb d_Outline_takeCorner_37 rfl (lv_at hl 0 rfl) ?_
          refine va_get (D := X.1) (ci := 3) (v := .ref a0_1) (C := "MaskEdges$Outline") (T := F_Outline) (N := 4) hx hb ht in_Outline hown hK hP 0 rfl rfl 1 (by decide) (ht _ xw_106) (fun _ h9 => h9) rfl d_Outline_takeCorner_38 ?_
          refine lv_iconst (v := (0 : Int32)) hx hb d_Outline_takeCorner_41 (by decide) ?_
          obtain ⟨g42, hf⟩ := x_g hf
          refine va_iald hx hb hK hP 2 0 rfl rfl (xin_in g42) d_Outline_takeCorner_42 ?_
          refine lv_icmp_ne (tgt := 78) hx hb d_Outline_takeCorner_43 (by decide) (fun hc => ?_) (fun hc => ?_)
          · replace hf := x_f hc hf
            exact hL78 v1 v2 o0 _ _ hP hS ls (lv_sub hl [0, 1, 2] rfl) hf
          · replace hf := x_t hc hf
            refine lv_aload_n hx hb d_Outline_takeCorner_46 rfl (lv_at hl 0 rfl) ?_
            refine lv_aload_n hx hb d_Outline_takeCorner_47 rfl (lv_at hl 0 rfl) ?_
            refine lv_aload_n hx hb d_Outline_takeCorner_48 rfl (lv_at hl 0 rfl) ?_
            refine va_get (D := X.1) (ci := 3) (v := .int (Outline_corners o0)) (C := "MaskEdges$Outline") (T := F_Outline) (N := 4) hx hb ht in_Outline hown hK hP 0 rfl rfl 2 (by decide) (ht _ xw_108) (fun _ h9 => h9) rfl d_Outline_takeCorner_49 ?_
            refine lv_iconst (v := (1 : Int32)) hx hb d_Outline_takeCorner_52 (by decide) ?_
            refine lv_isub hx hb d_Outline_takeCorner_53 ?_
            obtain ⟨c54, e54, hf⟩ := x_b hf
            refine xcR (va_runV (As := [.int ((Outline_corners o0) - (1 : Int32))]) (rest := [.ref h0]) ⟨hx, hb, hml, hown, ht⟩ (c_Outline_isAlongX l X h0 a0_0 a0_1 o0 ((Outline_corners o0) - (1 : Int32)) hP e54) (cwV 1 ht (xgV xw_199 xw_200 xw_201 xw_41 xw_202) rfl rfl rfl (by decide +kernel) ⟨Nat.le_of_ble_eq_true rfl, Nat.le_of_ble_eq_true rfl⟩) (xPV hKK (va_recv hK hP (ci := 3) (q0 := 0) rfl rfl)) rfl rfl hl.1 rfl (lv_room (Nat.le_of_ble_eq_true rfl)) d_Outline_takeCorner_54 ⟨Nat.zero_le _, Nat.zero_le _⟩) ?_
            refine W.eq (g2 := F0 m 57 ls [.int c54, .ref h0]) rfl ?_
            refine lv_aload_n hx hb d_Outline_takeCorner_57 rfl (lv_at hl 0 rfl) ?_
            refine lv_iconst (v := (0 : Int32)) hx hb d_Outline_takeCorner_58 (by decide) ?_
            obtain ⟨c59, e59, hf⟩ := x_b hf
            refine xcR (va_runV (As := [.int (0 : Int32)]) (rest := [.int c54, .ref h0]) ⟨hx, hb, hml, hown, ht⟩ (c_Outline_isAlongX l X h0 a0_0 a0_1 o0 (0 : Int32) hP e59) (cwV 1 ht (xgV xw_199 xw_200 xw_201 xw_41 xw_202) rfl rfl rfl (by decide +kernel) ⟨Nat.le_of_ble_eq_true rfl, Nat.le_of_ble_eq_true rfl⟩) (xPV hKK (va_recv hK hP (ci := 3) (q0 := 0) rfl rfl)) rfl rfl hl.1 rfl (lv_room (Nat.le_of_ble_eq_true rfl)) d_Outline_takeCorner_59 ⟨Nat.zero_le _, Nat.zero_le _⟩) ?_
            refine W.eq (g2 := F0 m 62 ls [.int c59, .int c54, .ref h0]) rfl ?_
            refine lv_icmp_eq (tgt := 69) hx hb d_Outline_takeCorner_62 (by decide) (fun hc => ?_) (fun hc => ?_)
            · replace hf := x_t hc hf
              refine lv_iconst (v := (0 : Int32)) hx hb d_Outline_takeCorner_69 (by decide) ?_
              exact hL70 (0 : Int32) o0 _ _ hP hS ls (lv_sub hl [0] rfl) hf
            · replace hf := x_f hc hf
              refine lv_iconst (v := (1 : Int32)) hx hb d_Outline_takeCorner_65 (by decide) ?_
              refine lv_goto (tgt := 70) hx hb d_Outline_takeCorner_66 (by decide) ?_
              exact hL70 (1 : Int32) o0 _ _ hP hS ls (lv_sub hl [0] rfl) hf
    · replace hf := x_t hc hf
      refine lv_iconst (v := (0 : Int32)) hx hb d_Outline_takeCorner_16 (by decide) ?_
      replace hf := x_s hf
      subst hf
      subst hQ
      exact W.zret (v := (0 : Int32)) hx hb hr (xz_n (by decide)) (fun t ht hW => ⟨⟨rfl, by rw [ht]; exact hP⟩, hS.F ht⟩) hS.2.2 d_Outline_takeCorner_17
def f_Outline_sideStart (o0 : t_Outline) (v1 : Int32) : Option (Int32) :=
  (f_Outline_isAlongX o0 v1).bind fun c2 =>
  if c2 = 0 then
  if xin v1 16 = true then
    some (Outline_ys o0 v1.toNatClampNeg)
  else none
else
  if xin v1 16 = true then
    some (Outline_xs o0 v1.toNatClampNeg)
  else none
set_option maxHeartbeats 4000000 in
set_option maxRecDepth 100000 in
theorem c_Outline_sideStart (l : Launch) (X : xG) {H : Heap} (h0 a0_0 a0_1 : Nat) (o0 : t_Outline) (v1 : Int32) {res : Int32} (hP0 : va_P X.1 vwCl (w_Outline X h0 a0_0 a0_1 o0) H) (hf : f_Outline_sideStart o0 v1 = some res) : xM l y_Outline_sideStart (Cond.code y_Outline_sideStart prog_5_method_6_code 2 (some .int) :: xT) ({ frames := 2, cells := 0, slots := 0, locals := 42 } : Room) (xK X) [.ref h0, .int v1] H xNo (some (.int res)) (fun H1 => H1 = H) := by
  refine Met.ofW (cc := prog_5_method_6_code) (maxL := 2) (ret := (some .int)) (by decide) rfl ?_
  intro p e s m args below meth c s₁ B hml hv
  obtain ⟨ha, hH, hKK⟩ := hv
  subst hH
  have hx := B.exec
  have hb := B.bytes
  have hr := B.returns
  have ht : ∀ w ∈ xT, w.before args s = true := fun w h => atoms_spec (ws := (Cond.code y_Outline_sideStart prog_5_method_6_code 2 (some .int) :: xT)) B.pre w (List.mem_cons_of_mem _ h)
  have hown : s.vm.findClass "MaskEdges$Outline" = some m.cls := findClass_of_methodNamed B.named
  have hlocks := B.notSynchronized
  have hK := hKK.1
  rw [show entryFrame m args 2 = entryFrame m ([.ref h0, .int v1] : List Value).toArray 2 from by rw [ha]]
  clear ha
  have hl := lv_entry ([.ref h0, .int v1]) (n := 2) (Nat.le_of_ble_eq_true rfl)
  rw [lg_entry_eq]
  generalize (lg_sl ([.ref h0, .int v1]) ++ List.replicate (2 - (lg_sl ([.ref h0, .int v1])).length) Slot.unset).toArray = ls at hl ⊢
  replace hl : lv_has ls 2 [(0, .ref h0), (1, .int v1)] := hl
  refine x_Q (fun Q hQ => ?_)
  unfold f_Outline_sideStart at hf
  refine lv_aload_n hx hb d_Outline_sideStart_0 rfl (lv_at hl 0 rfl) ?_
  refine lv_iload_n hx hb d_Outline_sideStart_1 rfl (lv_at hl 1 rfl) ?_
  obtain ⟨c2, e2, hf⟩ := x_b hf
  refine xcR (va_runV (As := [.int v1]) (rest := []) ⟨hx, hb, hml, hown, ht⟩ (c_Outline_isAlongX l X h0 a0_0 a0_1 o0 v1 hP0 e2) (cwV 1 ht (xgV xw_199 xw_200 xw_201 xw_41 xw_202) rfl rfl rfl (by decide +kernel) ⟨Nat.le_of_ble_eq_true rfl, Nat.le_of_ble_eq_true rfl⟩) (xPV hKK (va_recv hK hP0 (ci := 3) (q0 := 0) rfl rfl)) rfl rfl hl.1 rfl (lv_room (Nat.le_of_ble_eq_true rfl)) d_Outline_sideStart_2 ⟨Nat.zero_le _, Nat.zero_le _⟩) ?_
  refine W.eq (g2 := F0 m 5 ls [.int c2]) rfl ?_
  refine lv_if_eq (tgt := 17) hx hb d_Outline_sideStart_5 (by decide) (fun hc => ?_) (fun hc => ?_)
  · replace hf := x_t hc hf
    refine lv_aload_n hx hb d_Outline_sideStart_17 rfl (lv_at hl 0 rfl) ?_
    refine va_get (D := X.1) (ci := 3) (v := .ref a0_1) (C := "MaskEdges$Outline") (T := F_Outline) (N := 4) hx hb ht in_Outline hown hK hP0 0 rfl rfl 1 (by decide) (ht _ xw_106) (fun _ h9 => h9) rfl d_Outline_sideStart_18 ?_
    refine lv_iload_n hx hb d_Outline_sideStart_21 rfl (lv_at hl 1 rfl) ?_
    obtain ⟨g22, hf⟩ := x_g hf
    refine va_iald hx hb hK hP0 2 0 rfl rfl (xin_in g22) d_Outline_sideStart_22 ?_
    replace hf := x_s hf
    subst hf
    subst hQ
    exact W.iret (v := (Outline_ys o0 v1.toNatClampNeg)) hx hb hr (fun t ht hW => ⟨⟨rfl, ht⟩, x_F0 ht⟩) x_l0 d_Outline_sideStart_23
  · replace hf := x_f hc hf
    refine lv_aload_n hx hb d_Outline_sideStart_8 rfl (lv_at hl 0 rfl) ?_
    refine va_get (D := X.1) (ci := 3) (v := .ref a0_0) (C := "MaskEdges$Outline") (T := F_Outline) (N := 4) hx hb ht in_Outline hown hK hP0 0 rfl rfl 0 (by decide) (ht _ xw_104) (fun _ h9 => h9) rfl d_Outline_sideStart_9 ?_
    refine lv_iload_n hx hb d_Outline_sideStart_12 rfl (lv_at hl 1 rfl) ?_
    obtain ⟨g13, hf⟩ := x_g hf
    refine va_iald hx hb hK hP0 1 0 rfl rfl (xin_in g13) d_Outline_sideStart_13 ?_
    refine lv_goto (tgt := 23) hx hb d_Outline_sideStart_14 (by decide) ?_
    replace hf := x_s hf
    subst hf
    subst hQ
    exact W.iret (v := (Outline_xs o0 v1.toNatClampNeg)) hx hb hr (fun t ht hW => ⟨⟨rfl, ht⟩, x_F0 ht⟩) x_l0 d_Outline_sideStart_23
def f_Outline_sideEnd (o0 : t_Outline) (v1 : Int32) : Option (Int32) :=
  (f_Outline_nextCorner o0 v1).bind fun c2 =>
  (f_Outline_isAlongX o0 v1).bind fun c8 =>
  if c8 = 0 then
  if xin c2 16 = true then
    some (Outline_ys o0 c2.toNatClampNeg)
  else none
else
  if xin c2 16 = true then
    some (Outline_xs o0 c2.toNatClampNeg)
  else none
set_option maxHeartbeats 4000000 in
set_option maxRecDepth 100000 in
theorem c_Outline_sideEnd (l : Launch) (X : xG) {H : Heap} (h0 a0_0 a0_1 : Nat) (o0 : t_Outline) (v1 : Int32) {res : Int32} (hP0 : va_P X.1 vwCl (w_Outline X h0 a0_0 a0_1 o0) H) (hf : f_Outline_sideEnd o0 v1 = some res) : xM l y_Outline_sideEnd (Cond.code y_Outline_sideEnd prog_5_method_7_code 3 (some .int) :: xT) ({ frames := 2, cells := 0, slots := 0, locals := 42 } : Room) (xK X) [.ref h0, .int v1] H xNo (some (.int res)) (fun H1 => H1 = H) := by
  refine Met.ofW (cc := prog_5_method_7_code) (maxL := 3) (ret := (some .int)) (by decide) rfl ?_
  intro p e s m args below meth c s₁ B hml hv
  obtain ⟨ha, hH, hKK⟩ := hv
  subst hH
  have hx := B.exec
  have hb := B.bytes
  have hr := B.returns
  have ht : ∀ w ∈ xT, w.before args s = true := fun w h => atoms_spec (ws := (Cond.code y_Outline_sideEnd prog_5_method_7_code 3 (some .int) :: xT)) B.pre w (List.mem_cons_of_mem _ h)
  have hown : s.vm.findClass "MaskEdges$Outline" = some m.cls := findClass_of_methodNamed B.named
  have hlocks := B.notSynchronized
  have hK := hKK.1
  rw [show entryFrame m args 3 = entryFrame m ([.ref h0, .int v1] : List Value).toArray 3 from by rw [ha]]
  clear ha
  have hl := lv_entry ([.ref h0, .int v1]) (n := 3) (Nat.le_of_ble_eq_true rfl)
  rw [lg_entry_eq]
  generalize (lg_sl ([.ref h0, .int v1]) ++ List.replicate (3 - (lg_sl ([.ref h0, .int v1])).length) Slot.unset).toArray = ls at hl ⊢
  replace hl : lv_has ls 3 [(0, .ref h0), (1, .int v1)] := hl
  refine x_Q (fun Q hQ => ?_)
  unfold f_Outline_sideEnd at hf
  refine lv_aload_n hx hb d_Outline_sideEnd_0 rfl (lv_at hl 0 rfl) ?_
  refine lv_iload_n hx hb d_Outline_sideEnd_1 rfl (lv_at hl 1 rfl) ?_
  obtain ⟨c2, e2, hf⟩ := x_b hf
  refine xcR (va_runV (As := [.int v1]) (rest := []) ⟨hx, hb, hml, hown, ht⟩ (c_Outline_nextCorner l X h0 a0_0 a0_1 o0 v1 hP0 e2) (cwV 1 ht (xgV xw_203 xw_204 xw_205 xw_41 xw_206) rfl rfl rfl (by decide +kernel) ⟨Nat.le_of_ble_eq_true rfl, Nat.le_of_ble_eq_true rfl⟩) (xPV hKK (va_recv hK hP0 (ci := 3) (q0 := 0) rfl rfl)) rfl rfl hl.1 rfl (lv_room (Nat.le_of_ble_eq_true rfl)) d_Outline_sideEnd_2 ⟨Nat.zero_le _, Nat.zero_le _⟩) ?_
  refine W.eq (g2 := F0 m 5 ls [.int c2]) rfl ?_
  refine lv_istore_n (lv' := [(2, .int c2), (0, .ref h0), (1, .int v1)]) hx hb d_Outline_sideEnd_5 rfl hl (by decide) rfl (fun ls hl => ?_)
  refine lv_aload_n hx hb d_Outline_sideEnd_6 rfl (lv_at hl 1 rfl) ?_
  refine lv_iload_n hx hb d_Outline_sideEnd_7 rfl (lv_at hl 2 rfl) ?_
  obtain ⟨c8, e8, hf⟩ := x_b hf
  refine xcR (va_runV (As := [.int v1]) (rest := []) ⟨hx, hb, hml, hown, ht⟩ (c_Outline_isAlongX l X h0 a0_0 a0_1 o0 v1 hP0 e8) (cwV 1 ht (xgV xw_199 xw_200 xw_201 xw_41 xw_202) rfl rfl rfl (by decide +kernel) ⟨Nat.le_of_ble_eq_true rfl, Nat.le_of_ble_eq_true rfl⟩) (xPV hKK (va_recv hK hP0 (ci := 3) (q0 := 0) rfl rfl)) rfl rfl hl.1 rfl (lv_room (Nat.le_of_ble_eq_true rfl)) d_Outline_sideEnd_8 ⟨Nat.zero_le _, Nat.zero_le _⟩) ?_
  refine W.eq (g2 := F0 m 11 ls [.int c8]) rfl ?_
  refine lv_if_eq (tgt := 23) hx hb d_Outline_sideEnd_11 (by decide) (fun hc => ?_) (fun hc => ?_)
  · replace hf := x_t hc hf
    refine lv_aload_n hx hb d_Outline_sideEnd_23 rfl (lv_at hl 1 rfl) ?_
    refine va_get (D := X.1) (ci := 3) (v := .ref a0_1) (C := "MaskEdges$Outline") (T := F_Outline) (N := 4) hx hb ht in_Outline hown hK hP0 0 rfl rfl 1 (by decide) (ht _ xw_106) (fun _ h9 => h9) rfl d_Outline_sideEnd_24 ?_
    refine lv_iload_n hx hb d_Outline_sideEnd_27 rfl (lv_at hl 0 rfl) ?_
    obtain ⟨g28, hf⟩ := x_g hf
    refine va_iald hx hb hK hP0 2 0 rfl rfl (xin_in g28) d_Outline_sideEnd_28 ?_
    replace hf := x_s hf
    subst hf
    subst hQ
    exact W.iret (v := (Outline_ys o0 c2.toNatClampNeg)) hx hb hr (fun t ht hW => ⟨⟨rfl, ht⟩, x_F0 ht⟩) x_l0 d_Outline_sideEnd_29
  · replace hf := x_f hc hf
    refine lv_aload_n hx hb d_Outline_sideEnd_14 rfl (lv_at hl 1 rfl) ?_
    refine va_get (D := X.1) (ci := 3) (v := .ref a0_0) (C := "MaskEdges$Outline") (T := F_Outline) (N := 4) hx hb ht in_Outline hown hK hP0 0 rfl rfl 0 (by decide) (ht _ xw_104) (fun _ h9 => h9) rfl d_Outline_sideEnd_15 ?_
    refine lv_iload_n hx hb d_Outline_sideEnd_18 rfl (lv_at hl 0 rfl) ?_
    obtain ⟨g19, hf⟩ := x_g hf
    refine va_iald hx hb hK hP0 1 0 rfl rfl (xin_in g19) d_Outline_sideEnd_19 ?_
    refine lv_goto (tgt := 29) hx hb d_Outline_sideEnd_20 (by decide) ?_
    replace hf := x_s hf
    subst hf
    subst hQ
    exact W.iret (v := (Outline_xs o0 c2.toNatClampNeg)) hx hb hr (fun t ht hW => ⟨⟨rfl, ht⟩, x_F0 ht⟩) x_l0 d_Outline_sideEnd_29
def f_Outline_partsOf (o0 : t_Outline) (v1 : Int32) (v2 : Int32) : Option (Int32) :=
  if (1 : Int32) ≤ v2 then
  (f_Outline_sideEnd o0 v1).bind fun c9 =>
    (f_Outline_sideStart o0 v1).bind fun c14 =>
    if v2 = 0 then none else
    some ((((if 0 ≤ (c9 - c14) then (c9 - c14) else 0 - (c9 - c14)) + v2) - (1 : Int32)) / v2)
else
  some (0 : Int32)
set_option maxHeartbeats 4000000 in
set_option maxRecDepth 100000 in
theorem c_Outline_partsOf (l : Launch) (X : xG) {H : Heap} (h0 a0_0 a0_1 : Nat) (o0 : t_Outline) (v1 : Int32) (v2 : Int32) {res : Int32} (hP0 : va_P X.1 vwCl (w_Outline X h0 a0_0 a0_1 o0) H) (hf : f_Outline_partsOf o0 v1 v2 = some res) : xM l y_Outline_partsOf (Cond.code y_Outline_partsOf prog_5_method_8_code 4 (some .int) :: xT) ({ frames := 3, cells := 0, slots := 0, locals := 64 } : Room) (xK X) [.ref h0, .int v1, .int v2] H xNo (some (.int res)) (fun H1 => H1 = H) := by
  refine Met.ofW (cc := prog_5_method_8_code) (maxL := 4) (ret := (some .int)) (by decide) rfl ?_
  intro p e s m args below meth c s₁ B hml hv
  obtain ⟨ha, hH, hKK⟩ := hv
  subst hH
  have hx := B.exec
  have hb := B.bytes
  have hr := B.returns
  have ht : ∀ w ∈ xT, w.before args s = true := fun w h => atoms_spec (ws := (Cond.code y_Outline_partsOf prog_5_method_8_code 4 (some .int) :: xT)) B.pre w (List.mem_cons_of_mem _ h)
  have hown : s.vm.findClass "MaskEdges$Outline" = some m.cls := findClass_of_methodNamed B.named
  have hlocks := B.notSynchronized
  have hK := hKK.1
  rw [show entryFrame m args 4 = entryFrame m ([.ref h0, .int v1, .int v2] : List Value).toArray 4 from by rw [ha]]
  clear ha
  have hl := lv_entry ([.ref h0, .int v1, .int v2]) (n := 4) (Nat.le_of_ble_eq_true rfl)
  rw [lg_entry_eq]
  generalize (lg_sl ([.ref h0, .int v1, .int v2]) ++ List.replicate (4 - (lg_sl ([.ref h0, .int v1, .int v2])).length) Slot.unset).toArray = ls at hl ⊢
  replace hl : lv_has ls 4 [(0, .ref h0), (1, .int v1), (2, .int v2)] := hl
  refine x_Q (fun Q hQ => ?_)
  unfold f_Outline_partsOf at hf
  refine lv_iload_n hx hb d_Outline_partsOf_0 rfl (lv_at hl 2 rfl) ?_
  refine lv_iconst (v := (1 : Int32)) hx hb d_Outline_partsOf_1 (by decide) ?_
  refine lv_icmp_ge (tgt := 7) hx hb d_Outline_partsOf_2 (by decide) (fun hc => ?_) (fun hc => ?_)
  · replace hf := x_t hc hf
    refine lv_aload_n hx hb d_Outline_partsOf_7 rfl (lv_at hl 0 rfl) ?_
    refine lv_iload_n hx hb d_Outline_partsOf_8 rfl (lv_at hl 1 rfl) ?_
    obtain ⟨c9, e9, hf⟩ := x_b hf
    refine xcR (va_runV (As := [.int v1]) (rest := []) ⟨hx, hb, hml, hown, ht⟩ (c_Outline_sideEnd l X h0 a0_0 a0_1 o0 v1 hP0 e9) (cwV 1 ht (xgV xw_281 xw_282 xw_283 xw_41 xw_284) rfl rfl rfl (by decide +kernel) ⟨Nat.le_of_ble_eq_true rfl, Nat.le_of_ble_eq_true rfl⟩) (xPV hKK (va_recv hK hP0 (ci := 3) (q0 := 0) rfl rfl)) rfl rfl hl.1 rfl (lv_room (Nat.le_of_ble_eq_true rfl)) d_Outline_partsOf_9 ⟨Nat.zero_le _, Nat.zero_le _⟩) ?_
    refine W.eq (g2 := F0 m 12 ls [.int c9]) rfl ?_
    refine lv_aload_n hx hb d_Outline_partsOf_12 rfl (lv_at hl 0 rfl) ?_
    refine lv_iload_n hx hb d_Outline_partsOf_13 rfl (lv_at hl 1 rfl) ?_
    obtain ⟨c14, e14, hf⟩ := x_b hf
    refine xcR (va_runV (As := [.int v1]) (rest := [.int c9]) ⟨hx, hb, hml, hown, ht⟩ (c_Outline_sideStart l X h0 a0_0 a0_1 o0 v1 hP0 e14) (cwV 1 ht (xgV xw_285 xw_286 xw_287 xw_41 xw_288) rfl rfl rfl (by decide +kernel) ⟨Nat.le_of_ble_eq_true rfl, Nat.le_of_ble_eq_true rfl⟩) (xPV hKK (va_recv hK hP0 (ci := 3) (q0 := 0) rfl rfl)) rfl rfl hl.1 rfl (lv_room (Nat.le_of_ble_eq_true rfl)) d_Outline_partsOf_14 ⟨Nat.zero_le _, Nat.zero_le _⟩) ?_
    refine W.eq (g2 := F0 m 17 ls [.int c14, .int c9]) rfl ?_
    refine lv_isub hx hb d_Outline_partsOf_17 ?_
    refine va_mabs hx hb (hml.trans hl.1.symm) hown (ht _ xw_289) (ht _ xw_290) (ht _ xw_44) (ht _ xw_math_abs) (Nat.le_of_ble_eq_true rfl) (Nat.le_of_ble_eq_true rfl) (Nat.zero_le _) (Nat.zero_le _) d_Outline_partsOf_18 ?_
    refine lv_istore_n (lv' := [(3, .int (if 0 ≤ (c9 - c14) then (c9 - c14) else 0 - (c9 - c14))), (0, .ref h0), (1, .int v1), (2, .int v2)]) hx hb d_Outline_partsOf_21 rfl hl (by decide) rfl (fun ls hl => ?_)
    refine lv_iload_n hx hb d_Outline_partsOf_22 rfl (lv_at hl 0 rfl) ?_
    refine lv_iload_n hx hb d_Outline_partsOf_23 rfl (lv_at hl 3 rfl) ?_
    refine lv_iadd hx hb d_Outline_partsOf_24 ?_
    refine lv_iconst (v := (1 : Int32)) hx hb d_Outline_partsOf_25 (by decide) ?_
    refine lv_isub hx hb d_Outline_partsOf_26 ?_
    refine lv_iload_n hx hb d_Outline_partsOf_27 rfl (lv_at hl 3 rfl) ?_
    obtain ⟨z28, hf⟩ := x_n hf
    refine lv_idiv hx hb d_Outline_partsOf_28 z28 ?_
    replace hf := x_s hf
    subst hf
    subst hQ
    exact W.iret (v := ((((if 0 ≤ (c9 - c14) then (c9 - c14) else 0 - (c9 - c14)) + v2) - (1 : Int32)) / v2)) hx hb hr (fun t ht hW => ⟨⟨rfl, ht⟩, x_F0 ht⟩) x_l0 d_Outline_partsOf_29
  · replace hf := x_f hc hf
    refine lv_iconst (v := (0 : Int32)) hx hb d_Outline_partsOf_5 (by decide) ?_
    replace hf := x_s hf
    subst hf
    subst hQ
    exact W.iret (v := (0 : Int32)) hx hb hr (fun t ht hW => ⟨⟨rfl, ht⟩, x_F0 ht⟩) x_l0 d_Outline_partsOf_6
def f_Outline_holds_79 (o0 : t_Outline) (r5 : Int32 → Int32 → Int32 → Int32 → Option (Int32)) (v1 : Int32) (v2 : Int32) (v3 : Int32) (v4 : Int32) : Option (Int32) :=
  r5 v1 v2 v3 (v4 + (1 : Int32))
def f_Outline_holds_78 (o0 : t_Outline) (r5 : Int32 → Int32 → Int32 → Int32 → Option (Int32)) (v1 : Int32) (v2 : Int32) (v4 : Int32) (s0 : Int32) : Option (Int32) :=
  (f_Outline_holds_79 o0 r5) v1 v2 s0 v4
def f_Outline_holds_5 (o0 : t_Outline) (r5 : Int32 → Int32 → Int32 → Int32 → Option (Int32)) (k85 : Int32 → Option (Int32)) (v1 : Int32) (v2 : Int32) (v3 : Int32) (v4 : Int32) : Option (Int32) :=
  if (Outline_corners o0) ≤ v4 then
  k85 v3
else
  if xin v4 16 = true then
    (f_Outline_nextCorner o0 v4).bind fun c30 =>
      if xin c30 16 = true then
      if xin v4 16 = true then
        if v1 < (Outline_xs o0 v4.toNatClampNeg) then
          (f_Outline_holds_79 o0 r5) v1 v2 v3 v4
        else
          if v2 < (if (Outline_ys o0 c30.toNatClampNeg) < (Outline_ys o0 v4.toNatClampNeg) then (Outline_ys o0 c30.toNatClampNeg) else (Outline_ys o0 v4.toNatClampNeg)) then
            (f_Outline_holds_79 o0 r5) v1 v2 v3 v4
          else
            if (if (Outline_ys o0 v4.toNatClampNeg) < (Outline_ys o0 c30.toNatClampNeg) then (Outline_ys o0 c30.toNatClampNeg) else (Outline_ys o0 v4.toNatClampNeg)) ≤ v2 then
              (f_Outline_holds_79 o0 r5) v1 v2 v3 v4
            else
              if v3 = 0 then
                (f_Outline_holds_78 o0 r5) v1 v2 v4 (1 : Int32)
              else
                (f_Outline_holds_78 o0 r5) v1 v2 v4 (0 : Int32)
      else none
    else none
  else none
def f_Outline_holds_85 (o0 : t_Outline) (v3 : Int32) : Option (Int32) :=
  if (Outline_closed o0) = 0 then
  some (0 : Int32)
else
  if v3 = 0 then
    some (0 : Int32)
  else
    some (1 : Int32)
def f_Outline_holds (o0 : t_Outline) (v1 : Int32) (v2 : Int32) : Option (Int32) :=
  (xloop (fun r => f_Outline_holds_5 o0 r (f_Outline_holds_85 o0)) (fun _ _ _ _ => none) 100000) v1 v2 (0 : Int32) (0 : Int32)
set_option maxHeartbeats 4000000 in
set_option maxRecDepth 100000 in
theorem c_Outline_holds (l : Launch) (X : xG) {H : Heap} (h0 a0_0 a0_1 : Nat) (o0 : t_Outline) (v1 : Int32) (v2 : Int32) {res : Int32} (hP0 : va_P X.1 vwCl (w_Outline X h0 a0_0 a0_1 o0) H) (hf : f_Outline_holds o0 v1 v2 = some res) : xM l y_Outline_holds (Cond.code y_Outline_holds prog_5_method_9_code 7 (some .boolean) :: xT) ({ frames := 1, cells := 0, slots := 0, locals := 21 } : Room) (xK X) [.ref h0, .int v1, .int v2] H xNo (some (.int res)) (fun H1 => H1 = H) := by
  refine Met.ofW (cc := prog_5_method_9_code) (maxL := 7) (ret := (some .boolean)) (by decide) rfl ?_
  intro p e s m args below meth c s₁ B hml hv
  obtain ⟨ha, hH, hKK⟩ := hv
  subst hH
  have hx := B.exec
  have hb := B.bytes
  have hr := B.returns
  have ht : ∀ w ∈ xT, w.before args s = true := fun w h => atoms_spec (ws := (Cond.code y_Outline_holds prog_5_method_9_code 7 (some .boolean) :: xT)) B.pre w (List.mem_cons_of_mem _ h)
  have hown : s.vm.findClass "MaskEdges$Outline" = some m.cls := findClass_of_methodNamed B.named
  have hlocks := B.notSynchronized
  have hK := hKK.1
  rw [show entryFrame m args 7 = entryFrame m ([.ref h0, .int v1, .int v2] : List Value).toArray 7 from by rw [ha]]
  clear ha
  have hl := lv_entry ([.ref h0, .int v1, .int v2]) (n := 7) (Nat.le_of_ble_eq_true rfl)
  rw [lg_entry_eq]
  generalize (lg_sl ([.ref h0, .int v1, .int v2]) ++ List.replicate (7 - (lg_sl ([.ref h0, .int v1, .int v2])).length) Slot.unset).toArray = ls at hl ⊢
  replace hl : lv_has ls 7 [(0, .ref h0), (1, .int v1), (2, .int v2)] := hl
  refine x_Q (fun Q hQ => ?_)
  have hL79 : ∀ (r5 : Int32 → Int32 → Int32 → Int32 → Option (Int32)) (hr5 : ∀ (v1 : Int32) (v2 : Int32) (v3 : Int32) (v4 : Int32), ∀ (ls : Array Slot), lv_has ls 7 [(0, .ref h0), (1, .int v1), (2, .int v2), (3, .int v3), (4, .int v4)] → r5 v1 v2 v3 v4 = some res → W p l e (headSpec (Cond.code y_Outline_holds prog_5_method_9_code 7 (some .boolean) :: xT) ({ frames := 1, cells := 0, slots := 0, locals := 21 } : Room)).room s m args below meth c s.heap [] 0 0 Q (F0 m 5 ls [])), ∀ (v1 : Int32) (v2 : Int32) (v3 : Int32) (v4 : Int32), ∀ (ls : Array Slot), lv_has ls 7 [(0, .ref h0), (1, .int v1), (2, .int v2), (3, .int v3), (4, .int v4)] → f_Outline_holds_79 o0 r5 v1 v2 v3 v4 = some res → W p l e (headSpec (Cond.code y_Outline_holds prog_5_method_9_code 7 (some .boolean) :: xT) ({ frames := 1, cells := 0, slots := 0, locals := 21 } : Room)).room s m args below meth c s.heap [] 0 0 Q (F0 m 79 ls []) := by
    intro r5 hr5 v1 v2 v3 v4 ls hl hf
    unfold f_Outline_holds_79 at hf
    refine lv_iinc (v := (v4 + (1 : Int32))) (lv' := [(4, .int (v4 + (1 : Int32))), (0, .ref h0), (1, .int v1), (2, .int v2), (3, .int v3)]) hx hb d_Outline_holds_79 hl (k := 4) rfl rfl (by decide) rfl (fun ls hl => ?_)
    refine lv_goto (tgt := 5) hx hb d_Outline_holds_82 (by decide) ?_
    exact hr5 v1 v2 v3 (v4 + (1 : Int32))  ls (lv_sub hl [1, 2, 3, 4, 0] rfl) hf
  have hL78 : ∀ (r5 : Int32 → Int32 → Int32 → Int32 → Option (Int32)) (hr5 : ∀ (v1 : Int32) (v2 : Int32) (v3 : Int32) (v4 : Int32), ∀ (ls : Array Slot), lv_has ls 7 [(0, .ref h0), (1, .int v1), (2, .int v2), (3, .int v3), (4, .int v4)] → r5 v1 v2 v3 v4 = some res → W p l e (headSpec (Cond.code y_Outline_holds prog_5_method_9_code 7 (some .boolean) :: xT) ({ frames := 1, cells := 0, slots := 0, locals := 21 } : Room)).room s m args below meth c s.heap [] 0 0 Q (F0 m 5 ls [])), ∀ (v1 : Int32) (v2 : Int32) (v4 : Int32) (s0 : Int32), ∀ (ls : Array Slot), lv_has ls 7 [(0, .ref h0), (1, .int v1), (2, .int v2), (4, .int v4)] → f_Outline_holds_78 o0 r5 v1 v2 v4 s0 = some res → W p l e (headSpec (Cond.code y_Outline_holds prog_5_method_9_code 7 (some .boolean) :: xT) ({ frames := 1, cells := 0, slots := 0, locals := 21 } : Room)).room s m args below meth c s.heap [] 0 0 Q (F0 m 78 ls [.int s0]) := by
    intro r5 hr5 v1 v2 v4 s0 ls hl hf
    unfold f_Outline_holds_78 at hf
    refine lv_istore_n (lv' := [(3, .int s0), (0, .ref h0), (1, .int v1), (2, .int v2), (4, .int v4)]) hx hb d_Outline_holds_78 rfl hl (by decide) rfl (fun ls hl => ?_)
    exact (hL79 _ hr5) v1 v2 s0 v4  ls (lv_sub hl [1, 2, 3, 0, 4] rfl) hf
  have hL5 : ∀ (k85 : Int32 → Option (Int32)) (hk85 : ∀ (v3 : Int32), ∀ (ls : Array Slot), lv_has ls 7 [(0, .ref h0), (3, .int v3)] → k85 v3 = some res → W p l e (headSpec (Cond.code y_Outline_holds prog_5_method_9_code 7 (some .boolean) :: xT) ({ frames := 1, cells := 0, slots := 0, locals := 21 } : Room)).room s m args below meth c s.heap [] 0 0 Q (F0 m 85 ls [])), ∀ (n : Nat), ∀ (v1 : Int32) (v2 : Int32) (v3 : Int32) (v4 : Int32), ∀ (ls : Array Slot), lv_has ls 7 [(0, .ref h0), (1, .int v1), (2, .int v2), (3, .int v3), (4, .int v4)] → (xloop (fun r => f_Outline_holds_5 o0 r k85) (fun _ _ _ _ => none) n) v1 v2 v3 v4 = some res → W p l e (headSpec (Cond.code y_Outline_holds prog_5_method_9_code 7 (some .boolean) :: xT) ({ frames := 1, cells := 0, slots := 0, locals := 21 } : Room)).room s m args below meth c s.heap [] 0 0 Q (F0 m 5 ls []) := by
    intro k85 hk85
    intro n
    induction n with
    | zero => intro v1 v2 v3 v4 ls hl hf; cases hf
    | succ n ih =>
      intro v1 v2 v3 v4 ls hl hf
      replace hf : f_Outline_holds_5 o0 (xloop (fun r => f_Outline_holds_5 o0 r k85) (fun _ _ _ _ => none) n) k85 v1 v2 v3 v4 = some res := hf
      have hr5 := ih
      clear ih
      unfold f_Outline_holds_5 at hf
      refine lv_iload hx hb d_Outline_holds_5 (lv_at hl 4 rfl) ?_
      refine lv_aload_n hx hb d_Outline_holds_7 rfl (lv_at hl 0 rfl) ?_
      refine va_get (D := X.1) (ci := 3) (v := .int (Outline_corners o0)) (C := "MaskEdges$Outline") (T := F_Outline) (N := 4) hx hb ht in_Outline hown hK hP0 0 rfl rfl 2 (by decide) (ht _ xw_108) (fun _ h9 => h9) rfl d_Outline_holds_8 ?_
      refine lv_icmp_ge (tgt := 85) hx hb d_Outline_holds_11 (by decide) (fun hc => ?_) (fun hc => ?_)
      · replace hf := x_t hc hf
        exact hk85 v3  ls (lv_sub hl [0, 3] rfl) hf
      · replace hf := x_f hc hf
        refine lv_aload_n hx hb d_Outline_holds_14 rfl (lv_at hl 0 rfl) ?_
        refine va_get (D := X.1) (ci := 3) (v := .ref a0_1) (C := "MaskEdges$Outline") (T := F_Outline) (N := 4) hx hb ht in_Outline hown hK hP0 0 rfl rfl 1 (by decide) (ht _ xw_106) (fun _ h9 => h9) rfl d_Outline_holds_15 ?_
        refine lv_iload hx hb d_Outline_holds_18 (lv_at hl 4 rfl) ?_
        obtain ⟨g20, hf⟩ := x_g hf
        refine va_iald hx hb hK hP0 2 0 rfl rfl (xin_in g20) d_Outline_holds_20 ?_
        refine lv_istore (lv' := [(5, .int (Outline_ys o0 v4.toNatClampNeg)), (0, .ref h0), (1, .int v1), (2, .int v2), (3, .int v3), (4, .int v4)]) hx hb d_Outline_holds_21 hl (by decide) rfl (fun ls hl => ?_)
        refine lv_aload_n hx hb d_Outline_holds_23 rfl (lv_at hl 1 rfl) ?_
        refine va_get (D := X.1) (ci := 3) (v := .ref a0_1) (C := "MaskEdges$Outline") (T := F_Outline) (N := 4) hx hb ht in_Outline hown hK hP0 0 rfl rfl 1 (by decide) (ht _ xw_106) (fun _ h9 => h9) rfl d_Outline_holds_24 ?_
        refine lv_aload_n hx hb d_Outline_holds_27 rfl (lv_at hl 1 rfl) ?_
        refine lv_iload hx hb d_Outline_holds_28 (lv_at hl 5 rfl) ?_
        obtain ⟨c30, e30, hf⟩ := x_b hf
        refine xcR (va_runV (As := [.int v4]) (rest := [.ref a0_1]) ⟨hx, hb, hml, hown, ht⟩ (c_Outline_nextCorner l X h0 a0_0 a0_1 o0 v4 hP0 e30) (cwV 1 ht (xgV xw_203 xw_204 xw_205 xw_41 xw_206) rfl rfl rfl (by decide +kernel) ⟨Nat.le_of_ble_eq_true rfl, Nat.le_of_ble_eq_true rfl⟩) (xPV hKK (va_recv hK hP0 (ci := 3) (q0 := 0) rfl rfl)) rfl rfl hl.1 rfl (lv_room (Nat.le_of_ble_eq_true rfl)) d_Outline_holds_30 ⟨Nat.zero_le _, Nat.zero_le _⟩) ?_
        refine W.eq (g2 := F0 m 33 ls [.int c30, .ref a0_1]) rfl ?_
        obtain ⟨g33, hf⟩ := x_g hf
        refine va_iald hx hb hK hP0 2 0 rfl rfl (xin_in g33) d_Outline_holds_33 ?_
        refine lv_istore (lv' := [(6, .int (Outline_ys o0 c30.toNatClampNeg)), (5, .int (Outline_ys o0 v4.toNatClampNeg)), (0, .ref h0), (1, .int v1), (2, .int v2), (3, .int v3), (4, .int v4)]) hx hb d_Outline_holds_34 hl (by decide) rfl (fun ls hl => ?_)
        refine lv_aload_n hx hb d_Outline_holds_36 rfl (lv_at hl 2 rfl) ?_
        refine va_get (D := X.1) (ci := 3) (v := .ref a0_0) (C := "MaskEdges$Outline") (T := F_Outline) (N := 4) hx hb ht in_Outline hown hK hP0 0 rfl rfl 0 (by decide) (ht _ xw_104) (fun _ h9 => h9) rfl d_Outline_holds_37 ?_
        refine lv_iload hx hb d_Outline_holds_40 (lv_at hl 6 rfl) ?_
        obtain ⟨g42, hf⟩ := x_g hf
        refine va_iald hx hb hK hP0 1 0 rfl rfl (xin_in g42) d_Outline_holds_42 ?_
        refine lv_iload_n hx hb d_Outline_holds_43 rfl (lv_at hl 3 rfl) ?_
        refine lv_icmp_gt (tgt := 79) hx hb d_Outline_holds_44 (by decide) (fun hc => ?_) (fun hc => ?_)
        · replace hf := x_t hc hf
          exact (hL79 _ hr5) v1 v2 v3 v4  ls (lv_sub hl [2, 3, 4, 5, 6] rfl) hf
        · replace hf := x_f hc hf
          refine lv_iload hx hb d_Outline_holds_47 (lv_at hl 1 rfl) ?_
          refine lv_iload hx hb d_Outline_holds_49 (lv_at hl 0 rfl) ?_
          refine va_mmin hx hb (hml.trans hl.1.symm) hown (ht _ xw_214) (ht _ xw_215) (ht _ xw_44) (ht _ xw_math_min) (Nat.le_of_ble_eq_true rfl) (Nat.le_of_ble_eq_true rfl) (Nat.zero_le _) (Nat.zero_le _) d_Outline_holds_51 ?_
          refine lv_iload_n hx hb d_Outline_holds_54 rfl (lv_at hl 4 rfl) ?_
          refine lv_icmp_gt (tgt := 79) hx hb d_Outline_holds_55 (by decide) (fun hc => ?_) (fun hc => ?_)
          · replace hf := x_t hc hf
            exact (hL79 _ hr5) v1 v2 v3 v4  ls (lv_sub hl [2, 3, 4, 5, 6] rfl) hf
          · replace hf := x_f hc hf
            refine lv_iload_n hx hb d_Outline_holds_58 rfl (lv_at hl 4 rfl) ?_
            refine lv_iload hx hb d_Outline_holds_59 (lv_at hl 1 rfl) ?_
            refine lv_iload hx hb d_Outline_holds_61 (lv_at hl 0 rfl) ?_
            refine va_mmax hx hb (hml.trans hl.1.symm) hown (ht _ xw_217) (ht _ xw_218) (ht _ xw_44) (ht _ xw_math_max) (Nat.le_of_ble_eq_true rfl) (Nat.le_of_ble_eq_true rfl) (Nat.zero_le _) (Nat.zero_le _) d_Outline_holds_63 ?_
            refine lv_icmp_ge (tgt := 79) hx hb d_Outline_holds_66 (by decide) (fun hc => ?_) (fun hc => ?_)
            · replace hf := x_t hc hf
              exact (hL79 _ hr5) v1 v2 v3 v4  ls (lv_sub hl [2, 3, 4, 5, 6] rfl) hf
            · replace hf := x_f hc hf
              refine lv_iload_n hx hb d_Outline_holds_69 rfl (lv_at hl 5 rfl) ?_
              refine lv_if_ne (tgt := 77) hx hb d_Outline_holds_70 (by decide) (fun hc => ?_) (fun hc => ?_)
              · replace hf := x_f hc hf
                refine lv_iconst (v := (0 : Int32)) hx hb d_Outline_holds_77 (by decide) ?_
                exact (hL78 _ hr5) v1 v2 v4 (0 : Int32)  ls (lv_sub hl [2, 3, 4, 6] rfl) hf
              · replace hf := x_t hc hf
                refine lv_iconst (v := (1 : Int32)) hx hb d_Outline_holds_73 (by decide) ?_
                refine lv_goto (tgt := 78) hx hb d_Outline_holds_74 (by decide) ?_
                exact (hL78 _ hr5) v1 v2 v4 (1 : Int32)  ls (lv_sub hl [2, 3, 4, 6] rfl) hf
  have hL85 : ∀ (v3 : Int32), ∀ (ls : Array Slot), lv_has ls 7 [(0, .ref h0), (3, .int v3)] → f_Outline_holds_85 o0 v3 = some res → W p l e (headSpec (Cond.code y_Outline_holds prog_5_method_9_code 7 (some .boolean) :: xT) ({ frames := 1, cells := 0, slots := 0, locals := 21 } : Room)).room s m args below meth c s.heap [] 0 0 Q (F0 m 85 ls []) := by
    intro v3 ls hl hf
    unfold f_Outline_holds_85 at hf
    refine lv_aload_n hx hb d_Outline_holds_85 rfl (lv_at hl 0 rfl) ?_
    refine va_get (D := X.1) (ci := 3) (v := .int (Outline_closed o0)) (C := "MaskEdges$Outline") (T := F_Outline) (N := 4) hx hb ht in_Outline hown hK hP0 0 rfl rfl 3 (by decide) (ht _ xw_110) (fun _ h9 => h9) rfl d_Outline_holds_86 ?_
    refine lv_if_eq (tgt := 100) hx hb d_Outline_holds_89 (by decide) (fun hc => ?_) (fun hc => ?_)
    · replace hf := x_t hc hf
      refine lv_iconst (v := (0 : Int32)) hx hb d_Outline_holds_100 (by decide) ?_
      replace hf := x_s hf
      subst hf
      subst hQ
      exact W.zret (v := (0 : Int32)) hx hb hr (xz_n (by decide)) (fun t ht hW => ⟨⟨rfl, ht⟩, x_F0 ht⟩) x_l0 d_Outline_holds_101
    · replace hf := x_f hc hf
      refine lv_iload_n hx hb d_Outline_holds_92 rfl (lv_at hl 1 rfl) ?_
      refine lv_if_eq (tgt := 100) hx hb d_Outline_holds_93 (by decide) (fun hc => ?_) (fun hc => ?_)
      · replace hf := x_t hc hf
        refine lv_iconst (v := (0 : Int32)) hx hb d_Outline_holds_100 (by decide) ?_
        replace hf := x_s hf
        subst hf
        subst hQ
        exact W.zret (v := (0 : Int32)) hx hb hr (xz_n (by decide)) (fun t ht hW => ⟨⟨rfl, ht⟩, x_F0 ht⟩) x_l0 d_Outline_holds_101
      · replace hf := x_f hc hf
        refine lv_iconst (v := (1 : Int32)) hx hb d_Outline_holds_96 (by decide) ?_
        refine lv_goto (tgt := 101) hx hb d_Outline_holds_97 (by decide) ?_
        replace hf := x_s hf
        subst hf
        subst hQ
        exact W.zret (v := (1 : Int32)) hx hb hr (xz_n (by decide)) (fun t ht hW => ⟨⟨rfl, ht⟩, x_F0 ht⟩) x_l0 d_Outline_holds_101
  unfold f_Outline_holds at hf
  refine lv_iconst (v := (0 : Int32)) hx hb d_Outline_holds_0 (by decide) ?_
  refine lv_istore_n (lv' := [(3, .int (0 : Int32)), (0, .ref h0), (1, .int v1), (2, .int v2)]) hx hb d_Outline_holds_1 rfl hl (by decide) rfl (fun ls hl => ?_)
  refine lv_iconst (v := (0 : Int32)) hx hb d_Outline_holds_2 (by decide) ?_
  refine lv_istore (lv' := [(4, .int (0 : Int32)), (3, .int (0 : Int32)), (0, .ref h0), (1, .int v1), (2, .int v2)]) hx hb d_Outline_holds_3 hl (by decide) rfl (fun ls hl => ?_)
  exact (hL5 _ hL85 100000) v1 v2 (0 : Int32) (0 : Int32)  ls (lv_sub hl [2, 3, 4, 1, 0] rfl) hf
