def f_Piece_isFlat (o0 : t_Piece) : Option (Int32) :=
  if (Piece_outward o0) = 0 then
  some (1 : Int32)
else
  some (0 : Int32)
set_option maxHeartbeats 4000000 in
set_option maxRecDepth 100000 in
theorem c_Piece_isFlat (l : Launch) (X : xG) {H : Heap} (h0 : Nat) (o0 : t_Piece) {res : Int32} (hP0 : va_P X.1 vwCl (w_Piece X h0 o0) H) (hf : f_Piece_isFlat o0 = some res) : xM l y_Piece_isFlat (Cond.code y_Piece_isFlat prog_6_method_5_code 1 (some .boolean) :: xT) ({ frames := 0, cells := 0, slots := 0, locals := 0 } : Room) (xK X) [.ref h0] H xNo (some (.int res)) (fun H1 => H1 = H) := by
  refine Met.ofW (cc := prog_6_method_5_code) (maxL := 1) (ret := (some .boolean)) (by decide) rfl ?_
  intro p e s m args below meth c s₁ B hml hv
  obtain ⟨ha, hH, hKK⟩ := hv
  subst hH
  have hx := B.exec
  have hb := B.bytes
  have hr := B.returns
  have ht : ∀ w ∈ xT, w.before args s = true := fun w h => atoms_spec (ws := (Cond.code y_Piece_isFlat prog_6_method_5_code 1 (some .boolean) :: xT)) B.pre w (List.mem_cons_of_mem _ h)
  have hown : s.vm.findClass "MaskEdges$Piece" = some m.cls := findClass_of_methodNamed B.named
  have hlocks := B.notSynchronized
  have hK := hKK.1
  rw [show entryFrame m args 1 = entryFrame m ([.ref h0] : List Value).toArray 1 from by rw [ha]]
  clear ha
  have hl := lv_entry ([.ref h0]) (n := 1) (Nat.le_of_ble_eq_true rfl)
  rw [lg_entry_eq]
  generalize (lg_sl ([.ref h0]) ++ List.replicate (1 - (lg_sl ([.ref h0])).length) Slot.unset).toArray = ls at hl ⊢
  replace hl : lv_has ls 1 [(0, .ref h0)] := hl
  refine x_Q (fun Q hQ => ?_)
  unfold f_Piece_isFlat at hf
  refine lv_aload_n hx hb d_Piece_isFlat_0 rfl (lv_at hl 0 rfl) ?_
  refine va_get (D := X.1) (ci := 4) (v := .int (Piece_outward o0)) (C := "MaskEdges$Piece") (T := F_Piece) (N := 12) hx hb ht in_Piece hown hK hP0 0 rfl rfl 8 (by decide) (ht _ xw_135) (fun _ h9 => h9) rfl d_Piece_isFlat_1 ?_
  refine lv_if_ne (tgt := 11) hx hb d_Piece_isFlat_4 (by decide) (fun hc => ?_) (fun hc => ?_)
  · replace hf := x_f hc hf
    refine lv_iconst (v := (0 : Int32)) hx hb d_Piece_isFlat_11 (by decide) ?_
    replace hf := x_s hf
    subst hf
    subst hQ
    exact W.zret (v := (0 : Int32)) hx hb hr (xz_n (by decide)) (fun t ht hW => ⟨⟨rfl, ht⟩, x_F0 ht⟩) x_l0 d_Piece_isFlat_12
  · replace hf := x_t hc hf
    refine lv_iconst (v := (1 : Int32)) hx hb d_Piece_isFlat_7 (by decide) ?_
    refine lv_goto (tgt := 12) hx hb d_Piece_isFlat_8 (by decide) ?_
    replace hf := x_s hf
    subst hf
    subst hQ
    exact W.zret (v := (1 : Int32)) hx hb hr (xz_n (by decide)) (fun t ht hW => ⟨⟨rfl, ht⟩, x_F0 ht⟩) x_l0 d_Piece_isFlat_12
def f_Piece_facesLike (o0 : t_Piece) (o1 : t_Piece) : Option (Int32) :=
  if (Piece_alongX o0) = (Piece_alongX o1) then
  if (Piece_outward o0) = (Piece_outward o1) then
    some (1 : Int32)
  else
    some (0 : Int32)
else
  some (0 : Int32)
set_option maxHeartbeats 4000000 in
set_option maxRecDepth 100000 in
theorem c_Piece_facesLike (l : Launch) (X : xG) {H : Heap} (h0 : Nat) (o0 : t_Piece) (h1 : Nat) (o1 : t_Piece) {res : Int32} (hP0 : va_P X.1 vwCl (w_Piece X h0 o0) H) (hP1 : va_P X.1 vwCl (w_Piece X h1 o1) H) (hf : f_Piece_facesLike o0 o1 = some res) : xM l y_Piece_facesLike (Cond.code y_Piece_facesLike prog_6_method_6_code 2 (some .boolean) :: xT) ({ frames := 0, cells := 0, slots := 0, locals := 0 } : Room) (xK X) [.ref h0, .ref h1] H xNo (some (.int res)) (fun H1 => H1 = H) := by
  refine Met.ofW (cc := prog_6_method_6_code) (maxL := 2) (ret := (some .boolean)) (by decide) rfl ?_
  intro p e s m args below meth c s₁ B hml hv
  obtain ⟨ha, hH, hKK⟩ := hv
  subst hH
  have hx := B.exec
  have hb := B.bytes
  have hr := B.returns
  have ht : ∀ w ∈ xT, w.before args s = true := fun w h => atoms_spec (ws := (Cond.code y_Piece_facesLike prog_6_method_6_code 2 (some .boolean) :: xT)) B.pre w (List.mem_cons_of_mem _ h)
  have hown : s.vm.findClass "MaskEdges$Piece" = some m.cls := findClass_of_methodNamed B.named
  have hlocks := B.notSynchronized
  have hK := hKK.1
  rw [show entryFrame m args 2 = entryFrame m ([.ref h0, .ref h1] : List Value).toArray 2 from by rw [ha]]
  clear ha
  have hl := lv_entry ([.ref h0, .ref h1]) (n := 2) (Nat.le_of_ble_eq_true rfl)
  rw [lg_entry_eq]
  generalize (lg_sl ([.ref h0, .ref h1]) ++ List.replicate (2 - (lg_sl ([.ref h0, .ref h1])).length) Slot.unset).toArray = ls at hl ⊢
  replace hl : lv_has ls 2 [(0, .ref h0), (1, .ref h1)] := hl
  refine x_Q (fun Q hQ => ?_)
  unfold f_Piece_facesLike at hf
  refine lv_aload_n hx hb d_Piece_facesLike_0 rfl (lv_at hl 0 rfl) ?_
  refine va_get (D := X.1) (ci := 4) (v := .int (Piece_alongX o0)) (C := "MaskEdges$Piece") (T := F_Piece) (N := 12) hx hb ht in_Piece hown hK hP0 0 rfl rfl 0 (by decide) (ht _ xw_120) (fun _ h9 => h9) rfl d_Piece_facesLike_1 ?_
  refine lv_aload_n hx hb d_Piece_facesLike_4 rfl (lv_at hl 1 rfl) ?_
  refine va_get (D := X.1) (ci := 4) (v := .int (Piece_alongX o1)) (C := "MaskEdges$Piece") (T := F_Piece) (N := 12) hx hb ht in_Piece hown hK hP1 0 rfl rfl 0 (by decide) (ht _ xw_120) (fun _ h9 => h9) rfl d_Piece_facesLike_5 ?_
  refine lv_icmp_ne (tgt := 26) hx hb d_Piece_facesLike_8 (by decide) (fun hc => ?_) (fun hc => ?_)
  · replace hf := x_f hc hf
    refine lv_iconst (v := (0 : Int32)) hx hb d_Piece_facesLike_26 (by decide) ?_
    replace hf := x_s hf
    subst hf
    subst hQ
    exact W.zret (v := (0 : Int32)) hx hb hr (xz_n (by decide)) (fun t ht hW => ⟨⟨rfl, ht⟩, x_F0 ht⟩) x_l0 d_Piece_facesLike_27
  · replace hf := x_t hc hf
    refine lv_aload_n hx hb d_Piece_facesLike_11 rfl (lv_at hl 0 rfl) ?_
    refine va_get (D := X.1) (ci := 4) (v := .int (Piece_outward o0)) (C := "MaskEdges$Piece") (T := F_Piece) (N := 12) hx hb ht in_Piece hown hK hP0 0 rfl rfl 8 (by decide) (ht _ xw_135) (fun _ h9 => h9) rfl d_Piece_facesLike_12 ?_
    refine lv_aload_n hx hb d_Piece_facesLike_15 rfl (lv_at hl 1 rfl) ?_
    refine va_get (D := X.1) (ci := 4) (v := .int (Piece_outward o1)) (C := "MaskEdges$Piece") (T := F_Piece) (N := 12) hx hb ht in_Piece hown hK hP1 0 rfl rfl 8 (by decide) (ht _ xw_135) (fun _ h9 => h9) rfl d_Piece_facesLike_16 ?_
    refine lv_icmp_ne (tgt := 26) hx hb d_Piece_facesLike_19 (by decide) (fun hc => ?_) (fun hc => ?_)
    · replace hf := x_f hc hf
      refine lv_iconst (v := (0 : Int32)) hx hb d_Piece_facesLike_26 (by decide) ?_
      replace hf := x_s hf
      subst hf
      subst hQ
      exact W.zret (v := (0 : Int32)) hx hb hr (xz_n (by decide)) (fun t ht hW => ⟨⟨rfl, ht⟩, x_F0 ht⟩) x_l0 d_Piece_facesLike_27
    · replace hf := x_t hc hf
      refine lv_iconst (v := (1 : Int32)) hx hb d_Piece_facesLike_22 (by decide) ?_
      refine lv_goto (tgt := 27) hx hb d_Piece_facesLike_23 (by decide) ?_
      replace hf := x_s hf
      subst hf
      subst hQ
      exact W.zret (v := (1 : Int32)) hx hb hr (xz_n (by decide)) (fun t ht hW => ⟨⟨rfl, ht⟩, x_F0 ht⟩) x_l0 d_Piece_facesLike_27
def f_Piece_mayHaveBar (o0 : t_Piece) : Option (Int32) :=
  if (Piece_first o0) = 0 then
  some (0 : Int32)
else
  (f_Piece_isFlat o0).bind fun c8 =>
    if c8 = 0 then
    if ((Piece_sideHigh o0) - (Piece_sideLow o0)) < (6 : Int32) then
      some (0 : Int32)
    else
      some (1 : Int32)
  else
    some (0 : Int32)
set_option maxHeartbeats 4000000 in
set_option maxRecDepth 100000 in
theorem c_Piece_mayHaveBar (l : Launch) (X : xG) {H : Heap} (h0 : Nat) (o0 : t_Piece) {res : Int32} (hP0 : va_P X.1 vwCl (w_Piece X h0 o0) H) (hf : f_Piece_mayHaveBar o0 = some res) : xM l y_Piece_mayHaveBar (Cond.code y_Piece_mayHaveBar prog_6_method_7_code 1 (some .boolean) :: xT) ({ frames := 1, cells := 0, slots := 0, locals := 20 } : Room) (xK X) [.ref h0] H xNo (some (.int res)) (fun H1 => H1 = H) := by
  refine Met.ofW (cc := prog_6_method_7_code) (maxL := 1) (ret := (some .boolean)) (by decide) rfl ?_
  intro p e s m args below meth c s₁ B hml hv
  obtain ⟨ha, hH, hKK⟩ := hv
  subst hH
  have hx := B.exec
  have hb := B.bytes
  have hr := B.returns
  have ht : ∀ w ∈ xT, w.before args s = true := fun w h => atoms_spec (ws := (Cond.code y_Piece_mayHaveBar prog_6_method_7_code 1 (some .boolean) :: xT)) B.pre w (List.mem_cons_of_mem _ h)
  have hown : s.vm.findClass "MaskEdges$Piece" = some m.cls := findClass_of_methodNamed B.named
  have hlocks := B.notSynchronized
  have hK := hKK.1
  rw [show entryFrame m args 1 = entryFrame m ([.ref h0] : List Value).toArray 1 from by rw [ha]]
  clear ha
  have hl := lv_entry ([.ref h0]) (n := 1) (Nat.le_of_ble_eq_true rfl)
  rw [lg_entry_eq]
  generalize (lg_sl ([.ref h0]) ++ List.replicate (1 - (lg_sl ([.ref h0])).length) Slot.unset).toArray = ls at hl ⊢
  replace hl : lv_has ls 1 [(0, .ref h0)] := hl
  refine x_Q (fun Q hQ => ?_)
  unfold f_Piece_mayHaveBar at hf
  refine lv_aload_n hx hb d_Piece_mayHaveBar_0 rfl (lv_at hl 0 rfl) ?_
  refine va_get (D := X.1) (ci := 4) (v := .int (Piece_first o0)) (C := "MaskEdges$Piece") (T := F_Piece) (N := 12) hx hb ht in_Piece hown hK hP0 0 rfl rfl 6 (by decide) (ht _ xw_133) (fun _ h9 => h9) rfl d_Piece_mayHaveBar_1 ?_
  refine lv_if_eq (tgt := 32) hx hb d_Piece_mayHaveBar_4 (by decide) (fun hc => ?_) (fun hc => ?_)
  · replace hf := x_t hc hf
    refine lv_iconst (v := (0 : Int32)) hx hb d_Piece_mayHaveBar_32 (by decide) ?_
    replace hf := x_s hf
    subst hf
    subst hQ
    exact W.zret (v := (0 : Int32)) hx hb hr (xz_n (by decide)) (fun t ht hW => ⟨⟨rfl, ht⟩, x_F0 ht⟩) x_l0 d_Piece_mayHaveBar_33
  · replace hf := x_f hc hf
    refine lv_aload_n hx hb d_Piece_mayHaveBar_7 rfl (lv_at hl 0 rfl) ?_
    obtain ⟨c8, e8, hf⟩ := x_b hf
    refine xcR (va_runV (As := []) (rest := []) ⟨hx, hb, hml, hown, ht⟩ (c_Piece_isFlat l X h0 o0 hP0 e8) (cwV 0 ht (xgV xw_371 xw_342 xw_343 xw_42 xw_344) rfl rfl rfl (by decide +kernel) ⟨Nat.le_of_ble_eq_true rfl, Nat.le_of_ble_eq_true rfl⟩) (xPV hKK (va_recv hK hP0 (ci := 4) (q0 := 0) rfl rfl)) rfl rfl hl.1 rfl (lv_room (Nat.le_of_ble_eq_true rfl)) d_Piece_mayHaveBar_8 ⟨Nat.zero_le _, Nat.zero_le _⟩) ?_
    refine W.eq (g2 := F0 m 11 ls [.int c8]) rfl ?_
    refine lv_if_ne (tgt := 32) hx hb d_Piece_mayHaveBar_11 (by decide) (fun hc => ?_) (fun hc => ?_)
    · replace hf := x_f hc hf
      refine lv_iconst (v := (0 : Int32)) hx hb d_Piece_mayHaveBar_32 (by decide) ?_
      replace hf := x_s hf
      subst hf
      subst hQ
      exact W.zret (v := (0 : Int32)) hx hb hr (xz_n (by decide)) (fun t ht hW => ⟨⟨rfl, ht⟩, x_F0 ht⟩) x_l0 d_Piece_mayHaveBar_33
    · replace hf := x_t hc hf
      refine lv_aload_n hx hb d_Piece_mayHaveBar_14 rfl (lv_at hl 0 rfl) ?_
      refine va_get (D := X.1) (ci := 4) (v := .int (Piece_sideHigh o0)) (C := "MaskEdges$Piece") (T := F_Piece) (N := 12) hx hb ht in_Piece hown hK hP0 0 rfl rfl 5 (by decide) (ht _ xw_131) (fun _ h9 => h9) rfl d_Piece_mayHaveBar_15 ?_
      refine lv_aload_n hx hb d_Piece_mayHaveBar_18 rfl (lv_at hl 0 rfl) ?_
      refine va_get (D := X.1) (ci := 4) (v := .int (Piece_sideLow o0)) (C := "MaskEdges$Piece") (T := F_Piece) (N := 12) hx hb ht in_Piece hown hK hP0 0 rfl rfl 4 (by decide) (ht _ xw_129) (fun _ h9 => h9) rfl d_Piece_mayHaveBar_19 ?_
      refine lv_isub hx hb d_Piece_mayHaveBar_22 ?_
      refine lv_bipush (v := (6 : Int32)) hx hb d_Piece_mayHaveBar_23 (by decide) ?_
      refine lv_icmp_lt (tgt := 32) hx hb d_Piece_mayHaveBar_25 (by decide) (fun hc => ?_) (fun hc => ?_)
      · replace hf := x_t hc hf
        refine lv_iconst (v := (0 : Int32)) hx hb d_Piece_mayHaveBar_32 (by decide) ?_
        replace hf := x_s hf
        subst hf
        subst hQ
        exact W.zret (v := (0 : Int32)) hx hb hr (xz_n (by decide)) (fun t ht hW => ⟨⟨rfl, ht⟩, x_F0 ht⟩) x_l0 d_Piece_mayHaveBar_33
      · replace hf := x_f hc hf
        refine lv_iconst (v := (1 : Int32)) hx hb d_Piece_mayHaveBar_28 (by decide) ?_
        refine lv_goto (tgt := 33) hx hb d_Piece_mayHaveBar_29 (by decide) ?_
        replace hf := x_s hf
        subst hf
        subst hQ
        exact W.zret (v := (1 : Int32)) hx hb hr (xz_n (by decide)) (fun t ht hW => ⟨⟨rfl, ht⟩, x_F0 ht⟩) x_l0 d_Piece_mayHaveBar_33
def f_Piece_fitsRule (o0 : t_Piece) (v1 : Int32) : Option (Int32) :=
  if v1 = (0 : Int32) then
  some (1 : Int32)
else
  if v1 = (1 : Int32) then
    if xz (Piece_alongX o0) = true then
      some (Piece_alongX o0)
    else none
  else
    if v1 = (2 : Int32) then
      if (Piece_alongX o0) = 0 then
        some (1 : Int32)
      else
        some (0 : Int32)
    else
      if v1 = (3 : Int32) then
        if (Piece_first o0) = 0 then
          if (Piece_last o0) = 0 then
            some (0 : Int32)
          else
            some (1 : Int32)
        else
          some (1 : Int32)
      else
        some (0 : Int32)
set_option maxHeartbeats 4000000 in
set_option maxRecDepth 100000 in
theorem c_Piece_fitsRule (l : Launch) (X : xG) {H : Heap} (h0 : Nat) (o0 : t_Piece) (v1 : Int32) {res : Int32} (hP0 : va_P X.1 vwCl (w_Piece X h0 o0) H) (hf : f_Piece_fitsRule o0 v1 = some res) : xM l y_Piece_fitsRule (Cond.code y_Piece_fitsRule prog_6_method_8_code 2 (some .boolean) :: xT) ({ frames := 0, cells := 0, slots := 0, locals := 0 } : Room) (xK X) [.ref h0, .int v1] H xNo (some (.int res)) (fun H1 => H1 = H) := by
  refine Met.ofW (cc := prog_6_method_8_code) (maxL := 2) (ret := (some .boolean)) (by decide) rfl ?_
  intro p e s m args below meth c s₁ B hml hv
  obtain ⟨ha, hH, hKK⟩ := hv
  subst hH
  have hx := B.exec
  have hb := B.bytes
  have hr := B.returns
  have ht : ∀ w ∈ xT, w.before args s = true := fun w h => atoms_spec (ws := (Cond.code y_Piece_fitsRule prog_6_method_8_code 2 (some .boolean) :: xT)) B.pre w (List.mem_cons_of_mem _ h)
  have hown : s.vm.findClass "MaskEdges$Piece" = some m.cls := findClass_of_methodNamed B.named
  have hlocks := B.notSynchronized
  have hK := hKK.1
  rw [show entryFrame m args 2 = entryFrame m ([.ref h0, .int v1] : List Value).toArray 2 from by rw [ha]]
  clear ha
  have hl := lv_entry ([.ref h0, .int v1]) (n := 2) (Nat.le_of_ble_eq_true rfl)
  rw [lg_entry_eq]
  generalize (lg_sl ([.ref h0, .int v1]) ++ List.replicate (2 - (lg_sl ([.ref h0, .int v1])).length) Slot.unset).toArray = ls at hl ⊢
  replace hl : lv_has ls 2 [(0, .ref h0), (1, .int v1)] := hl
  refine x_Q (fun Q hQ => ?_)
  unfold f_Piece_fitsRule at hf
  refine lv_iload_n hx hb d_Piece_fitsRule_0 rfl (lv_at hl 1 rfl) ?_
  by_cases c1 : v1 = (0 : Int32)
  · replace hf := x_t c1 hf
    refine lv_tableIn (x := v1) (off := 31) (tgt := 32) hx hb d_Piece_fitsRule_1 (by rw [c1]; decide) (by rw [c1]; decide) (by rw [c1]; decide +kernel) (by decide) ?_
    refine lv_iconst (v := (1 : Int32)) hx hb d_Piece_fitsRule_32 (by decide) ?_
    replace hf := x_s hf
    subst hf
    subst hQ
    exact W.zret (v := (1 : Int32)) hx hb hr (xz_n (by decide)) (fun t ht hW => ⟨⟨rfl, ht⟩, x_F0 ht⟩) x_l0 d_Piece_fitsRule_33
  replace hf := x_f c1 hf
  have n1_0 := c1
  clear c1
  by_cases c1 : v1 = (1 : Int32)
  · replace hf := x_t c1 hf
    refine lv_tableIn (x := v1) (off := 33) (tgt := 34) hx hb d_Piece_fitsRule_1 (by rw [c1]; decide) (by rw [c1]; decide) (by rw [c1]; decide +kernel) (by decide) ?_
    refine lv_aload_n hx hb d_Piece_fitsRule_34 rfl (lv_at hl 0 rfl) ?_
    refine va_get (D := X.1) (ci := 4) (v := .int (Piece_alongX o0)) (C := "MaskEdges$Piece") (T := F_Piece) (N := 12) hx hb ht in_Piece hown hK hP0 0 rfl rfl 0 (by decide) (ht _ xw_120) (fun _ h9 => h9) rfl d_Piece_fitsRule_35 ?_
    obtain ⟨zr, hf⟩ := x_g hf
    replace hf := x_s hf
    subst hf
    subst hQ
    exact W.zret (v := (Piece_alongX o0)) hx hb hr (xz_n zr) (fun t ht hW => ⟨⟨rfl, ht⟩, x_F0 ht⟩) x_l0 d_Piece_fitsRule_38
  replace hf := x_f c1 hf
  have n1_1 := c1
  clear c1
  by_cases c1 : v1 = (2 : Int32)
  · replace hf := x_t c1 hf
    refine lv_tableIn (x := v1) (off := 38) (tgt := 39) hx hb d_Piece_fitsRule_1 (by rw [c1]; decide) (by rw [c1]; decide) (by rw [c1]; decide +kernel) (by decide) ?_
    refine lv_aload_n hx hb d_Piece_fitsRule_39 rfl (lv_at hl 0 rfl) ?_
    refine va_get (D := X.1) (ci := 4) (v := .int (Piece_alongX o0)) (C := "MaskEdges$Piece") (T := F_Piece) (N := 12) hx hb ht in_Piece hown hK hP0 0 rfl rfl 0 (by decide) (ht _ xw_120) (fun _ h9 => h9) rfl d_Piece_fitsRule_40 ?_
    refine lv_if_ne (tgt := 50) hx hb d_Piece_fitsRule_43 (by decide) (fun hc => ?_) (fun hc => ?_)
    · replace hf := x_f hc hf
      refine lv_iconst (v := (0 : Int32)) hx hb d_Piece_fitsRule_50 (by decide) ?_
      replace hf := x_s hf
      subst hf
      subst hQ
      exact W.zret (v := (0 : Int32)) hx hb hr (xz_n (by decide)) (fun t ht hW => ⟨⟨rfl, ht⟩, x_F0 ht⟩) x_l0 d_Piece_fitsRule_51
    · replace hf := x_t hc hf
      refine lv_iconst (v := (1 : Int32)) hx hb d_Piece_fitsRule_46 (by decide) ?_
      refine lv_goto (tgt := 51) hx hb d_Piece_fitsRule_47 (by decide) ?_
      replace hf := x_s hf
      subst hf
      subst hQ
      exact W.zret (v := (1 : Int32)) hx hb hr (xz_n (by decide)) (fun t ht hW => ⟨⟨rfl, ht⟩, x_F0 ht⟩) x_l0 d_Piece_fitsRule_51
  replace hf := x_f c1 hf
  have n1_2 := c1
  clear c1
  by_cases c1 : v1 = (3 : Int32)
  · replace hf := x_t c1 hf
    refine lv_tableIn (x := v1) (off := 51) (tgt := 52) hx hb d_Piece_fitsRule_1 (by rw [c1]; decide) (by rw [c1]; decide) (by rw [c1]; decide +kernel) (by decide) ?_
    refine lv_aload_n hx hb d_Piece_fitsRule_52 rfl (lv_at hl 0 rfl) ?_
    refine va_get (D := X.1) (ci := 4) (v := .int (Piece_first o0)) (C := "MaskEdges$Piece") (T := F_Piece) (N := 12) hx hb ht in_Piece hown hK hP0 0 rfl rfl 6 (by decide) (ht _ xw_133) (fun _ h9 => h9) rfl d_Piece_fitsRule_53 ?_
    refine lv_if_ne (tgt := 66) hx hb d_Piece_fitsRule_56 (by decide) (fun hc => ?_) (fun hc => ?_)
    · replace hf := x_f hc hf
      refine lv_iconst (v := (1 : Int32)) hx hb d_Piece_fitsRule_66 (by decide) ?_
      refine lv_goto (tgt := 71) hx hb d_Piece_fitsRule_67 (by decide) ?_
      replace hf := x_s hf
      subst hf
      subst hQ
      exact W.zret (v := (1 : Int32)) hx hb hr (xz_n (by decide)) (fun t ht hW => ⟨⟨rfl, ht⟩, x_F0 ht⟩) x_l0 d_Piece_fitsRule_71
    · replace hf := x_t hc hf
      refine lv_aload_n hx hb d_Piece_fitsRule_59 rfl (lv_at hl 0 rfl) ?_
      refine va_get (D := X.1) (ci := 4) (v := .int (Piece_last o0)) (C := "MaskEdges$Piece") (T := F_Piece) (N := 12) hx hb ht in_Piece hown hK hP0 0 rfl rfl 7 (by decide) (ht _ xw_134) (fun _ h9 => h9) rfl d_Piece_fitsRule_60 ?_
      refine lv_if_eq (tgt := 70) hx hb d_Piece_fitsRule_63 (by decide) (fun hc => ?_) (fun hc => ?_)
      · replace hf := x_t hc hf
        refine lv_iconst (v := (0 : Int32)) hx hb d_Piece_fitsRule_70 (by decide) ?_
        replace hf := x_s hf
        subst hf
        subst hQ
        exact W.zret (v := (0 : Int32)) hx hb hr (xz_n (by decide)) (fun t ht hW => ⟨⟨rfl, ht⟩, x_F0 ht⟩) x_l0 d_Piece_fitsRule_71
      · replace hf := x_f hc hf
        refine lv_iconst (v := (1 : Int32)) hx hb d_Piece_fitsRule_66 (by decide) ?_
        refine lv_goto (tgt := 71) hx hb d_Piece_fitsRule_67 (by decide) ?_
        replace hf := x_s hf
        subst hf
        subst hQ
        exact W.zret (v := (1 : Int32)) hx hb hr (xz_n (by decide)) (fun t ht hW => ⟨⟨rfl, ht⟩, x_F0 ht⟩) x_l0 d_Piece_fitsRule_71
  replace hf := x_f c1 hf
  have n1_3 := c1
  clear c1
  refine lv_tableOut (x := v1) (tgt := 72) hx hb d_Piece_fitsRule_1 (x_out (by decide) (by decide) (fun j h1 h2 => by
        obtain h | h | h | h : j = 0 ∨ j = 1 ∨ j = 2 ∨ j = 3 := by omega
        · subst h; exact n1_0
        · subst h; exact n1_1
        · subst h; exact n1_2
        · subst h; exact n1_3)) (by decide) ?_
  refine lv_iconst (v := (0 : Int32)) hx hb d_Piece_fitsRule_72 (by decide) ?_
  replace hf := x_s hf
  subst hf
  subst hQ
  exact W.zret (v := (0 : Int32)) hx hb hr (xz_n (by decide)) (fun t ht hW => ⟨⟨rfl, ht⟩, x_F0 ht⟩) x_l0 d_Piece_fitsRule_73
def f_Piece_moveTo (v1 : Int32) (v2 : Int32) (o0 : t_Piece) : Option (Int32 × t_Piece) :=
  (f_Piece_isFlat o0).bind fun c1 =>
  if c1 = 0 then
  (f_MaskEdges_clamp v1 v2).bind fun c17 =>
    if (Piece_move (Piece_u_move o0 c17)) = (Piece_move o0) then
    some ((0 : Int32), (Piece_u_move o0 c17))
  else
    some ((1 : Int32), (Piece_u_move o0 c17))
else
  some ((0 : Int32), o0)
set_option maxHeartbeats 4000000 in
set_option maxRecDepth 100000 in
theorem c_Piece_moveTo (l : Launch) (X : xG) {H : Heap} (h0 : Nat) (o0 : t_Piece) (v1 : Int32) (v2 : Int32) {res : Int32 × t_Piece} (hP0 : va_P X.1 vwCl (w_Piece X h0 o0) H) (hnd : [h0].Nodup) (hf : f_Piece_moveTo v1 v2 o0 = some res) : xM l y_Piece_moveTo (Cond.code y_Piece_moveTo prog_6_method_9_code 4 (some .boolean) :: xT) ({ frames := 2, cells := 0, slots := 0, locals := 42 } : Room) (xK X) [.ref h0, .int v1, .int v2] H (xAl [h0]) (some (.int res.1)) (fun H1 => va_P X.1 vwCl (w_Piece X h0 res.2) H1) := by
  refine Met.ofW (cc := prog_6_method_9_code) (maxL := 4) (ret := (some .boolean)) (by decide) rfl ?_
  intro p e s m args below meth c s₁ B hml hv
  obtain ⟨ha, hH, hKK⟩ := hv
  subst hH
  have hx := B.exec
  have hb := B.bytes
  have hr := B.returns
  have ht : ∀ w ∈ xT, w.before args s = true := fun w h => atoms_spec (ws := (Cond.code y_Piece_moveTo prog_6_method_9_code 4 (some .boolean) :: xT)) B.pre w (List.mem_cons_of_mem _ h)
  have hown : s.vm.findClass "MaskEdges$Piece" = some m.cls := findClass_of_methodNamed B.named
  have hlocks := B.notSynchronized
  have hK := hKK.1
  rw [show entryFrame m args 4 = entryFrame m ([.ref h0, .int v1, .int v2] : List Value).toArray 4 from by rw [ha]]
  clear ha
  have hP := hP0
  have hD : va_D (xAl [h0]) (w_Piece X h0 o0) := xDl rfl hnd
  have hS : va_S (xAl [h0]) s.heap s.heap [] := va_S.rf
  have hl := lv_entry ([.ref h0, .int v1, .int v2]) (n := 4) (Nat.le_of_ble_eq_true rfl)
  rw [lg_entry_eq]
  generalize (lg_sl ([.ref h0, .int v1, .int v2]) ++ List.replicate (4 - (lg_sl ([.ref h0, .int v1, .int v2])).length) Slot.unset).toArray = ls at hl ⊢
  replace hl : lv_has ls 4 [(0, .ref h0), (1, .int v1), (2, .int v2)] := hl
  refine x_Q (fun Q hQ => ?_)
  unfold f_Piece_moveTo at hf
  refine lv_aload_n hx hb d_Piece_moveTo_0 rfl (lv_at hl 0 rfl) ?_
  obtain ⟨c1, e1, hf⟩ := x_b hf
  refine xcR (va_runV (As := []) (rest := []) ⟨hx, hb, hml, hown, ht⟩ (c_Piece_isFlat l X h0 o0 hP e1) (cwV 0 ht (xgV xw_371 xw_342 xw_343 xw_42 xw_344) rfl rfl rfl (by decide +kernel) ⟨Nat.le_of_ble_eq_true rfl, Nat.le_of_ble_eq_true rfl⟩) (xPV hKK (va_recv hK hP (ci := 4) (q0 := 0) rfl rfl)) rfl rfl hl.1 rfl (lv_room (Nat.le_of_ble_eq_true rfl)) d_Piece_moveTo_1 ⟨Nat.zero_le _, Nat.zero_le _⟩) ?_
  refine W.eq (g2 := F0 m 4 ls [.int c1]) rfl ?_
  refine lv_if_eq (tgt := 9) hx hb d_Piece_moveTo_4 (by decide) (fun hc => ?_) (fun hc => ?_)
  · replace hf := x_t hc hf
    refine lv_aload_n hx hb d_Piece_moveTo_9 rfl (lv_at hl 0 rfl) ?_
    refine va_get (D := X.1) (ci := 4) (v := .int (Piece_move o0)) (C := "MaskEdges$Piece") (T := F_Piece) (N := 12) hx hb ht in_Piece hown hK hP 0 rfl rfl 11 (by decide) (ht _ xw_141) (fun _ h9 => h9) rfl d_Piece_moveTo_10 ?_
    refine lv_istore_n (lv' := [(3, .int (Piece_move o0)), (0, .ref h0), (1, .int v1), (2, .int v2)]) hx hb d_Piece_moveTo_13 rfl hl (by decide) rfl (fun ls hl => ?_)
    refine lv_aload_n hx hb d_Piece_moveTo_14 rfl (lv_at hl 1 rfl) ?_
    refine lv_iload_n hx hb d_Piece_moveTo_15 rfl (lv_at hl 2 rfl) ?_
    refine lv_iload_n hx hb d_Piece_moveTo_16 rfl (lv_at hl 3 rfl) ?_
    obtain ⟨c17, e17, hf⟩ := x_b hf
    refine xcR (va_runSN (As := [.int v1, .int v2]) (rest := [.ref h0]) ⟨hx, hb, hml, hown, ht⟩ (c_MaskEdges_clamp l X v1 v2 e17) ⟨va_cnB 2 ht (xgC xw_365) rfl rfl rfl (hKK.2 _ xn_8) (ht _ xw_37) (by decide +kernel) ⟨Nat.le_of_ble_eq_true rfl, Nat.le_of_ble_eq_true rfl⟩, ht _ xw_364, trivial⟩ (xPS hKK) rfl rfl hl.1 rfl (lv_room (Nat.le_of_ble_eq_true rfl)) d_Piece_moveTo_17 ⟨Nat.zero_le _, Nat.zero_le _⟩) ?_
    refine W.eq (g2 := F0 m 20 ls [.int c17, .ref h0]) rfl ?_
    refine va_put (D := X.1) (ci := 4) (v := .int c17) (ty := .int) (C := "MaskEdges$Piece") (T := F_Piece) (N := 12) hx hb ht in_Piece ty_Piece tyk_Piece nm_Piece hown hK hP hD hS 0 rfl rfl 11 (by decide) (ht _ xw_141) (fun _ h9 => h9) rfl (by decide +kernel) rfl rfl (Nat.le_of_ble_eq_true rfl) d_Piece_moveTo_20 (fun H locs hP hD hS => ?_)
    replace hP : va_P X.1 vwCl (w_Piece X h0 (Piece_u_move o0 c17)) H := hP
    replace hD : va_D _ (w_Piece X h0 (Piece_u_move o0 c17)) := hD
    refine lv_aload_n hx hb d_Piece_moveTo_23 rfl (lv_at hl 1 rfl) ?_
    refine va_get (D := X.1) (ci := 4) (v := .int (Piece_move (Piece_u_move o0 c17))) (C := "MaskEdges$Piece") (T := F_Piece) (N := 12) hx hb ht in_Piece hown hK hP 0 rfl rfl 11 (by decide) (ht _ xw_141) (fun _ h9 => h9) rfl d_Piece_moveTo_24 ?_
    refine lv_iload_n hx hb d_Piece_moveTo_27 rfl (lv_at hl 0 rfl) ?_
    refine lv_icmp_eq (tgt := 35) hx hb d_Piece_moveTo_28 (by decide) (fun hc => ?_) (fun hc => ?_)
    · replace hf := x_t hc hf
      refine lv_iconst (v := (0 : Int32)) hx hb d_Piece_moveTo_35 (by decide) ?_
      replace hf := x_s hf
      subst hf
      subst hQ
      exact W.zret (v := (0 : Int32)) hx hb hr (xz_n (by decide)) (fun t ht hW => ⟨⟨rfl, by rw [ht]; exact hP⟩, hS.F ht⟩) hS.2.2 d_Piece_moveTo_36
    · replace hf := x_f hc hf
      refine lv_iconst (v := (1 : Int32)) hx hb d_Piece_moveTo_31 (by decide) ?_
      refine lv_goto (tgt := 36) hx hb d_Piece_moveTo_32 (by decide) ?_
      replace hf := x_s hf
      subst hf
      subst hQ
      exact W.zret (v := (1 : Int32)) hx hb hr (xz_n (by decide)) (fun t ht hW => ⟨⟨rfl, by rw [ht]; exact hP⟩, hS.F ht⟩) hS.2.2 d_Piece_moveTo_36
  · replace hf := x_f hc hf
    refine lv_iconst (v := (0 : Int32)) hx hb d_Piece_moveTo_7 (by decide) ?_
    replace hf := x_s hf
    subst hf
    subst hQ
    exact W.zret (v := (0 : Int32)) hx hb hr (xz_n (by decide)) (fun t ht hW => ⟨⟨rfl, by rw [ht]; exact hP⟩, hS.F ht⟩) hS.2.2 d_Piece_moveTo_8
def f_Piece_pointAt (v0 : Int32) (v1 : Int32) (v2 : Int32) (v3 : Int32) : Option (Int32) :=
  if (1 : Int32) ≤ v3 then
  if v3 = 0 then none else
    if v1 ≤ v0 then
    some (v0 - (((if 0 ≤ (v1 - v0) then (v1 - v0) else 0 - (v1 - v0)) * v2) / v3))
  else
    some (v0 + (((if 0 ≤ (v1 - v0) then (v1 - v0) else 0 - (v1 - v0)) * v2) / v3))
else
  some v0
set_option maxHeartbeats 4000000 in
set_option maxRecDepth 100000 in
theorem c_Piece_pointAt (l : Launch) (X : xG) {H : Heap} (v0 : Int32) (v1 : Int32) (v2 : Int32) (v3 : Int32) {res : Int32} (hf : f_Piece_pointAt v0 v1 v2 v3 = some res) : xM l y_Piece_pointAt (Cond.code y_Piece_pointAt prog_6_method_3_code 5 (some .int) :: xT) ({ frames := 1, cells := 0, slots := 0, locals := 21 } : Room) (xK X) [.int v0, .int v1, .int v2, .int v3] H xNo (some (.int res)) (fun H1 => H1 = H) := by
  refine Met.ofW (cc := prog_6_method_3_code) (maxL := 5) (ret := (some .int)) (by decide) rfl ?_
  intro p e s m args below meth c s₁ B hml hv
  obtain ⟨ha, hH, hKK⟩ := hv
  subst hH
  have hx := B.exec
  have hb := B.bytes
  have hr := B.returns
  have ht : ∀ w ∈ xT, w.before args s = true := fun w h => atoms_spec (ws := (Cond.code y_Piece_pointAt prog_6_method_3_code 5 (some .int) :: xT)) B.pre w (List.mem_cons_of_mem _ h)
  have hown : s.vm.findClass "MaskEdges$Piece" = some m.cls := findClass_of_methodNamed B.named
  have hlocks := B.notSynchronized
  have hK := hKK.1
  rw [show entryFrame m args 5 = entryFrame m ([.int v0, .int v1, .int v2, .int v3] : List Value).toArray 5 from by rw [ha]]
  clear ha
  have hl := lv_entry ([.int v0, .int v1, .int v2, .int v3]) (n := 5) (Nat.le_of_ble_eq_true rfl)
  rw [lg_entry_eq]
  generalize (lg_sl ([.int v0, .int v1, .int v2, .int v3]) ++ List.replicate (5 - (lg_sl ([.int v0, .int v1, .int v2, .int v3])).length) Slot.unset).toArray = ls at hl ⊢
  replace hl : lv_has ls 5 [(0, .int v0), (1, .int v1), (2, .int v2), (3, .int v3)] := hl
  refine x_Q (fun Q hQ => ?_)
  unfold f_Piece_pointAt at hf
  refine lv_iload_n hx hb d_Piece_pointAt_0 rfl (lv_at hl 3 rfl) ?_
  refine lv_iconst (v := (1 : Int32)) hx hb d_Piece_pointAt_1 (by decide) ?_
  refine lv_icmp_ge (tgt := 7) hx hb d_Piece_pointAt_2 (by decide) (fun hc => ?_) (fun hc => ?_)
  · replace hf := x_t hc hf
    refine lv_iload_n hx hb d_Piece_pointAt_7 rfl (lv_at hl 1 rfl) ?_
    refine lv_iload_n hx hb d_Piece_pointAt_8 rfl (lv_at hl 0 rfl) ?_
    refine lv_isub hx hb d_Piece_pointAt_9 ?_
    refine va_mabs hx hb (hml.trans hl.1.symm) hown (ht _ xw_307) (ht _ xw_290) (ht _ xw_44) (ht _ xw_math_abs) (Nat.le_of_ble_eq_true rfl) (Nat.le_of_ble_eq_true rfl) (Nat.zero_le _) (Nat.zero_le _) d_Piece_pointAt_10 ?_
    refine lv_iload_n hx hb d_Piece_pointAt_13 rfl (lv_at hl 2 rfl) ?_
    refine lv_imul hx hb d_Piece_pointAt_14 ?_
    refine lv_iload_n hx hb d_Piece_pointAt_15 rfl (lv_at hl 3 rfl) ?_
    obtain ⟨z16, hf⟩ := x_n hf
    refine lv_idiv hx hb d_Piece_pointAt_16 z16 ?_
    refine lv_istore (lv' := [(4, .int (((if 0 ≤ (v1 - v0) then (v1 - v0) else 0 - (v1 - v0)) * v2) / v3)), (0, .int v0), (1, .int v1), (2, .int v2), (3, .int v3)]) hx hb d_Piece_pointAt_17 hl (by decide) rfl (fun ls hl => ?_)
    refine lv_iload_n hx hb d_Piece_pointAt_19 rfl (lv_at hl 2 rfl) ?_
    refine lv_iload_n hx hb d_Piece_pointAt_20 rfl (lv_at hl 1 rfl) ?_
    refine lv_icmp_le (tgt := 31) hx hb d_Piece_pointAt_21 (by decide) (fun hc => ?_) (fun hc => ?_)
    · replace hf := x_t hc hf
      refine lv_iload_n hx hb d_Piece_pointAt_31 rfl (lv_at hl 1 rfl) ?_
      refine lv_iload hx hb d_Piece_pointAt_32 (lv_at hl 0 rfl) ?_
      refine lv_isub hx hb d_Piece_pointAt_34 ?_
      replace hf := x_s hf
      subst hf
      subst hQ
      exact W.iret (v := (v0 - (((if 0 ≤ (v1 - v0) then (v1 - v0) else 0 - (v1 - v0)) * v2) / v3))) hx hb hr (fun t ht hW => ⟨⟨rfl, ht⟩, x_F0 ht⟩) x_l0 d_Piece_pointAt_35
    · replace hf := x_f hc hf
      refine lv_iload_n hx hb d_Piece_pointAt_24 rfl (lv_at hl 1 rfl) ?_
      refine lv_iload hx hb d_Piece_pointAt_25 (lv_at hl 0 rfl) ?_
      refine lv_iadd hx hb d_Piece_pointAt_27 ?_
      refine lv_goto (tgt := 35) hx hb d_Piece_pointAt_28 (by decide) ?_
      replace hf := x_s hf
      subst hf
      subst hQ
      exact W.iret (v := (v0 + (((if 0 ≤ (v1 - v0) then (v1 - v0) else 0 - (v1 - v0)) * v2) / v3))) hx hb hr (fun t ht hW => ⟨⟨rfl, ht⟩, x_F0 ht⟩) x_l0 d_Piece_pointAt_35
  · replace hf := x_f hc hf
    refine lv_iload_n hx hb d_Piece_pointAt_5 rfl (lv_at hl 0 rfl) ?_
    replace hf := x_s hf
    subst hf
    subst hQ
    exact W.iret (v := v0) hx hb hr (fun t ht hW => ⟨⟨rfl, ht⟩, x_F0 ht⟩) x_l0 d_Piece_pointAt_6
def f_Piece_faceOutward_151 (o1 : t_Outline) (s0 : Int32) (o0 : t_Piece) : Option (t_Piece) :=
  some (Piece_u_insideY o0 s0)
def f_Piece_faceOutward_134 (o1 : t_Outline) (v2 : Int32) (v5 : Int32) (s0 : Int32) (o0 : t_Piece) : Option (t_Piece) :=
  if (Piece_alongX (Piece_u_insideX o0 s0)) = 0 then
  (f_Piece_faceOutward_151 o1) v2 (Piece_u_insideX o0 s0)
else
  (f_Piece_faceOutward_151 o1) v5 (Piece_u_insideX o0 s0)
def f_Piece_faceOutward_118 (o1 : t_Outline) (v2 : Int32) (s0 : Int32) (o0 : t_Piece) : Option (t_Piece) :=
  if (Piece_alongX o0) = 0 then
  (f_Piece_faceOutward_134 o1) v2 s0 s0 o0
else
  (f_Piece_faceOutward_134 o1) v2 s0 v2 o0
def f_Piece_faceOutward_101 (o1 : t_Outline) (v2 : Int32) (v3 : Int32) (o0 : t_Piece) : Option (t_Piece) :=
  if v3 = 0 then
  (f_Piece_faceOutward_118 o1) v2 (Piece_line o0) o0
else
  (f_Piece_faceOutward_118 o1) v2 ((Piece_line o0) - (1 : Int32)) o0
def f_Piece_faceOutward_98 (o1 : t_Outline) (v2 : Int32) (v3 : Int32) (s0 : Int32) (o0 : t_Piece) : Option (t_Piece) :=
  (f_Piece_faceOutward_101 o1) v2 v3 (Piece_u_outward o0 s0)
def f_Piece_faceOutward_75 (o1 : t_Outline) (v2 : Int32) (v3 : Int32) (s0 : Int32) (o0 : t_Piece) : Option (t_Piece) :=
  if v3 = s0 then
  (f_Piece_faceOutward_101 o1) v2 v3 (Piece_u_outward o0 (0 : Int32))
else
  if v3 = 0 then
    (f_Piece_faceOutward_98 o1) v2 v3 (-1 : Int32) (Piece_u_outward o0 (0 : Int32))
  else
    (f_Piece_faceOutward_98 o1) v2 v3 (1 : Int32) (Piece_u_outward o0 (0 : Int32))
def f_Piece_faceOutward_46 (o1 : t_Outline) (v2 : Int32) (s0 : Int32) (o0 : t_Piece) : Option (t_Piece) :=
  if (Piece_alongX o0) = 0 then
  (f_Outline_holds o1 (Piece_line o0) v2).bind fun c72 =>
    (f_Piece_faceOutward_75 o1) v2 s0 c72 o0
else
  (f_Outline_holds o1 v2 (Piece_line o0)).bind fun c60 =>
    (f_Piece_faceOutward_75 o1) v2 s0 c60 o0
def f_Piece_faceOutward (o1 : t_Outline) (o0 : t_Piece) : Option (t_Piece) :=
  if (Piece_alongX o0) = 0 then
  (f_Outline_holds o1 ((Piece_line o0) - (1 : Int32)) ((((Piece_low o0) + (Piece_high o0)) - (1 : Int32)) / (2 : Int32))).bind fun c43 =>
    (f_Piece_faceOutward_46 o1) ((((Piece_low o0) + (Piece_high o0)) - (1 : Int32)) / (2 : Int32)) c43 o0
else
  (f_Outline_holds o1 ((((Piece_low o0) + (Piece_high o0)) - (1 : Int32)) / (2 : Int32)) ((Piece_line o0) - (1 : Int32))).bind fun c29 =>
    (f_Piece_faceOutward_46 o1) ((((Piece_low o0) + (Piece_high o0)) - (1 : Int32)) / (2 : Int32)) c29 o0
set_option maxHeartbeats 4000000 in
set_option maxRecDepth 100000 in
theorem c_Piece_faceOutward (l : Launch) (X : xG) {H : Heap} (h0 : Nat) (o0 : t_Piece) (h1 a1_0 a1_1 : Nat) (o1 : t_Outline) {res : t_Piece} (hP0 : va_P X.1 vwCl (w_Piece X h0 o0) H) (hP1 : va_P X.1 vwCl (w_Outline X h1 a1_0 a1_1 o1) H) (hnd : [h0].Nodup) (hno1 : ∀ q ∈ [h1, a1_0, a1_1], ¬ xAl [h0] q) (hf : f_Piece_faceOutward o1 o0 = some res) : xM l y_Piece_faceOutward (Cond.code y_Piece_faceOutward prog_6_method_4_code 6 none :: xT) ({ frames := 2, cells := 0, slots := 0, locals := 47 } : Room) (xK X) [.ref h0, .ref h1] H (xAl [h0]) none (fun H1 => va_P X.1 vwCl (w_Piece X h0 res) H1) := by
  refine Met.ofW (cc := prog_6_method_4_code) (maxL := 6) (ret := none) (by decide) rfl ?_
  intro p e s m args below meth c s₁ B hml hv
  obtain ⟨ha, hH, hKK⟩ := hv
  subst hH
  have hx := B.exec
  have hb := B.bytes
  have hr := B.returns
  have ht : ∀ w ∈ xT, w.before args s = true := fun w h => atoms_spec (ws := (Cond.code y_Piece_faceOutward prog_6_method_4_code 6 none :: xT)) B.pre w (List.mem_cons_of_mem _ h)
  have hown : s.vm.findClass "MaskEdges$Piece" = some m.cls := findClass_of_methodNamed B.named
  have hlocks := B.notSynchronized
  have hK := hKK.1
  rw [show entryFrame m args 6 = entryFrame m ([.ref h0, .ref h1] : List Value).toArray 6 from by rw [ha]]
  clear ha
  have hP := hP0
  have hD : va_D (xAl [h0]) (w_Piece X h0 o0) := xDl rfl hnd
  have hS : va_S (xAl [h0]) s.heap s.heap [] := va_S.rf
  have hl := lv_entry ([.ref h0, .ref h1]) (n := 6) (Nat.le_of_ble_eq_true rfl)
  rw [lg_entry_eq]
  generalize (lg_sl ([.ref h0, .ref h1]) ++ List.replicate (6 - (lg_sl ([.ref h0, .ref h1])).length) Slot.unset).toArray = ls at hl ⊢
  replace hl : lv_has ls 6 [(0, .ref h0), (1, .ref h1)] := hl
  refine x_Q (fun Q hQ => ?_)
  have hL151 : ∀ (s0 : Int32) (o0 : t_Piece), ∀ (H : Heap) (locs : List Loc), va_P X.1 vwCl (w_Piece X h0 o0) H → va_S (xAl [h0]) s.heap H locs → ∀ (ls : Array Slot), lv_has ls 6 [] → f_Piece_faceOutward_151 o1 s0 o0 = some res → W p l e (headSpec (Cond.code y_Piece_faceOutward prog_6_method_4_code 6 none :: xT) ({ frames := 2, cells := 0, slots := 0, locals := 47 } : Room)).room s m args below meth c H locs 0 0 Q (F0 m 151 ls [.int s0, .ref h0]) := by
    intro s0 o0 H locs hP hS ls hl hf
    unfold f_Piece_faceOutward_151 at hf
    have hD : va_D (xAl [h0]) (w_Piece X h0 o0) := xDl rfl hnd
    refine va_put (D := X.1) (ci := 4) (v := .int s0) (ty := .int) (C := "MaskEdges$Piece") (T := F_Piece) (N := 12) hx hb ht in_Piece ty_Piece tyk_Piece nm_Piece hown hK hP hD hS 0 rfl rfl 10 (by decide) (ht _ xw_139) (fun _ h9 => h9) rfl (by decide +kernel) rfl rfl (Nat.le_of_ble_eq_true rfl) d_Piece_faceOutward_151 (fun H locs hP hD hS => ?_)
    replace hP : va_P X.1 vwCl (w_Piece X h0 (Piece_u_insideY o0 s0)) H := hP
    replace hD : va_D _ (w_Piece X h0 (Piece_u_insideY o0 s0)) := hD
    replace hf := x_s hf
    subst hf
    subst hQ
    exact W.vret hx hb hr (fun t ht hW => ⟨⟨rfl, by rw [ht]; exact hP⟩, hS.F ht⟩) hS.2.2 d_Piece_faceOutward_154
  have hL134 : ∀ (v2 : Int32) (v5 : Int32) (s0 : Int32) (o0 : t_Piece), ∀ (H : Heap) (locs : List Loc), va_P X.1 vwCl (w_Piece X h0 o0) H → va_S (xAl [h0]) s.heap H locs → ∀ (ls : Array Slot), lv_has ls 6 [(0, .ref h0), (2, .int v2), (5, .int v5)] → f_Piece_faceOutward_134 o1 v2 v5 s0 o0 = some res → W p l e (headSpec (Cond.code y_Piece_faceOutward prog_6_method_4_code 6 none :: xT) ({ frames := 2, cells := 0, slots := 0, locals := 47 } : Room)).room s m args below meth c H locs 0 0 Q (F0 m 134 ls [.int s0, .ref h0]) := by
    intro v2 v5 s0 o0 H locs hP hS ls hl hf
    unfold f_Piece_faceOutward_134 at hf
    have hD : va_D (xAl [h0]) (w_Piece X h0 o0) := xDl rfl hnd
    refine va_put (D := X.1) (ci := 4) (v := .int s0) (ty := .int) (C := "MaskEdges$Piece") (T := F_Piece) (N := 12) hx hb ht in_Piece ty_Piece tyk_Piece nm_Piece hown hK hP hD hS 0 rfl rfl 9 (by decide) (ht _ xw_137) (fun _ h9 => h9) rfl (by decide +kernel) rfl rfl (Nat.le_of_ble_eq_true rfl) d_Piece_faceOutward_134 (fun H locs hP hD hS => ?_)
    replace hP : va_P X.1 vwCl (w_Piece X h0 (Piece_u_insideX o0 s0)) H := hP
    replace hD : va_D _ (w_Piece X h0 (Piece_u_insideX o0 s0)) := hD
    refine lv_aload_n hx hb d_Piece_faceOutward_137 rfl (lv_at hl 0 rfl) ?_
    refine lv_aload_n hx hb d_Piece_faceOutward_138 rfl (lv_at hl 0 rfl) ?_
    refine va_get (D := X.1) (ci := 4) (v := .int (Piece_alongX (Piece_u_insideX o0 s0))) (C := "MaskEdges$Piece") (T := F_Piece) (N := 12) hx hb ht in_Piece hown hK hP 0 rfl rfl 0 (by decide) (ht _ xw_120) (fun _ h9 => h9) rfl d_Piece_faceOutward_139 ?_
    refine lv_if_eq (tgt := 150) hx hb d_Piece_faceOutward_142 (by decide) (fun hc => ?_) (fun hc => ?_)
    · replace hf := x_t hc hf
      refine lv_iload_n hx hb d_Piece_faceOutward_150 rfl (lv_at hl 1 rfl) ?_
      exact hL151 v2 (Piece_u_insideX o0 s0) _ _ hP hS ls (lv_sub hl [] rfl) hf
    · replace hf := x_f hc hf
      refine lv_iload hx hb d_Piece_faceOutward_145 (lv_at hl 2 rfl) ?_
      refine lv_goto (tgt := 151) hx hb d_Piece_faceOutward_147 (by decide) ?_
      exact hL151 v5 (Piece_u_insideX o0 s0) _ _ hP hS ls (lv_sub hl [] rfl) hf
  have hL118 : ∀ (v2 : Int32) (s0 : Int32) (o0 : t_Piece), ∀ (H : Heap) (locs : List Loc), va_P X.1 vwCl (w_Piece X h0 o0) H → va_S (xAl [h0]) s.heap H locs → ∀ (ls : Array Slot), lv_has ls 6 [(0, .ref h0), (2, .int v2)] → f_Piece_faceOutward_118 o1 v2 s0 o0 = some res → W p l e (headSpec (Cond.code y_Piece_faceOutward prog_6_method_4_code 6 none :: xT) ({ frames := 2, cells := 0, slots := 0, locals := 47 } : Room)).room s m args below meth c H locs 0 0 Q (F0 m 118 ls [.int s0]) := by
    intro v2 s0 o0 H locs hP hS ls hl hf
    unfold f_Piece_faceOutward_118 at hf
    have hD : va_D (xAl [h0]) (w_Piece X h0 o0) := xDl rfl hnd
    refine lv_istore (lv' := [(5, .int s0), (0, .ref h0), (2, .int v2)]) hx hb d_Piece_faceOutward_118 hl (by decide) rfl (fun ls hl => ?_)
    refine lv_aload_n hx hb d_Piece_faceOutward_120 rfl (lv_at hl 1 rfl) ?_
    refine lv_aload_n hx hb d_Piece_faceOutward_121 rfl (lv_at hl 1 rfl) ?_
    refine va_get (D := X.1) (ci := 4) (v := .int (Piece_alongX o0)) (C := "MaskEdges$Piece") (T := F_Piece) (N := 12) hx hb ht in_Piece hown hK hP 0 rfl rfl 0 (by decide) (ht _ xw_120) (fun _ h9 => h9) rfl d_Piece_faceOutward_122 ?_
    refine lv_if_eq (tgt := 132) hx hb d_Piece_faceOutward_125 (by decide) (fun hc => ?_) (fun hc => ?_)
    · replace hf := x_t hc hf
      refine lv_iload hx hb d_Piece_faceOutward_132 (lv_at hl 0 rfl) ?_
      exact hL134 v2 s0 s0 o0 _ _ hP hS ls (lv_sub hl [1, 2, 0] rfl) hf
    · replace hf := x_f hc hf
      refine lv_iload_n hx hb d_Piece_faceOutward_128 rfl (lv_at hl 2 rfl) ?_
      refine lv_goto (tgt := 134) hx hb d_Piece_faceOutward_129 (by decide) ?_
      exact hL134 v2 s0 v2 o0 _ _ hP hS ls (lv_sub hl [1, 2, 0] rfl) hf
  have hL101 : ∀ (v2 : Int32) (v3 : Int32) (o0 : t_Piece), ∀ (H : Heap) (locs : List Loc), va_P X.1 vwCl (w_Piece X h0 o0) H → va_S (xAl [h0]) s.heap H locs → ∀ (ls : Array Slot), lv_has ls 6 [(0, .ref h0), (2, .int v2), (3, .int v3)] → f_Piece_faceOutward_101 o1 v2 v3 o0 = some res → W p l e (headSpec (Cond.code y_Piece_faceOutward prog_6_method_4_code 6 none :: xT) ({ frames := 2, cells := 0, slots := 0, locals := 47 } : Room)).room s m args below meth c H locs 0 0 Q (F0 m 101 ls []) := by
    intro v2 v3 o0 H locs hP hS ls hl hf
    unfold f_Piece_faceOutward_101 at hf
    have hD : va_D (xAl [h0]) (w_Piece X h0 o0) := xDl rfl hnd
    refine lv_iload_n hx hb d_Piece_faceOutward_101 rfl (lv_at hl 2 rfl) ?_
    refine lv_if_eq (tgt := 114) hx hb d_Piece_faceOutward_102 (by decide) (fun hc => ?_) (fun hc => ?_)
    · replace hf := x_t hc hf
      refine lv_aload_n hx hb d_Piece_faceOutward_114 rfl (lv_at hl 0 rfl) ?_
      refine va_get (D := X.1) (ci := 4) (v := .int (Piece_line o0)) (C := "MaskEdges$Piece") (T := F_Piece) (N := 12) hx hb ht in_Piece hown hK hP 0 rfl rfl 1 (by decide) (ht _ xw_124) (fun _ h9 => h9) rfl d_Piece_faceOutward_115 ?_
      exact hL118 v2 (Piece_line o0) o0 _ _ hP hS ls (lv_sub hl [0, 1] rfl) hf
    · replace hf := x_f hc hf
      refine lv_aload_n hx hb d_Piece_faceOutward_105 rfl (lv_at hl 0 rfl) ?_
      refine va_get (D := X.1) (ci := 4) (v := .int (Piece_line o0)) (C := "MaskEdges$Piece") (T := F_Piece) (N := 12) hx hb ht in_Piece hown hK hP 0 rfl rfl 1 (by decide) (ht _ xw_124) (fun _ h9 => h9) rfl d_Piece_faceOutward_106 ?_
      refine lv_iconst (v := (1 : Int32)) hx hb d_Piece_faceOutward_109 (by decide) ?_
      refine lv_isub hx hb d_Piece_faceOutward_110 ?_
      refine lv_goto (tgt := 118) hx hb d_Piece_faceOutward_111 (by decide) ?_
      exact hL118 v2 ((Piece_line o0) - (1 : Int32)) o0 _ _ hP hS ls (lv_sub hl [0, 1] rfl) hf
  have hL98 : ∀ (v2 : Int32) (v3 : Int32) (s0 : Int32) (o0 : t_Piece), ∀ (H : Heap) (locs : List Loc), va_P X.1 vwCl (w_Piece X h0 o0) H → va_S (xAl [h0]) s.heap H locs → ∀ (ls : Array Slot), lv_has ls 6 [(0, .ref h0), (2, .int v2), (3, .int v3)] → f_Piece_faceOutward_98 o1 v2 v3 s0 o0 = some res → W p l e (headSpec (Cond.code y_Piece_faceOutward prog_6_method_4_code 6 none :: xT) ({ frames := 2, cells := 0, slots := 0, locals := 47 } : Room)).room s m args below meth c H locs 0 0 Q (F0 m 98 ls [.int s0, .ref h0]) := by
    intro v2 v3 s0 o0 H locs hP hS ls hl hf
    unfold f_Piece_faceOutward_98 at hf
    have hD : va_D (xAl [h0]) (w_Piece X h0 o0) := xDl rfl hnd
    refine va_put (D := X.1) (ci := 4) (v := .int s0) (ty := .int) (C := "MaskEdges$Piece") (T := F_Piece) (N := 12) hx hb ht in_Piece ty_Piece tyk_Piece nm_Piece hown hK hP hD hS 0 rfl rfl 8 (by decide) (ht _ xw_135) (fun _ h9 => h9) rfl (by decide +kernel) rfl rfl (Nat.le_of_ble_eq_true rfl) d_Piece_faceOutward_98 (fun H locs hP hD hS => ?_)
    replace hP : va_P X.1 vwCl (w_Piece X h0 (Piece_u_outward o0 s0)) H := hP
    replace hD : va_D _ (w_Piece X h0 (Piece_u_outward o0 s0)) := hD
    exact hL101 v2 v3 (Piece_u_outward o0 s0) _ _ hP hS ls (lv_sub hl [0, 1, 2] rfl) hf
  have hL75 : ∀ (v2 : Int32) (v3 : Int32) (s0 : Int32) (o0 : t_Piece), ∀ (H : Heap) (locs : List Loc), va_P X.1 vwCl (w_Piece X h0 o0) H → va_S (xAl [h0]) s.heap H locs → ∀ (ls : Array Slot), lv_has ls 6 [(0, .ref h0), (2, .int v2), (3, .int v3)] → f_Piece_faceOutward_75 o1 v2 v3 s0 o0 = some res → W p l e (headSpec (Cond.code y_Piece_faceOutward prog_6_method_4_code 6 none :: xT) ({ frames := 2, cells := 0, slots := 0, locals := 47 } : Room)).room s m args below meth c H locs 0 0 Q (F0 m 75 ls [.int s0]) := by
    intro v2 v3 s0 o0 H locs hP hS ls hl hf
    unfold f_Piece_faceOutward_75 at hf
    have hD : va_D (xAl [h0]) (w_Piece X h0 o0) := xDl rfl hnd
    refine lv_istore (lv' := [(4, .int s0), (0, .ref h0), (2, .int v2), (3, .int v3)]) hx hb d_Piece_faceOutward_75 hl (by decide) rfl (fun ls hl => ?_)
    refine lv_aload_n hx hb d_Piece_faceOutward_77 rfl (lv_at hl 1 rfl) ?_
    refine lv_iconst (v := (0 : Int32)) hx hb d_Piece_faceOutward_78 (by decide) ?_
    refine va_put (D := X.1) (ci := 4) (v := .int (0 : Int32)) (ty := .int) (C := "MaskEdges$Piece") (T := F_Piece) (N := 12) hx hb ht in_Piece ty_Piece tyk_Piece nm_Piece hown hK hP hD hS 0 rfl rfl 8 (by decide) (ht _ xw_135) (fun _ h9 => h9) rfl (by decide +kernel) rfl rfl (Nat.le_of_ble_eq_true rfl) d_Piece_faceOutward_79 (fun H locs hP hD hS => ?_)
    replace hP : va_P X.1 vwCl (w_Piece X h0 (Piece_u_outward o0 (0 : Int32))) H := hP
    replace hD : va_D _ (w_Piece X h0 (Piece_u_outward o0 (0 : Int32))) := hD
    refine lv_iload_n hx hb d_Piece_faceOutward_82 rfl (lv_at hl 3 rfl) ?_
    refine lv_iload hx hb d_Piece_faceOutward_83 (lv_at hl 0 rfl) ?_
    refine lv_icmp_eq (tgt := 101) hx hb d_Piece_faceOutward_85 (by decide) (fun hc => ?_) (fun hc => ?_)
    · replace hf := x_t hc hf
      exact hL101 v2 v3 (Piece_u_outward o0 (0 : Int32)) _ _ hP hS ls (lv_sub hl [1, 2, 3] rfl) hf
    · replace hf := x_f hc hf
      refine lv_aload_n hx hb d_Piece_faceOutward_88 rfl (lv_at hl 1 rfl) ?_
      refine lv_iload_n hx hb d_Piece_faceOutward_89 rfl (lv_at hl 3 rfl) ?_
      refine lv_if_eq (tgt := 97) hx hb d_Piece_faceOutward_90 (by decide) (fun hc => ?_) (fun hc => ?_)
      · replace hf := x_t hc hf
        refine lv_iconst (v := (-1 : Int32)) hx hb d_Piece_faceOutward_97 (by decide) ?_
        exact hL98 v2 v3 (-1 : Int32) (Piece_u_outward o0 (0 : Int32)) _ _ hP hS ls (lv_sub hl [1, 2, 3] rfl) hf
      · replace hf := x_f hc hf
        refine lv_iconst (v := (1 : Int32)) hx hb d_Piece_faceOutward_93 (by decide) ?_
        refine lv_goto (tgt := 98) hx hb d_Piece_faceOutward_94 (by decide) ?_
        exact hL98 v2 v3 (1 : Int32) (Piece_u_outward o0 (0 : Int32)) _ _ hP hS ls (lv_sub hl [1, 2, 3] rfl) hf
  have hL46 : ∀ (v2 : Int32) (s0 : Int32) (o0 : t_Piece), ∀ (H : Heap) (locs : List Loc), va_P X.1 vwCl (w_Piece X h0 o0) H → va_S (xAl [h0]) s.heap H locs → ∀ (ls : Array Slot), lv_has ls 6 [(0, .ref h0), (1, .ref h1), (2, .int v2)] → f_Piece_faceOutward_46 o1 v2 s0 o0 = some res → W p l e (headSpec (Cond.code y_Piece_faceOutward prog_6_method_4_code 6 none :: xT) ({ frames := 2, cells := 0, slots := 0, locals := 47 } : Room)).room s m args below meth c H locs 0 0 Q (F0 m 46 ls [.int s0]) := by
    intro v2 s0 o0 H locs hP hS ls hl hf
    unfold f_Piece_faceOutward_46 at hf
    have hD : va_D (xAl [h0]) (w_Piece X h0 o0) := xDl rfl hnd
    refine lv_istore_n (lv' := [(3, .int s0), (0, .ref h0), (1, .ref h1), (2, .int v2)]) hx hb d_Piece_faceOutward_46 rfl hl (by decide) rfl (fun ls hl => ?_)
    refine lv_aload_n hx hb d_Piece_faceOutward_47 rfl (lv_at hl 1 rfl) ?_
    refine va_get (D := X.1) (ci := 4) (v := .int (Piece_alongX o0)) (C := "MaskEdges$Piece") (T := F_Piece) (N := 12) hx hb ht in_Piece hown hK hP 0 rfl rfl 0 (by decide) (ht _ xw_120) (fun _ h9 => h9) rfl d_Piece_faceOutward_48 ?_
    refine lv_if_eq (tgt := 66) hx hb d_Piece_faceOutward_51 (by decide) (fun hc => ?_) (fun hc => ?_)
    · replace hf := x_t hc hf
      refine lv_aload_n hx hb d_Piece_faceOutward_66 rfl (lv_at hl 2 rfl) ?_
      refine lv_aload_n hx hb d_Piece_faceOutward_67 rfl (lv_at hl 1 rfl) ?_
      refine va_get (D := X.1) (ci := 4) (v := .int (Piece_line o0)) (C := "MaskEdges$Piece") (T := F_Piece) (N := 12) hx hb ht in_Piece hown hK hP 0 rfl rfl 1 (by decide) (ht _ xw_124) (fun _ h9 => h9) rfl d_Piece_faceOutward_68 ?_
      refine lv_iload_n hx hb d_Piece_faceOutward_71 rfl (lv_at hl 3 rfl) ?_
      obtain ⟨c72, e72, hf⟩ := x_b hf
      refine xcR (va_runV (As := [.int (Piece_line o0), .int v2]) (rest := []) ⟨hx, hb, hml, hown, ht⟩ (c_Outline_holds l X h1 a1_0 a1_1 o1 (Piece_line o0) v2 (xkept hP1 hno1 hS) e72) (cwV 2 ht (xgV xw_311 xw_211 xw_212 xw_41 xw_213) rfl rfl rfl (by decide +kernel) ⟨Nat.le_of_ble_eq_true rfl, Nat.le_of_ble_eq_true rfl⟩) (xPV hKK (va_recv hK (xkept hP1 hno1 hS) (ci := 3) (q0 := 0) rfl rfl)) rfl rfl hl.1 rfl (lv_room (Nat.le_of_ble_eq_true rfl)) d_Piece_faceOutward_72 ⟨Nat.zero_le _, Nat.zero_le _⟩) ?_
      refine W.eq (g2 := F0 m 75 ls [.int c72]) rfl ?_
      exact hL75 v2 s0 c72 o0 _ _ hP hS ls (lv_sub hl [1, 3, 0] rfl) hf
    · replace hf := x_f hc hf
      refine lv_aload_n hx hb d_Piece_faceOutward_54 rfl (lv_at hl 2 rfl) ?_
      refine lv_iload_n hx hb d_Piece_faceOutward_55 rfl (lv_at hl 3 rfl) ?_
      refine lv_aload_n hx hb d_Piece_faceOutward_56 rfl (lv_at hl 1 rfl) ?_
      refine va_get (D := X.1) (ci := 4) (v := .int (Piece_line o0)) (C := "MaskEdges$Piece") (T := F_Piece) (N := 12) hx hb ht in_Piece hown hK hP 0 rfl rfl 1 (by decide) (ht _ xw_124) (fun _ h9 => h9) rfl d_Piece_faceOutward_57 ?_
      obtain ⟨c60, e60, hf⟩ := x_b hf
      refine xcR (va_runV (As := [.int v2, .int (Piece_line o0)]) (rest := []) ⟨hx, hb, hml, hown, ht⟩ (c_Outline_holds l X h1 a1_0 a1_1 o1 v2 (Piece_line o0) (xkept hP1 hno1 hS) e60) (cwV 2 ht (xgV xw_311 xw_211 xw_212 xw_41 xw_213) rfl rfl rfl (by decide +kernel) ⟨Nat.le_of_ble_eq_true rfl, Nat.le_of_ble_eq_true rfl⟩) (xPV hKK (va_recv hK (xkept hP1 hno1 hS) (ci := 3) (q0 := 0) rfl rfl)) rfl rfl hl.1 rfl (lv_room (Nat.le_of_ble_eq_true rfl)) d_Piece_faceOutward_60 ⟨Nat.zero_le _, Nat.zero_le _⟩) ?_
      refine W.eq (g2 := F0 m 63 ls [.int c60]) rfl ?_
      refine lv_goto (tgt := 75) hx hb d_Piece_faceOutward_63 (by decide) ?_
      exact hL75 v2 s0 c60 o0 _ _ hP hS ls (lv_sub hl [1, 3, 0] rfl) hf
  unfold f_Piece_faceOutward at hf
  refine lv_aload_n hx hb d_Piece_faceOutward_0 rfl (lv_at hl 0 rfl) ?_
  refine va_get (D := X.1) (ci := 4) (v := .int (Piece_low o0)) (C := "MaskEdges$Piece") (T := F_Piece) (N := 12) hx hb ht in_Piece hown hK hP 0 rfl rfl 2 (by decide) (ht _ xw_125) (fun _ h9 => h9) rfl d_Piece_faceOutward_1 ?_
  refine lv_aload_n hx hb d_Piece_faceOutward_4 rfl (lv_at hl 0 rfl) ?_
  refine va_get (D := X.1) (ci := 4) (v := .int (Piece_high o0)) (C := "MaskEdges$Piece") (T := F_Piece) (N := 12) hx hb ht in_Piece hown hK hP 0 rfl rfl 3 (by decide) (ht _ xw_127) (fun _ h9 => h9) rfl d_Piece_faceOutward_5 ?_
  refine lv_iadd hx hb d_Piece_faceOutward_8 ?_
  refine lv_iconst (v := (1 : Int32)) hx hb d_Piece_faceOutward_9 (by decide) ?_
  refine lv_isub hx hb d_Piece_faceOutward_10 ?_
  refine lv_iconst (v := (2 : Int32)) hx hb d_Piece_faceOutward_11 (by decide) ?_
  refine lv_idiv hx hb d_Piece_faceOutward_12 (by decide) ?_
  refine lv_istore_n (lv' := [(2, .int ((((Piece_low o0) + (Piece_high o0)) - (1 : Int32)) / (2 : Int32))), (0, .ref h0), (1, .ref h1)]) hx hb d_Piece_faceOutward_13 rfl hl (by decide) rfl (fun ls hl => ?_)
  refine lv_aload_n hx hb d_Piece_faceOutward_14 rfl (lv_at hl 1 rfl) ?_
  refine va_get (D := X.1) (ci := 4) (v := .int (Piece_alongX o0)) (C := "MaskEdges$Piece") (T := F_Piece) (N := 12) hx hb ht in_Piece hown hK hP 0 rfl rfl 0 (by decide) (ht _ xw_120) (fun _ h9 => h9) rfl d_Piece_faceOutward_15 ?_
  refine lv_if_eq (tgt := 35) hx hb d_Piece_faceOutward_18 (by decide) (fun hc => ?_) (fun hc => ?_)
  · replace hf := x_t hc hf
    refine lv_aload_n hx hb d_Piece_faceOutward_35 rfl (lv_at hl 2 rfl) ?_
    refine lv_aload_n hx hb d_Piece_faceOutward_36 rfl (lv_at hl 1 rfl) ?_
    refine va_get (D := X.1) (ci := 4) (v := .int (Piece_line o0)) (C := "MaskEdges$Piece") (T := F_Piece) (N := 12) hx hb ht in_Piece hown hK hP 0 rfl rfl 1 (by decide) (ht _ xw_124) (fun _ h9 => h9) rfl d_Piece_faceOutward_37 ?_
    refine lv_iconst (v := (1 : Int32)) hx hb d_Piece_faceOutward_40 (by decide) ?_
    refine lv_isub hx hb d_Piece_faceOutward_41 ?_
    refine lv_iload_n hx hb d_Piece_faceOutward_42 rfl (lv_at hl 0 rfl) ?_
    obtain ⟨c43, e43, hf⟩ := x_b hf
    refine xcR (va_runV (As := [.int ((Piece_line o0) - (1 : Int32)), .int ((((Piece_low o0) + (Piece_high o0)) - (1 : Int32)) / (2 : Int32))]) (rest := []) ⟨hx, hb, hml, hown, ht⟩ (c_Outline_holds l X h1 a1_0 a1_1 o1 ((Piece_line o0) - (1 : Int32)) ((((Piece_low o0) + (Piece_high o0)) - (1 : Int32)) / (2 : Int32)) (xkept hP1 hno1 hS) e43) (cwV 2 ht (xgV xw_311 xw_211 xw_212 xw_41 xw_213) rfl rfl rfl (by decide +kernel) ⟨Nat.le_of_ble_eq_true rfl, Nat.le_of_ble_eq_true rfl⟩) (xPV hKK (va_recv hK (xkept hP1 hno1 hS) (ci := 3) (q0 := 0) rfl rfl)) rfl rfl hl.1 rfl (lv_room (Nat.le_of_ble_eq_true rfl)) d_Piece_faceOutward_43 ⟨Nat.zero_le _, Nat.zero_le _⟩) ?_
    refine W.eq (g2 := F0 m 46 ls [.int c43]) rfl ?_
    exact hL46 ((((Piece_low o0) + (Piece_high o0)) - (1 : Int32)) / (2 : Int32)) c43 o0 _ _ hP hS ls (lv_sub hl [1, 2, 0] rfl) hf
  · replace hf := x_f hc hf
    refine lv_aload_n hx hb d_Piece_faceOutward_21 rfl (lv_at hl 2 rfl) ?_
    refine lv_iload_n hx hb d_Piece_faceOutward_22 rfl (lv_at hl 0 rfl) ?_
    refine lv_aload_n hx hb d_Piece_faceOutward_23 rfl (lv_at hl 1 rfl) ?_
    refine va_get (D := X.1) (ci := 4) (v := .int (Piece_line o0)) (C := "MaskEdges$Piece") (T := F_Piece) (N := 12) hx hb ht in_Piece hown hK hP 0 rfl rfl 1 (by decide) (ht _ xw_124) (fun _ h9 => h9) rfl d_Piece_faceOutward_24 ?_
    refine lv_iconst (v := (1 : Int32)) hx hb d_Piece_faceOutward_27 (by decide) ?_
    refine lv_isub hx hb d_Piece_faceOutward_28 ?_
    obtain ⟨c29, e29, hf⟩ := x_b hf
    refine xcR (va_runV (As := [.int ((((Piece_low o0) + (Piece_high o0)) - (1 : Int32)) / (2 : Int32)), .int ((Piece_line o0) - (1 : Int32))]) (rest := []) ⟨hx, hb, hml, hown, ht⟩ (c_Outline_holds l X h1 a1_0 a1_1 o1 ((((Piece_low o0) + (Piece_high o0)) - (1 : Int32)) / (2 : Int32)) ((Piece_line o0) - (1 : Int32)) (xkept hP1 hno1 hS) e29) (cwV 2 ht (xgV xw_311 xw_211 xw_212 xw_41 xw_213) rfl rfl rfl (by decide +kernel) ⟨Nat.le_of_ble_eq_true rfl, Nat.le_of_ble_eq_true rfl⟩) (xPV hKK (va_recv hK (xkept hP1 hno1 hS) (ci := 3) (q0 := 0) rfl rfl)) rfl rfl hl.1 rfl (lv_room (Nat.le_of_ble_eq_true rfl)) d_Piece_faceOutward_29 ⟨Nat.zero_le _, Nat.zero_le _⟩) ?_
    refine W.eq (g2 := F0 m 32 ls [.int c29]) rfl ?_
    refine lv_goto (tgt := 46) hx hb d_Piece_faceOutward_32 (by decide) ?_
    exact hL46 ((((Piece_low o0) + (Piece_high o0)) - (1 : Int32)) / (2 : Int32)) c29 o0 _ _ hP hS ls (lv_sub hl [1, 2, 0] rfl) hf
def f_Piece_lieOn_98 (o1 : t_Outline) (v3 : Int32) (v4 : Int32) (v5 : Int32) (v6 : Int32) (s0 : Int32) (o0 : t_Piece) : Option (t_Piece) :=
  if xz s0 = true then
  (f_Piece_pointAt v5 v6 v3 v4).bind fun c113 =>
    (f_Piece_pointAt v5 v6 (v3 + (1 : Int32)) v4).bind fun c127 =>
    (f_Piece_faceOutward o1 (Piece_u_high (Piece_u_low (Piece_u_move (Piece_u_last o0 s0) (0 : Int32)) (if c127 < c113 then c127 else c113)) (if c113 < c127 then c127 else c113))).bind fun c156 =>
    some c156
else none
def f_Piece_lieOn_81 (o1 : t_Outline) (v3 : Int32) (v4 : Int32) (v5 : Int32) (v6 : Int32) (s0 : Int32) (o0 : t_Piece) : Option (t_Piece) :=
  if xz s0 = true then
  if v3 = (v4 - (1 : Int32)) then
    (f_Piece_lieOn_98 o1) v3 v4 v5 v6 (1 : Int32) (Piece_u_first o0 s0)
  else
    (f_Piece_lieOn_98 o1) v3 v4 v5 v6 (0 : Int32) (Piece_u_first o0 s0)
else none
def f_Piece_lieOn_46 (o1 : t_Outline) (v3 : Int32) (v4 : Int32) (v5 : Int32) (v6 : Int32) (s0 : Int32) (o0 : t_Piece) : Option (t_Piece) :=
  if v3 = 0 then
  (f_Piece_lieOn_81 o1) v3 v4 v5 v6 (1 : Int32) (Piece_u_sideHigh (Piece_u_sideLow (Piece_u_line o0 s0) (if v6 < v5 then v6 else v5)) (if v5 < v6 then v6 else v5))
else
  (f_Piece_lieOn_81 o1) v3 v4 v5 v6 (0 : Int32) (Piece_u_sideHigh (Piece_u_sideLow (Piece_u_line o0 s0) (if v6 < v5 then v6 else v5)) (if v5 < v6 then v6 else v5))
def f_Piece_lieOn (o1 : t_Outline) (v2 : Int32) (v3 : Int32) (v4 : Int32) (o0 : t_Piece) : Option (t_Piece) :=
  (f_Outline_sideStart o1 v2).bind fun c2 =>
  (f_Outline_sideEnd o1 v2).bind fun c9 =>
  (f_Outline_isAlongX o1 v2).bind fun c17 =>
  if xz c17 = true then
  if (Piece_alongX (Piece_u_alongX o0 c17)) = 0 then
    if xin v2 16 = true then
      (f_Piece_lieOn_46 o1) v3 v4 c2 c9 (Outline_xs o1 v2.toNatClampNeg) (Piece_u_alongX o0 c17)
    else none
  else
    if xin v2 16 = true then
      (f_Piece_lieOn_46 o1) v3 v4 c2 c9 (Outline_ys o1 v2.toNatClampNeg) (Piece_u_alongX o0 c17)
    else none
else none
set_option maxHeartbeats 4000000 in
set_option maxRecDepth 100000 in
theorem c_Piece_lieOn (l : Launch) (X : xG) {H : Heap} (h0 : Nat) (o0 : t_Piece) (h1 a1_0 a1_1 : Nat) (o1 : t_Outline) (v2 : Int32) (v3 : Int32) (v4 : Int32) {res : t_Piece} (hP0 : va_P X.1 vwCl (w_Piece X h0 o0) H) (hP1 : va_P X.1 vwCl (w_Outline X h1 a1_0 a1_1 o1) H) (hnd : [h0].Nodup) (hno1 : ∀ q ∈ [h1, a1_0, a1_1], ¬ xAl [h0] q) (hf : f_Piece_lieOn o1 v2 v3 v4 o0 = some res) : xM l y_Piece_lieOn (Cond.code y_Piece_lieOn prog_6_method_2_code 9 none :: xT) ({ frames := 3, cells := 0, slots := 0, locals := 72 } : Room) (xK X) [.ref h0, .ref h1, .int v2, .int v3, .int v4] H (xAl [h0]) none (fun H1 => va_P X.1 vwCl (w_Piece X h0 res) H1) := by
  refine Met.ofW (cc := prog_6_method_2_code) (maxL := 9) (ret := none) (by decide) rfl ?_
  intro p e s m args below meth c s₁ B hml hv
  obtain ⟨ha, hH, hKK⟩ := hv
  subst hH
  have hx := B.exec
  have hb := B.bytes
  have hr := B.returns
  have ht : ∀ w ∈ xT, w.before args s = true := fun w h => atoms_spec (ws := (Cond.code y_Piece_lieOn prog_6_method_2_code 9 none :: xT)) B.pre w (List.mem_cons_of_mem _ h)
  have hown : s.vm.findClass "MaskEdges$Piece" = some m.cls := findClass_of_methodNamed B.named
  have hlocks := B.notSynchronized
  have hK := hKK.1
  rw [show entryFrame m args 9 = entryFrame m ([.ref h0, .ref h1, .int v2, .int v3, .int v4] : List Value).toArray 9 from by rw [ha]]
  clear ha
  have hP := hP0
  have hD : va_D (xAl [h0]) (w_Piece X h0 o0) := xDl rfl hnd
  have hS : va_S (xAl [h0]) s.heap s.heap [] := va_S.rf
  have hl := lv_entry ([.ref h0, .ref h1, .int v2, .int v3, .int v4]) (n := 9) (Nat.le_of_ble_eq_true rfl)
  rw [lg_entry_eq]
  generalize (lg_sl ([.ref h0, .ref h1, .int v2, .int v3, .int v4]) ++ List.replicate (9 - (lg_sl ([.ref h0, .ref h1, .int v2, .int v3, .int v4])).length) Slot.unset).toArray = ls at hl ⊢
  replace hl : lv_has ls 9 [(0, .ref h0), (1, .ref h1), (2, .int v2), (3, .int v3), (4, .int v4)] := hl
  refine x_Q (fun Q hQ => ?_)
  have hL98 : ∀ (v3 : Int32) (v4 : Int32) (v5 : Int32) (v6 : Int32) (s0 : Int32) (o0 : t_Piece), ∀ (H : Heap) (locs : List Loc), va_P X.1 vwCl (w_Piece X h0 o0) H → va_S (xAl [h0]) s.heap H locs → ∀ (ls : Array Slot), lv_has ls 9 [(0, .ref h0), (1, .ref h1), (3, .int v3), (4, .int v4), (5, .int v5), (6, .int v6)] → f_Piece_lieOn_98 o1 v3 v4 v5 v6 s0 o0 = some res → W p l e (headSpec (Cond.code y_Piece_lieOn prog_6_method_2_code 9 none :: xT) ({ frames := 3, cells := 0, slots := 0, locals := 72 } : Room)).room s m args below meth c H locs 0 0 Q (F0 m 98 ls [.int s0, .ref h0]) := by
    intro v3 v4 v5 v6 s0 o0 H locs hP hS ls hl hf
    unfold f_Piece_lieOn_98 at hf
    have hD : va_D (xAl [h0]) (w_Piece X h0 o0) := xDl rfl hnd
    obtain ⟨z98, hf⟩ := x_g hf
    refine va_put (D := X.1) (ci := 4) (v := .int s0) (ty := .boolean) (C := "MaskEdges$Piece") (T := F_Piece) (N := 12) hx hb ht in_Piece ty_Piece tyk_Piece nm_Piece hown hK hP hD hS 0 rfl rfl 7 (by decide) (ht _ xw_134) (fun _ h9 => h9) rfl (by decide +kernel) (xz_n z98) (xz_f z98) (Nat.le_of_ble_eq_true rfl) d_Piece_lieOn_98 (fun H locs hP hD hS => ?_)
    replace hP : va_P X.1 vwCl (w_Piece X h0 (Piece_u_last o0 s0)) H := hP
    replace hD : va_D _ (w_Piece X h0 (Piece_u_last o0 s0)) := hD
    refine lv_aload_n hx hb d_Piece_lieOn_101 rfl (lv_at hl 0 rfl) ?_
    refine lv_iconst (v := (0 : Int32)) hx hb d_Piece_lieOn_102 (by decide) ?_
    refine va_put (D := X.1) (ci := 4) (v := .int (0 : Int32)) (ty := .int) (C := "MaskEdges$Piece") (T := F_Piece) (N := 12) hx hb ht in_Piece ty_Piece tyk_Piece nm_Piece hown hK hP hD hS 0 rfl rfl 11 (by decide) (ht _ xw_141) (fun _ h9 => h9) rfl (by decide +kernel) rfl rfl (Nat.le_of_ble_eq_true rfl) d_Piece_lieOn_103 (fun H locs hP hD hS => ?_)
    replace hP : va_P X.1 vwCl (w_Piece X h0 (Piece_u_move (Piece_u_last o0 s0) (0 : Int32))) H := hP
    replace hD : va_D _ (w_Piece X h0 (Piece_u_move (Piece_u_last o0 s0) (0 : Int32))) := hD
    refine lv_iload hx hb d_Piece_lieOn_106 (lv_at hl 4 rfl) ?_
    refine lv_iload hx hb d_Piece_lieOn_108 (lv_at hl 5 rfl) ?_
    refine lv_iload_n hx hb d_Piece_lieOn_110 rfl (lv_at hl 2 rfl) ?_
    refine lv_iload hx hb d_Piece_lieOn_111 (lv_at hl 3 rfl) ?_
    obtain ⟨c113, e113, hf⟩ := x_b hf
    refine xcR (va_runS (As := [.int v5, .int v6, .int v3, .int v4]) (rest := []) ⟨hx, hb, hml, hown, ht⟩ (c_Piece_pointAt l X v5 v6 v3 v4 e113) (cwS 4 ht (xgS xw_304 xw_305 xw_42 xw_306) rfl rfl rfl (by decide +kernel) ⟨Nat.le_of_ble_eq_true rfl, Nat.le_of_ble_eq_true rfl⟩) (xPS hKK) rfl rfl hl.1 rfl (lv_room (Nat.le_of_ble_eq_true rfl)) d_Piece_lieOn_113 ⟨Nat.zero_le _, Nat.zero_le _⟩) ?_
    refine W.eq (g2 := F0 m 116 ls [.int c113]) rfl ?_
    refine lv_istore (lv' := [(7, .int c113), (0, .ref h0), (1, .ref h1), (3, .int v3), (4, .int v4), (5, .int v5), (6, .int v6)]) hx hb d_Piece_lieOn_116 hl (by decide) rfl (fun ls hl => ?_)
    refine lv_iload hx hb d_Piece_lieOn_118 (lv_at hl 5 rfl) ?_
    refine lv_iload hx hb d_Piece_lieOn_120 (lv_at hl 6 rfl) ?_
    refine lv_iload_n hx hb d_Piece_lieOn_122 rfl (lv_at hl 3 rfl) ?_
    refine lv_iconst (v := (1 : Int32)) hx hb d_Piece_lieOn_123 (by decide) ?_
    refine lv_iadd hx hb d_Piece_lieOn_124 ?_
    refine lv_iload hx hb d_Piece_lieOn_125 (lv_at hl 4 rfl) ?_
    obtain ⟨c127, e127, hf⟩ := x_b hf
    refine xcR (va_runS (As := [.int v5, .int v6, .int (v3 + (1 : Int32)), .int v4]) (rest := []) ⟨hx, hb, hml, hown, ht⟩ (c_Piece_pointAt l X v5 v6 (v3 + (1 : Int32)) v4 e127) (cwS 4 ht (xgS xw_304 xw_305 xw_42 xw_306) rfl rfl rfl (by decide +kernel) ⟨Nat.le_of_ble_eq_true rfl, Nat.le_of_ble_eq_true rfl⟩) (xPS hKK) rfl rfl hl.1 rfl (lv_room (Nat.le_of_ble_eq_true rfl)) d_Piece_lieOn_127 ⟨Nat.zero_le _, Nat.zero_le _⟩) ?_
    refine W.eq (g2 := F0 m 130 ls [.int c127]) rfl ?_
    refine lv_istore (lv' := [(8, .int c127), (7, .int c113), (0, .ref h0), (1, .ref h1), (3, .int v3), (4, .int v4), (5, .int v5), (6, .int v6)]) hx hb d_Piece_lieOn_130 hl (by decide) rfl (fun ls hl => ?_)
    refine lv_aload_n hx hb d_Piece_lieOn_132 rfl (lv_at hl 2 rfl) ?_
    refine lv_iload hx hb d_Piece_lieOn_133 (lv_at hl 1 rfl) ?_
    refine lv_iload hx hb d_Piece_lieOn_135 (lv_at hl 0 rfl) ?_
    refine va_mmin hx hb (hml.trans hl.1.symm) hown (ht _ xw_302) (ht _ xw_215) (ht _ xw_44) (ht _ xw_math_min) (Nat.le_of_ble_eq_true rfl) (Nat.le_of_ble_eq_true rfl) (Nat.zero_le _) (Nat.zero_le _) d_Piece_lieOn_137 ?_
    refine va_put (D := X.1) (ci := 4) (v := .int (if c127 < c113 then c127 else c113)) (ty := .int) (C := "MaskEdges$Piece") (T := F_Piece) (N := 12) hx hb ht in_Piece ty_Piece tyk_Piece nm_Piece hown hK hP hD hS 0 rfl rfl 2 (by decide) (ht _ xw_125) (fun _ h9 => h9) rfl (by decide +kernel) rfl rfl (Nat.le_of_ble_eq_true rfl) d_Piece_lieOn_140 (fun H locs hP hD hS => ?_)
    replace hP : va_P X.1 vwCl (w_Piece X h0 (Piece_u_low (Piece_u_move (Piece_u_last o0 s0) (0 : Int32)) (if c127 < c113 then c127 else c113))) H := hP
    replace hD : va_D _ (w_Piece X h0 (Piece_u_low (Piece_u_move (Piece_u_last o0 s0) (0 : Int32)) (if c127 < c113 then c127 else c113))) := hD
    refine lv_aload_n hx hb d_Piece_lieOn_143 rfl (lv_at hl 2 rfl) ?_
    refine lv_iload hx hb d_Piece_lieOn_144 (lv_at hl 1 rfl) ?_
    refine lv_iload hx hb d_Piece_lieOn_146 (lv_at hl 0 rfl) ?_
    refine va_mmax hx hb (hml.trans hl.1.symm) hown (ht _ xw_303) (ht _ xw_218) (ht _ xw_44) (ht _ xw_math_max) (Nat.le_of_ble_eq_true rfl) (Nat.le_of_ble_eq_true rfl) (Nat.zero_le _) (Nat.zero_le _) d_Piece_lieOn_148 ?_
    refine va_put (D := X.1) (ci := 4) (v := .int (if c113 < c127 then c127 else c113)) (ty := .int) (C := "MaskEdges$Piece") (T := F_Piece) (N := 12) hx hb ht in_Piece ty_Piece tyk_Piece nm_Piece hown hK hP hD hS 0 rfl rfl 3 (by decide) (ht _ xw_127) (fun _ h9 => h9) rfl (by decide +kernel) rfl rfl (Nat.le_of_ble_eq_true rfl) d_Piece_lieOn_151 (fun H locs hP hD hS => ?_)
    replace hP : va_P X.1 vwCl (w_Piece X h0 (Piece_u_high (Piece_u_low (Piece_u_move (Piece_u_last o0 s0) (0 : Int32)) (if c127 < c113 then c127 else c113)) (if c113 < c127 then c127 else c113))) H := hP
    replace hD : va_D _ (w_Piece X h0 (Piece_u_high (Piece_u_low (Piece_u_move (Piece_u_last o0 s0) (0 : Int32)) (if c127 < c113 then c127 else c113)) (if c113 < c127 then c127 else c113))) := hD
    refine lv_aload_n hx hb d_Piece_lieOn_154 rfl (lv_at hl 2 rfl) ?_
    refine lv_aload_n hx hb d_Piece_lieOn_155 rfl (lv_at hl 3 rfl) ?_
    obtain ⟨c156, e156, hf⟩ := x_b hf
    refine xc (va_runV (As := [.ref h1]) (rest := []) ⟨hx, hb, hml, hown, ht⟩ (c_Piece_faceOutward l X h0 (Piece_u_high (Piece_u_low (Piece_u_move (Piece_u_last o0 s0) (0 : Int32)) (if c127 < c113 then c127 else c113)) (if c113 < c127 then c127 else c113)) h1 a1_0 a1_1 o1 hP (xkept hP1 hno1 hS) hnd hno1 e156) (cwV 1 ht (xgV xw_308 xw_309 xw_6 xw_42 xw_310) rfl rfl rfl (by decide +kernel) ⟨Nat.le_of_ble_eq_true rfl, Nat.le_of_ble_eq_true rfl⟩) (xPV hKK (va_recv hK hP (ci := 4) (q0 := 0) rfl rfl)) rfl rfl hl.1 rfl (lv_room (Nat.le_of_ble_eq_true rfl)) d_Piece_lieOn_156 ⟨Nat.zero_le _, Nat.zero_le _⟩) (fun H1 L hq hz => ?_)
    replace hS := xS_call hS hz (fun _ h => h)
    replace hP : va_P X.1 vwCl (w_Piece X h0 c156) H1 := hq
    replace hD : va_D _ (w_Piece X h0 c156) := xDl rfl hnd
    clear hq hz
    refine W.eq (g2 := F0 m 159 ls []) rfl ?_
    replace hf := x_s hf
    subst hf
    subst hQ
    exact W.vret hx hb hr (fun t ht hW => ⟨⟨rfl, by rw [ht]; exact hP⟩, hS.F ht⟩) hS.2.2 d_Piece_lieOn_159
  have hL81 : ∀ (v3 : Int32) (v4 : Int32) (v5 : Int32) (v6 : Int32) (s0 : Int32) (o0 : t_Piece), ∀ (H : Heap) (locs : List Loc), va_P X.1 vwCl (w_Piece X h0 o0) H → va_S (xAl [h0]) s.heap H locs → ∀ (ls : Array Slot), lv_has ls 9 [(0, .ref h0), (1, .ref h1), (3, .int v3), (4, .int v4), (5, .int v5), (6, .int v6)] → f_Piece_lieOn_81 o1 v3 v4 v5 v6 s0 o0 = some res → W p l e (headSpec (Cond.code y_Piece_lieOn prog_6_method_2_code 9 none :: xT) ({ frames := 3, cells := 0, slots := 0, locals := 72 } : Room)).room s m args below meth c H locs 0 0 Q (F0 m 81 ls [.int s0, .ref h0]) := by
    intro v3 v4 v5 v6 s0 o0 H locs hP hS ls hl hf
    unfold f_Piece_lieOn_81 at hf
    have hD : va_D (xAl [h0]) (w_Piece X h0 o0) := xDl rfl hnd
    obtain ⟨z81, hf⟩ := x_g hf
    refine va_put (D := X.1) (ci := 4) (v := .int s0) (ty := .boolean) (C := "MaskEdges$Piece") (T := F_Piece) (N := 12) hx hb ht in_Piece ty_Piece tyk_Piece nm_Piece hown hK hP hD hS 0 rfl rfl 6 (by decide) (ht _ xw_133) (fun _ h9 => h9) rfl (by decide +kernel) (xz_n z81) (xz_f z81) (Nat.le_of_ble_eq_true rfl) d_Piece_lieOn_81 (fun H locs hP hD hS => ?_)
    replace hP : va_P X.1 vwCl (w_Piece X h0 (Piece_u_first o0 s0)) H := hP
    replace hD : va_D _ (w_Piece X h0 (Piece_u_first o0 s0)) := hD
    refine lv_aload_n hx hb d_Piece_lieOn_84 rfl (lv_at hl 0 rfl) ?_
    refine lv_iload_n hx hb d_Piece_lieOn_85 rfl (lv_at hl 2 rfl) ?_
    refine lv_iload hx hb d_Piece_lieOn_86 (lv_at hl 3 rfl) ?_
    refine lv_iconst (v := (1 : Int32)) hx hb d_Piece_lieOn_88 (by decide) ?_
    refine lv_isub hx hb d_Piece_lieOn_89 ?_
    refine lv_icmp_ne (tgt := 97) hx hb d_Piece_lieOn_90 (by decide) (fun hc => ?_) (fun hc => ?_)
    · replace hf := x_f hc hf
      refine lv_iconst (v := (0 : Int32)) hx hb d_Piece_lieOn_97 (by decide) ?_
      exact hL98 v3 v4 v5 v6 (0 : Int32) (Piece_u_first o0 s0) _ _ hP hS ls (lv_sub hl [0, 1, 2, 3, 4, 5] rfl) hf
    · replace hf := x_t hc hf
      refine lv_iconst (v := (1 : Int32)) hx hb d_Piece_lieOn_93 (by decide) ?_
      refine lv_goto (tgt := 98) hx hb d_Piece_lieOn_94 (by decide) ?_
      exact hL98 v3 v4 v5 v6 (1 : Int32) (Piece_u_first o0 s0) _ _ hP hS ls (lv_sub hl [0, 1, 2, 3, 4, 5] rfl) hf
  have hL46 : ∀ (v3 : Int32) (v4 : Int32) (v5 : Int32) (v6 : Int32) (s0 : Int32) (o0 : t_Piece), ∀ (H : Heap) (locs : List Loc), va_P X.1 vwCl (w_Piece X h0 o0) H → va_S (xAl [h0]) s.heap H locs → ∀ (ls : Array Slot), lv_has ls 9 [(0, .ref h0), (1, .ref h1), (3, .int v3), (4, .int v4), (5, .int v5), (6, .int v6)] → f_Piece_lieOn_46 o1 v3 v4 v5 v6 s0 o0 = some res → W p l e (headSpec (Cond.code y_Piece_lieOn prog_6_method_2_code 9 none :: xT) ({ frames := 3, cells := 0, slots := 0, locals := 72 } : Room)).room s m args below meth c H locs 0 0 Q (F0 m 46 ls [.int s0, .ref h0]) := by
    intro v3 v4 v5 v6 s0 o0 H locs hP hS ls hl hf
    unfold f_Piece_lieOn_46 at hf
    have hD : va_D (xAl [h0]) (w_Piece X h0 o0) := xDl rfl hnd
    refine va_put (D := X.1) (ci := 4) (v := .int s0) (ty := .int) (C := "MaskEdges$Piece") (T := F_Piece) (N := 12) hx hb ht in_Piece ty_Piece tyk_Piece nm_Piece hown hK hP hD hS 0 rfl rfl 1 (by decide) (ht _ xw_124) (fun _ h9 => h9) rfl (by decide +kernel) rfl rfl (Nat.le_of_ble_eq_true rfl) d_Piece_lieOn_46 (fun H locs hP hD hS => ?_)
    replace hP : va_P X.1 vwCl (w_Piece X h0 (Piece_u_line o0 s0)) H := hP
    replace hD : va_D _ (w_Piece X h0 (Piece_u_line o0 s0)) := hD
    refine lv_aload_n hx hb d_Piece_lieOn_49 rfl (lv_at hl 0 rfl) ?_
    refine lv_iload hx hb d_Piece_lieOn_50 (lv_at hl 4 rfl) ?_
    refine lv_iload hx hb d_Piece_lieOn_52 (lv_at hl 5 rfl) ?_
    refine va_mmin hx hb (hml.trans hl.1.symm) hown (ht _ xw_302) (ht _ xw_215) (ht _ xw_44) (ht _ xw_math_min) (Nat.le_of_ble_eq_true rfl) (Nat.le_of_ble_eq_true rfl) (Nat.zero_le _) (Nat.zero_le _) d_Piece_lieOn_54 ?_
    refine va_put (D := X.1) (ci := 4) (v := .int (if v6 < v5 then v6 else v5)) (ty := .int) (C := "MaskEdges$Piece") (T := F_Piece) (N := 12) hx hb ht in_Piece ty_Piece tyk_Piece nm_Piece hown hK hP hD hS 0 rfl rfl 4 (by decide) (ht _ xw_129) (fun _ h9 => h9) rfl (by decide +kernel) rfl rfl (Nat.le_of_ble_eq_true rfl) d_Piece_lieOn_57 (fun H locs hP hD hS => ?_)
    replace hP : va_P X.1 vwCl (w_Piece X h0 (Piece_u_sideLow (Piece_u_line o0 s0) (if v6 < v5 then v6 else v5))) H := hP
    replace hD : va_D _ (w_Piece X h0 (Piece_u_sideLow (Piece_u_line o0 s0) (if v6 < v5 then v6 else v5))) := hD
    refine lv_aload_n hx hb d_Piece_lieOn_60 rfl (lv_at hl 0 rfl) ?_
    refine lv_iload hx hb d_Piece_lieOn_61 (lv_at hl 4 rfl) ?_
    refine lv_iload hx hb d_Piece_lieOn_63 (lv_at hl 5 rfl) ?_
    refine va_mmax hx hb (hml.trans hl.1.symm) hown (ht _ xw_303) (ht _ xw_218) (ht _ xw_44) (ht _ xw_math_max) (Nat.le_of_ble_eq_true rfl) (Nat.le_of_ble_eq_true rfl) (Nat.zero_le _) (Nat.zero_le _) d_Piece_lieOn_65 ?_
    refine va_put (D := X.1) (ci := 4) (v := .int (if v5 < v6 then v6 else v5)) (ty := .int) (C := "MaskEdges$Piece") (T := F_Piece) (N := 12) hx hb ht in_Piece ty_Piece tyk_Piece nm_Piece hown hK hP hD hS 0 rfl rfl 5 (by decide) (ht _ xw_131) (fun _ h9 => h9) rfl (by decide +kernel) rfl rfl (Nat.le_of_ble_eq_true rfl) d_Piece_lieOn_68 (fun H locs hP hD hS => ?_)
    replace hP : va_P X.1 vwCl (w_Piece X h0 (Piece_u_sideHigh (Piece_u_sideLow (Piece_u_line o0 s0) (if v6 < v5 then v6 else v5)) (if v5 < v6 then v6 else v5))) H := hP
    replace hD : va_D _ (w_Piece X h0 (Piece_u_sideHigh (Piece_u_sideLow (Piece_u_line o0 s0) (if v6 < v5 then v6 else v5)) (if v5 < v6 then v6 else v5))) := hD
    refine lv_aload_n hx hb d_Piece_lieOn_71 rfl (lv_at hl 0 rfl) ?_
    refine lv_iload_n hx hb d_Piece_lieOn_72 rfl (lv_at hl 2 rfl) ?_
    refine lv_if_ne (tgt := 80) hx hb d_Piece_lieOn_73 (by decide) (fun hc => ?_) (fun hc => ?_)
    · replace hf := x_f hc hf
      refine lv_iconst (v := (0 : Int32)) hx hb d_Piece_lieOn_80 (by decide) ?_
      exact hL81 v3 v4 v5 v6 (0 : Int32) (Piece_u_sideHigh (Piece_u_sideLow (Piece_u_line o0 s0) (if v6 < v5 then v6 else v5)) (if v5 < v6 then v6 else v5)) _ _ hP hS ls (lv_sub hl [0, 1, 2, 3, 4, 5] rfl) hf
    · replace hf := x_t hc hf
      refine lv_iconst (v := (1 : Int32)) hx hb d_Piece_lieOn_76 (by decide) ?_
      refine lv_goto (tgt := 81) hx hb d_Piece_lieOn_77 (by decide) ?_
      exact hL81 v3 v4 v5 v6 (1 : Int32) (Piece_u_sideHigh (Piece_u_sideLow (Piece_u_line o0 s0) (if v6 < v5 then v6 else v5)) (if v5 < v6 then v6 else v5)) _ _ hP hS ls (lv_sub hl [0, 1, 2, 3, 4, 5] rfl) hf
  unfold f_Piece_lieOn at hf
  refine lv_aload_n hx hb d_Piece_lieOn_0 rfl (lv_at hl 1 rfl) ?_
  refine lv_iload_n hx hb d_Piece_lieOn_1 rfl (lv_at hl 2 rfl) ?_
  obtain ⟨c2, e2, hf⟩ := x_b hf
  refine xcR (va_runV (As := [.int v2]) (rest := []) ⟨hx, hb, hml, hown, ht⟩ (c_Outline_sideStart l X h1 a1_0 a1_1 o1 v2 (xkept hP1 hno1 hS) e2) (cwV 1 ht (xgV xw_299 xw_286 xw_287 xw_41 xw_288) rfl rfl rfl (by decide +kernel) ⟨Nat.le_of_ble_eq_true rfl, Nat.le_of_ble_eq_true rfl⟩) (xPV hKK (va_recv hK (xkept hP1 hno1 hS) (ci := 3) (q0 := 0) rfl rfl)) rfl rfl hl.1 rfl (lv_room (Nat.le_of_ble_eq_true rfl)) d_Piece_lieOn_2 ⟨Nat.zero_le _, Nat.zero_le _⟩) ?_
  refine W.eq (g2 := F0 m 5 ls [.int c2]) rfl ?_
  refine lv_istore (lv' := [(5, .int c2), (0, .ref h0), (1, .ref h1), (2, .int v2), (3, .int v3), (4, .int v4)]) hx hb d_Piece_lieOn_5 hl (by decide) rfl (fun ls hl => ?_)
  refine lv_aload_n hx hb d_Piece_lieOn_7 rfl (lv_at hl 2 rfl) ?_
  refine lv_iload_n hx hb d_Piece_lieOn_8 rfl (lv_at hl 3 rfl) ?_
  obtain ⟨c9, e9, hf⟩ := x_b hf
  refine xcR (va_runV (As := [.int v2]) (rest := []) ⟨hx, hb, hml, hown, ht⟩ (c_Outline_sideEnd l X h1 a1_0 a1_1 o1 v2 (xkept hP1 hno1 hS) e9) (cwV 1 ht (xgV xw_300 xw_282 xw_283 xw_41 xw_284) rfl rfl rfl (by decide +kernel) ⟨Nat.le_of_ble_eq_true rfl, Nat.le_of_ble_eq_true rfl⟩) (xPV hKK (va_recv hK (xkept hP1 hno1 hS) (ci := 3) (q0 := 0) rfl rfl)) rfl rfl hl.1 rfl (lv_room (Nat.le_of_ble_eq_true rfl)) d_Piece_lieOn_9 ⟨Nat.zero_le _, Nat.zero_le _⟩) ?_
  refine W.eq (g2 := F0 m 12 ls [.int c9]) rfl ?_
  refine lv_istore (lv' := [(6, .int c9), (5, .int c2), (0, .ref h0), (1, .ref h1), (2, .int v2), (3, .int v3), (4, .int v4)]) hx hb d_Piece_lieOn_12 hl (by decide) rfl (fun ls hl => ?_)
  refine lv_aload_n hx hb d_Piece_lieOn_14 rfl (lv_at hl 2 rfl) ?_
  refine lv_aload_n hx hb d_Piece_lieOn_15 rfl (lv_at hl 3 rfl) ?_
  refine lv_iload_n hx hb d_Piece_lieOn_16 rfl (lv_at hl 4 rfl) ?_
  obtain ⟨c17, e17, hf⟩ := x_b hf
  refine xcR (va_runV (As := [.int v2]) (rest := [.ref h0]) ⟨hx, hb, hml, hown, ht⟩ (c_Outline_isAlongX l X h1 a1_0 a1_1 o1 v2 (xkept hP1 hno1 hS) e17) (cwV 1 ht (xgV xw_301 xw_200 xw_201 xw_41 xw_202) rfl rfl rfl (by decide +kernel) ⟨Nat.le_of_ble_eq_true rfl, Nat.le_of_ble_eq_true rfl⟩) (xPV hKK (va_recv hK (xkept hP1 hno1 hS) (ci := 3) (q0 := 0) rfl rfl)) rfl rfl hl.1 rfl (lv_room (Nat.le_of_ble_eq_true rfl)) d_Piece_lieOn_17 ⟨Nat.zero_le _, Nat.zero_le _⟩) ?_
  refine W.eq (g2 := F0 m 20 ls [.int c17, .ref h0]) rfl ?_
  obtain ⟨z20, hf⟩ := x_g hf
  refine va_put (D := X.1) (ci := 4) (v := .int c17) (ty := .boolean) (C := "MaskEdges$Piece") (T := F_Piece) (N := 12) hx hb ht in_Piece ty_Piece tyk_Piece nm_Piece hown hK hP hD hS 0 rfl rfl 0 (by decide) (ht _ xw_120) (fun _ h9 => h9) rfl (by decide +kernel) (xz_n z20) (xz_f z20) (Nat.le_of_ble_eq_true rfl) d_Piece_lieOn_20 (fun H locs hP hD hS => ?_)
  replace hP : va_P X.1 vwCl (w_Piece X h0 (Piece_u_alongX o0 c17)) H := hP
  replace hD : va_D _ (w_Piece X h0 (Piece_u_alongX o0 c17)) := hD
  refine lv_aload_n hx hb d_Piece_lieOn_23 rfl (lv_at hl 2 rfl) ?_
  refine lv_aload_n hx hb d_Piece_lieOn_24 rfl (lv_at hl 2 rfl) ?_
  refine va_get (D := X.1) (ci := 4) (v := .int (Piece_alongX (Piece_u_alongX o0 c17))) (C := "MaskEdges$Piece") (T := F_Piece) (N := 12) hx hb ht in_Piece hown hK hP 0 rfl rfl 0 (by decide) (ht _ xw_120) (fun _ h9 => h9) rfl d_Piece_lieOn_25 ?_
  refine lv_if_eq (tgt := 40) hx hb d_Piece_lieOn_28 (by decide) (fun hc => ?_) (fun hc => ?_)
  · replace hf := x_t hc hf
    refine lv_aload_n hx hb d_Piece_lieOn_40 rfl (lv_at hl 3 rfl) ?_
    refine va_get (D := X.1) (ci := 3) (v := .ref a1_0) (C := "MaskEdges$Outline") (T := F_Outline) (N := 4) hx hb ht in_Outline hown hK (xkept hP1 hno1 hS) 0 rfl rfl 0 (by decide) (ht _ xw_105) (fun _ h9 => h9) rfl d_Piece_lieOn_41 ?_
    refine lv_iload_n hx hb d_Piece_lieOn_44 rfl (lv_at hl 4 rfl) ?_
    obtain ⟨g45, hf⟩ := x_g hf
    refine va_iald hx hb hK (xkept hP1 hno1 hS) 1 0 rfl rfl (xin_in g45) d_Piece_lieOn_45 ?_
    exact hL46 v3 v4 c2 c9 (Outline_xs o1 v2.toNatClampNeg) (Piece_u_alongX o0 c17) _ _ hP hS ls (lv_sub hl [2, 3, 5, 6, 1, 0] rfl) hf
  · replace hf := x_f hc hf
    refine lv_aload_n hx hb d_Piece_lieOn_31 rfl (lv_at hl 3 rfl) ?_
    refine va_get (D := X.1) (ci := 3) (v := .ref a1_1) (C := "MaskEdges$Outline") (T := F_Outline) (N := 4) hx hb ht in_Outline hown hK (xkept hP1 hno1 hS) 0 rfl rfl 1 (by decide) (ht _ xw_107) (fun _ h9 => h9) rfl d_Piece_lieOn_32 ?_
    refine lv_iload_n hx hb d_Piece_lieOn_35 rfl (lv_at hl 4 rfl) ?_
    obtain ⟨g36, hf⟩ := x_g hf
    refine va_iald hx hb hK (xkept hP1 hno1 hS) 2 0 rfl rfl (xin_in g36) d_Piece_lieOn_36 ?_
    refine lv_goto (tgt := 46) hx hb d_Piece_lieOn_37 (by decide) ?_
    exact hL46 v3 v4 c2 c9 (Outline_ys o1 v2.toNatClampNeg) (Piece_u_alongX o0 c17) _ _ hP hS ls (lv_sub hl [2, 3, 5, 6, 1, 0] rfl) hf
