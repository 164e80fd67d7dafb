def f_MaskEdgesModel_isBetween (v0 : Int64) (v2 : Int64) (v4 : Int64) : Option (Int32) :=
  if (lg_cmp v0 v2) < 0 then
  some (0 : Int32)
else
  if 0 < (lg_cmp v0 v4) then
    some (0 : Int32)
  else
    some (1 : Int32)
set_option maxHeartbeats 4000000 in
set_option maxRecDepth 100000 in
theorem c_MaskEdgesModel_isBetween (l : Launch) (X : xG) {H : Heap} (v0 : Int64) (v2 : Int64) (v4 : Int64) {res : Int32} (hf : f_MaskEdgesModel_isBetween v0 v2 v4 = some res) : xM l y_MaskEdgesModel_isBetween (Cond.code y_MaskEdgesModel_isBetween prog_8_method_2_code 6 (some .boolean) :: xT) ({ frames := 0, cells := 0, slots := 0, locals := 0 } : Room) (xK X) [.long v0, .long v2, .long v4] H xNo (some (.int res)) (fun H1 => H1 = H) := by
  refine Met.ofW (cc := prog_8_method_2_code) (maxL := 6) (ret := (some .boolean)) (by decide) rfl ?_
  intro p e s m args below meth c s₁ B hml hv
  obtain ⟨ha, hH, hKK⟩ := hv
  subst hH
  have hx := B.exec
  have hb := B.bytes
  have hr := B.returns
  have ht : ∀ w ∈ xT, w.before args s = true := fun w h => atoms_spec (ws := (Cond.code y_MaskEdgesModel_isBetween prog_8_method_2_code 6 (some .boolean) :: xT)) B.pre w (List.mem_cons_of_mem _ h)
  have hown : s.vm.findClass "MaskEdgesModel" = some m.cls := findClass_of_methodNamed B.named
  have hlocks := B.notSynchronized
  have hK := hKK.1
  rw [show entryFrame m args 6 = entryFrame m ([.long v0, .long v2, .long v4] : List Value).toArray 6 from by rw [ha]]
  clear ha
  have hl := lv_entry ([.long v0, .long v2, .long v4]) (n := 6) (Nat.le_of_ble_eq_true rfl)
  rw [lg_entry_eq]
  generalize (lg_sl ([.long v0, .long v2, .long v4]) ++ List.replicate (6 - (lg_sl ([.long v0, .long v2, .long v4])).length) Slot.unset).toArray = ls at hl ⊢
  replace hl : lv_has ls 6 [(0, .long v0), (2, .long v2), (4, .long v4)] := hl
  refine x_Q (fun Q hQ => ?_)
  unfold f_MaskEdgesModel_isBetween at hf
  refine lv_lload_n hx hb d_MaskEdgesModel_isBetween_0 rfl (lv_at hl 0 rfl) ?_
  refine lv_lload_n hx hb d_MaskEdgesModel_isBetween_1 rfl (lv_at hl 1 rfl) ?_
  refine W.lcmp hx hb d_MaskEdgesModel_isBetween_2 ?_
  refine lv_if_lt (tgt := 17) hx hb d_MaskEdgesModel_isBetween_3 (by decide) (fun hc => ?_) (fun hc => ?_)
  · replace hf := x_t hc hf
    refine lv_iconst (v := (0 : Int32)) hx hb d_MaskEdgesModel_isBetween_17 (by decide) ?_
    replace hf := x_s hf
    subst hf
    subst hQ
    exact W.zret (v := (0 : Int32)) hx hb hr (xz_n (by decide)) (fun t ht hW => ⟨⟨rfl, ht⟩, x_F0 ht⟩) x_l0 d_MaskEdgesModel_isBetween_18
  · replace hf := x_f hc hf
    refine lv_lload_n hx hb d_MaskEdgesModel_isBetween_6 rfl (lv_at hl 0 rfl) ?_
    refine lv_lload hx hb d_MaskEdgesModel_isBetween_7 (lv_at hl 2 rfl) ?_
    refine W.lcmp hx hb d_MaskEdgesModel_isBetween_9 ?_
    refine lv_if_gt (tgt := 17) hx hb d_MaskEdgesModel_isBetween_10 (by decide) (fun hc => ?_) (fun hc => ?_)
    · replace hf := x_t hc hf
      refine lv_iconst (v := (0 : Int32)) hx hb d_MaskEdgesModel_isBetween_17 (by decide) ?_
      replace hf := x_s hf
      subst hf
      subst hQ
      exact W.zret (v := (0 : Int32)) hx hb hr (xz_n (by decide)) (fun t ht hW => ⟨⟨rfl, ht⟩, x_F0 ht⟩) x_l0 d_MaskEdgesModel_isBetween_18
    · replace hf := x_f hc hf
      refine lv_iconst (v := (1 : Int32)) hx hb d_MaskEdgesModel_isBetween_13 (by decide) ?_
      refine lv_goto (tgt := 18) hx hb d_MaskEdgesModel_isBetween_14 (by decide) ?_
      replace hf := x_s hf
      subst hf
      subst hQ
      exact W.zret (v := (1 : Int32)) hx hb hr (xz_n (by decide)) (fun t ht hW => ⟨⟨rfl, ht⟩, x_F0 ht⟩) x_l0 d_MaskEdgesModel_isBetween_18
def f_MaskEdgesModel_isCell (v0 : Int32) (v1 : Int32) : Option (Int32) :=
  (f_MaskEdgesModel_isBetween v0.toInt64 (0 : Int64) (47 : Int64)).bind fun c6 =>
  if c6 = 0 then
  some (0 : Int32)
else
  (f_MaskEdgesModel_isBetween v1.toInt64 (0 : Int64) (47 : Int64)).bind fun c18 =>
    if c18 = 0 then
    some (0 : Int32)
  else
    some (1 : Int32)
set_option maxHeartbeats 4000000 in
set_option maxRecDepth 100000 in
theorem c_MaskEdgesModel_isCell (l : Launch) (X : xG) {H : Heap} (v0 : Int32) (v1 : Int32) {res : Int32} (hf : f_MaskEdgesModel_isCell v0 v1 = some res) : xM l y_MaskEdgesModel_isCell (Cond.code y_MaskEdgesModel_isCell prog_8_method_3_code 2 (some .boolean) :: xT) ({ frames := 1, cells := 0, slots := 0, locals := 25 } : Room) (xK X) [.int v0, .int v1] H xNo (some (.int res)) (fun H1 => H1 = H) := by
  refine Met.ofW (cc := prog_8_method_3_code) (maxL := 2) (ret := (some .boolean)) (by decide) rfl ?_
  intro p e s m args below meth c s₁ B hml hv
  obtain ⟨ha, hH, hKK⟩ := hv
  subst hH
  have hx := B.exec
  have hb := B.bytes
  have hr := B.returns
  have ht : ∀ w ∈ xT, w.before args s = true := fun w h => atoms_spec (ws := (Cond.code y_MaskEdgesModel_isCell prog_8_method_3_code 2 (some .boolean) :: xT)) B.pre w (List.mem_cons_of_mem _ h)
  have hown : s.vm.findClass "MaskEdgesModel" = some m.cls := findClass_of_methodNamed B.named
  have hlocks := B.notSynchronized
  have hK := hKK.1
  rw [show entryFrame m args 2 = entryFrame m ([.int v0, .int v1] : List Value).toArray 2 from by rw [ha]]
  clear ha
  have hl := lv_entry ([.int v0, .int v1]) (n := 2) (Nat.le_of_ble_eq_true rfl)
  rw [lg_entry_eq]
  generalize (lg_sl ([.int v0, .int v1]) ++ List.replicate (2 - (lg_sl ([.int v0, .int v1])).length) Slot.unset).toArray = ls at hl ⊢
  replace hl : lv_has ls 2 [(0, .int v0), (1, .int v1)] := hl
  refine x_Q (fun Q hQ => ?_)
  unfold f_MaskEdgesModel_isCell at hf
  refine lv_iload_n hx hb d_MaskEdgesModel_isCell_0 rfl (lv_at hl 0 rfl) ?_
  refine lv_i2l hx hb d_MaskEdgesModel_isCell_1 rfl ?_
  refine lv_lconst (v := (0 : Int64)) hx hb d_MaskEdgesModel_isCell_2 (by decide) ?_
  refine lv_ldc2 (v := (47 : Int64)) hx hb hown (ht _ xw_554) d_MaskEdgesModel_isCell_3 ?_
  obtain ⟨c6, e6, hf⟩ := x_b hf
  refine xcR (va_runS (As := [.long v0.toInt64, .long (0 : Int64), .long (47 : Int64)]) (rest := []) ⟨hx, hb, hml, hown, ht⟩ (c_MaskEdgesModel_isBetween l X v0.toInt64 (0 : Int64) (47 : Int64) e6) (cwS 3 ht (xgS xw_512 xw_513 xw_43 xw_514) rfl rfl rfl (by decide +kernel) ⟨Nat.le_of_ble_eq_true rfl, Nat.le_of_ble_eq_true rfl⟩) (xPS hKK) rfl rfl hl.1 rfl (lv_room (Nat.le_of_ble_eq_true rfl)) d_MaskEdgesModel_isCell_6 ⟨Nat.zero_le _, Nat.zero_le _⟩) ?_
  refine W.eq (g2 := F0 m 9 ls [.int c6]) rfl ?_
  refine lv_if_eq (tgt := 28) hx hb d_MaskEdgesModel_isCell_9 (by decide) (fun hc => ?_) (fun hc => ?_)
  · replace hf := x_t hc hf
    refine lv_iconst (v := (0 : Int32)) hx hb d_MaskEdgesModel_isCell_28 (by decide) ?_
    replace hf := x_s hf
    subst hf
    subst hQ
    exact W.zret (v := (0 : Int32)) hx hb hr (xz_n (by decide)) (fun t ht hW => ⟨⟨rfl, ht⟩, x_F0 ht⟩) x_l0 d_MaskEdgesModel_isCell_29
  · replace hf := x_f hc hf
    refine lv_iload_n hx hb d_MaskEdgesModel_isCell_12 rfl (lv_at hl 1 rfl) ?_
    refine lv_i2l hx hb d_MaskEdgesModel_isCell_13 rfl ?_
    refine lv_lconst (v := (0 : Int64)) hx hb d_MaskEdgesModel_isCell_14 (by decide) ?_
    refine lv_ldc2 (v := (47 : Int64)) hx hb hown (ht _ xw_554) d_MaskEdgesModel_isCell_15 ?_
    obtain ⟨c18, e18, hf⟩ := x_b hf
    refine xcR (va_runS (As := [.long v1.toInt64, .long (0 : Int64), .long (47 : Int64)]) (rest := []) ⟨hx, hb, hml, hown, ht⟩ (c_MaskEdgesModel_isBetween l X v1.toInt64 (0 : Int64) (47 : Int64) e18) (cwS 3 ht (xgS xw_512 xw_513 xw_43 xw_514) rfl rfl rfl (by decide +kernel) ⟨Nat.le_of_ble_eq_true rfl, Nat.le_of_ble_eq_true rfl⟩) (xPS hKK) rfl rfl hl.1 rfl (lv_room (Nat.le_of_ble_eq_true rfl)) d_MaskEdgesModel_isCell_18 ⟨Nat.zero_le _, Nat.zero_le _⟩) ?_
    refine W.eq (g2 := F0 m 21 ls [.int c18]) rfl ?_
    refine lv_if_eq (tgt := 28) hx hb d_MaskEdgesModel_isCell_21 (by decide) (fun hc => ?_) (fun hc => ?_)
    · replace hf := x_t hc hf
      refine lv_iconst (v := (0 : Int32)) hx hb d_MaskEdgesModel_isCell_28 (by decide) ?_
      replace hf := x_s hf
      subst hf
      subst hQ
      exact W.zret (v := (0 : Int32)) hx hb hr (xz_n (by decide)) (fun t ht hW => ⟨⟨rfl, ht⟩, x_F0 ht⟩) x_l0 d_MaskEdgesModel_isCell_29
    · replace hf := x_f hc hf
      refine lv_iconst (v := (1 : Int32)) hx hb d_MaskEdgesModel_isCell_24 (by decide) ?_
      refine lv_goto (tgt := 29) hx hb d_MaskEdgesModel_isCell_25 (by decide) ?_
      replace hf := x_s hf
      subst hf
      subst hQ
      exact W.zret (v := (1 : Int32)) hx hb hr (xz_n (by decide)) (fun t ht hW => ⟨⟨rfl, ht⟩, x_F0 ht⟩) x_l0 d_MaskEdgesModel_isCell_29
def f_MaskEdgesModel_polygon (ST : ySt) : Option (Int32 × ySt) :=
  if (Y_pieces ST) ≤ 0 then
  if (Y_polygons ST) = (4 : Int32) then
    some ((-4 : Int32), ST)
  else
    some (((Y_polygons (Y_u_polygons ST ((Y_polygons ST) + (1 : Int32)))) - (1 : Int32)), (Y_u_polygons ST ((Y_polygons ST) + (1 : Int32))))
else
  some ((-3 : Int32), ST)
set_option maxHeartbeats 4000000 in
set_option maxRecDepth 100000 in
theorem c_MaskEdgesModel_polygon (l : Launch) (X : xG) {H : Heap} (ad : Nat → Nat) (ST : ySt) {res : Int32 × ySt} (hP : va_P X.1 vwCl (wY X ad ST) H) (hA : okB ad) (hf : f_MaskEdgesModel_polygon ST = some res) : xM l y_MaskEdgesModel_polygon (Cond.code y_MaskEdgesModel_polygon prog_8_method_4_code 1 (some .int) :: xT) ({ frames := 0, cells := 0, slots := 0, locals := 0 } : Room) (xK X) [.ref (ad 0)] H (yA ad) (some (.int res.1)) (fun H1 => va_P X.1 vwCl (wY X ad res.2) H1) := by
  refine Met.ofW (cc := prog_8_method_4_code) (maxL := 1) (ret := (some .int)) (by decide) rfl ?_
  intro p e s m args below meth c s₁ B hml hv
  obtain ⟨ha, hH, hKK⟩ := hv
  subst hH
  have hx := B.exec
  have hb := B.bytes
  have hr := B.returns
  have ht : ∀ w ∈ xT, w.before args s = true := fun w h => atoms_spec (ws := (Cond.code y_MaskEdgesModel_polygon prog_8_method_4_code 1 (some .int) :: xT)) B.pre w (List.mem_cons_of_mem _ h)
  have hown : s.vm.findClass "MaskEdgesModel" = some m.cls := findClass_of_methodNamed B.named
  have hlocks := B.notSynchronized
  have hK := hKK.1
  rw [show entryFrame m args 1 = entryFrame m ([.ref (ad 0)] : List Value).toArray 1 from by rw [ha]]
  clear ha
  have hS : va_S (yA ad) s.heap s.heap [] := va_S.rf
  have hl := lv_entry ([.ref (ad 0)]) (n := 1) (Nat.le_of_ble_eq_true rfl)
  rw [lg_entry_eq]
  generalize (lg_sl ([.ref (ad 0)]) ++ List.replicate (1 - (lg_sl ([.ref (ad 0)])).length) Slot.unset).toArray = ls at hl ⊢
  replace hl : lv_has ls 1 [(0, .ref (ad 0))] := hl
  refine x_Q (fun Q hQ => ?_)
  unfold f_MaskEdgesModel_polygon at hf
  refine lv_aload_n hx hb d_MaskEdgesModel_polygon_0 rfl (lv_at hl 0 rfl) ?_
  refine va_get (D := X.1) (ci := 6) (v := .int (Y_pieces ST)) (C := "MaskEdgesModel") (T := F_MaskEdgesModel) (N := 28) hx hb ht in_MaskEdgesModel hown hK hP 0 yg0 rfl 9 (by decide) (ht _ xw_456) (fun _ h9 => h9) rfl d_MaskEdgesModel_polygon_1 ?_
  refine lv_if_le (tgt := 10) hx hb d_MaskEdgesModel_polygon_4 (by decide) (fun hc => ?_) (fun hc => ?_)
  · replace hf := x_t hc hf
    refine lv_aload_n hx hb d_MaskEdgesModel_polygon_10 rfl (lv_at hl 0 rfl) ?_
    refine va_get (D := X.1) (ci := 6) (v := .int (Y_polygons ST)) (C := "MaskEdgesModel") (T := F_MaskEdgesModel) (N := 28) hx hb ht in_MaskEdgesModel hown hK hP 0 yg0 rfl 0 (by decide) (ht _ xw_447) (fun _ h9 => h9) rfl d_MaskEdgesModel_polygon_11 ?_
    refine lv_iconst (v := (4 : Int32)) hx hb d_MaskEdgesModel_polygon_14 (by decide) ?_
    refine lv_icmp_ne (tgt := 21) hx hb d_MaskEdgesModel_polygon_15 (by decide) (fun hc => ?_) (fun hc => ?_)
    · replace hf := x_f hc hf
      refine lv_aload_n hx hb d_MaskEdgesModel_polygon_21 rfl (lv_at hl 0 rfl) ?_
      refine lv_dup hx hb d_MaskEdgesModel_polygon_22 rfl ?_
      refine va_get (D := X.1) (ci := 6) (v := .int (Y_polygons ST)) (C := "MaskEdgesModel") (T := F_MaskEdgesModel) (N := 28) hx hb ht in_MaskEdgesModel hown hK hP 0 yg0 rfl 0 (by decide) (ht _ xw_447) (fun _ h9 => h9) rfl d_MaskEdgesModel_polygon_23 ?_
      refine lv_iconst (v := (1 : Int32)) hx hb d_MaskEdgesModel_polygon_26 (by decide) ?_
      refine lv_iadd hx hb d_MaskEdgesModel_polygon_27 ?_
      refine va_put (D := X.1) (ci := 6) (v := .int ((Y_polygons ST) + (1 : Int32))) (ty := .int) (C := "MaskEdgesModel") (T := F_MaskEdgesModel) (N := 28) hx hb ht in_MaskEdgesModel ty_MaskEdgesModel tyk_MaskEdgesModel nm_MaskEdgesModel hown hK hP (yD hA) hS 0 yg0 rfl 0 (by decide) (ht _ xw_447) (fun _ h9 => h9) rfl (by decide +kernel) rfl rfl (Nat.le_of_ble_eq_true rfl) d_MaskEdgesModel_polygon_28 (fun H locs hP _ hS => ?_)
      replace hP : va_P X.1 vwCl (wY X ad (Y_u_polygons ST ((Y_polygons ST) + (1 : Int32)))) H := xeq ym_polygons hP
      refine lv_aload_n hx hb d_MaskEdgesModel_polygon_31 rfl (lv_at hl 0 rfl) ?_
      refine va_get (D := X.1) (ci := 6) (v := .int (Y_polygons (Y_u_polygons ST ((Y_polygons ST) + (1 : Int32))))) (C := "MaskEdgesModel") (T := F_MaskEdgesModel) (N := 28) hx hb ht in_MaskEdgesModel hown hK hP 0 yg0 rfl 0 (by decide) (ht _ xw_447) (fun _ h9 => h9) rfl d_MaskEdgesModel_polygon_32 ?_
      refine lv_iconst (v := (1 : Int32)) hx hb d_MaskEdgesModel_polygon_35 (by decide) ?_
      refine lv_isub hx hb d_MaskEdgesModel_polygon_36 ?_
      replace hf := x_s hf
      subst hf
      subst hQ
      exact W.iret (v := ((Y_polygons (Y_u_polygons ST ((Y_polygons ST) + (1 : Int32)))) - (1 : Int32))) hx hb hr (fun t ht hW => ⟨⟨rfl, by rw [ht]; exact hP⟩, hS.F ht⟩) hS.2.2 d_MaskEdgesModel_polygon_37
    · replace hf := x_t hc hf
      refine lv_bipush (v := (-4 : Int32)) hx hb d_MaskEdgesModel_polygon_18 (by decide) ?_
      replace hf := x_s hf
      subst hf
      subst hQ
      exact W.iret (v := (-4 : Int32)) hx hb hr (fun t ht hW => ⟨⟨rfl, by rw [ht]; exact hP⟩, hS.F ht⟩) hS.2.2 d_MaskEdgesModel_polygon_20
  · replace hf := x_f hc hf
    refine lv_bipush (v := (-3 : Int32)) hx hb d_MaskEdgesModel_polygon_7 (by decide) ?_
    replace hf := x_s hf
    subst hf
    subst hQ
    exact W.iret (v := (-3 : Int32)) hx hb hr (fun t ht hW => ⟨⟨rfl, by rw [ht]; exact hP⟩, hS.F ht⟩) hS.2.2 d_MaskEdgesModel_polygon_9
def f_MaskEdgesModel_goesAlongX (ST : ySt) (v1 : Int32) (v2 : Int32) : Option (Int32) :=
  if xin v1 4 = true then
  if (Y_sizes ST v1.toNatClampNeg) = 0 then none else
    if xin (((16 : Int32) * v1) + v2) 64 = true then
    if xin (((16 : Int32) * v1) + (((v2 + (Y_sizes ST v1.toNatClampNeg)) - (1 : Int32)) - ((v2 + (Y_sizes ST v1.toNatClampNeg)) - (1 : Int32)) / (Y_sizes ST v1.toNatClampNeg) * (Y_sizes ST v1.toNatClampNeg))) 64 = true then
      if (Y_ys ST (((16 : Int32) * v1) + v2).toNatClampNeg) = (Y_ys ST (((16 : Int32) * v1) + (((v2 + (Y_sizes ST v1.toNatClampNeg)) - (1 : Int32)) - ((v2 + (Y_sizes ST v1.toNatClampNeg)) - (1 : Int32)) / (Y_sizes ST v1.toNatClampNeg) * (Y_sizes ST v1.toNatClampNeg))).toNatClampNeg) then
        some (1 : Int32)
      else
        some (0 : Int32)
    else none
  else none
else none
set_option maxHeartbeats 4000000 in
set_option maxRecDepth 100000 in
theorem c_MaskEdgesModel_goesAlongX (l : Launch) (X : xG) {H : Heap} (ad : Nat → Nat) (ST : ySt) (v1 : Int32) (v2 : Int32) {res : Int32} (hP : va_P X.1 vwCl (wY X ad ST) H) (hf : f_MaskEdgesModel_goesAlongX ST v1 v2 = some res) : xM l y_MaskEdgesModel_goesAlongX (Cond.code y_MaskEdgesModel_goesAlongX prog_8_method_5_code 5 (some .boolean) :: xT) ({ frames := 0, cells := 0, slots := 0, locals := 0 } : Room) (xK X) [.ref (ad 0), .int v1, .int v2] H xNo (some (.int res)) (fun H1 => H1 = H) := by
  refine Met.ofW (cc := prog_8_method_5_code) (maxL := 5) (ret := (some .boolean)) (by decide) rfl ?_
  intro p e s m args below meth c s₁ B hml hv
  obtain ⟨ha, hH, hKK⟩ := hv
  subst hH
  have hx := B.exec
  have hb := B.bytes
  have hr := B.returns
  have ht : ∀ w ∈ xT, w.before args s = true := fun w h => atoms_spec (ws := (Cond.code y_MaskEdgesModel_goesAlongX prog_8_method_5_code 5 (some .boolean) :: xT)) B.pre w (List.mem_cons_of_mem _ h)
  have hown : s.vm.findClass "MaskEdgesModel" = some m.cls := findClass_of_methodNamed B.named
  have hlocks := B.notSynchronized
  have hK := hKK.1
  rw [show entryFrame m args 5 = entryFrame m ([.ref (ad 0), .int v1, .int v2] : List Value).toArray 5 from by rw [ha]]
  clear ha
  have hl := lv_entry ([.ref (ad 0), .int v1, .int v2]) (n := 5) (Nat.le_of_ble_eq_true rfl)
  rw [lg_entry_eq]
  generalize (lg_sl ([.ref (ad 0), .int v1, .int v2]) ++ List.replicate (5 - (lg_sl ([.ref (ad 0), .int v1, .int v2])).length) Slot.unset).toArray = ls at hl ⊢
  replace hl : lv_has ls 5 [(0, .ref (ad 0)), (1, .int v1), (2, .int v2)] := hl
  refine x_Q (fun Q hQ => ?_)
  unfold f_MaskEdgesModel_goesAlongX at hf
  refine lv_aload_n hx hb d_MaskEdgesModel_goesAlongX_0 rfl (lv_at hl 0 rfl) ?_
  refine va_get (D := X.1) (ci := 6) (v := .ref (ad 3)) (C := "MaskEdgesModel") (T := F_MaskEdgesModel) (N := 28) hx hb ht in_MaskEdgesModel hown hK hP 0 yg0 rfl 3 (by decide) (ht _ xw_450) (fun _ h9 => h9) rfl d_MaskEdgesModel_goesAlongX_1 ?_
  refine lv_iload_n hx hb d_MaskEdgesModel_goesAlongX_4 rfl (lv_at hl 1 rfl) ?_
  obtain ⟨g5, hf⟩ := x_g hf
  refine va_iald hx hb hK hP 3 0 yg3 rfl (xin_in g5) d_MaskEdgesModel_goesAlongX_5 ?_
  refine lv_istore_n (lv' := [(3, .int (Y_sizes ST v1.toNatClampNeg)), (0, .ref (ad 0)), (1, .int v1), (2, .int v2)]) hx hb d_MaskEdgesModel_goesAlongX_6 rfl hl (by decide) rfl (fun ls hl => ?_)
  refine lv_bipush (v := (16 : Int32)) hx hb d_MaskEdgesModel_goesAlongX_7 (by decide) ?_
  refine lv_iload_n hx hb d_MaskEdgesModel_goesAlongX_9 rfl (lv_at hl 2 rfl) ?_
  refine lv_imul hx hb d_MaskEdgesModel_goesAlongX_10 ?_
  refine lv_iload_n hx hb d_MaskEdgesModel_goesAlongX_11 rfl (lv_at hl 3 rfl) ?_
  refine lv_iload_n hx hb d_MaskEdgesModel_goesAlongX_12 rfl (lv_at hl 0 rfl) ?_
  refine lv_iadd hx hb d_MaskEdgesModel_goesAlongX_13 ?_
  refine lv_iconst (v := (1 : Int32)) hx hb d_MaskEdgesModel_goesAlongX_14 (by decide) ?_
  refine lv_isub hx hb d_MaskEdgesModel_goesAlongX_15 ?_
  refine lv_iload_n hx hb d_MaskEdgesModel_goesAlongX_16 rfl (lv_at hl 0 rfl) ?_
  obtain ⟨z17, hf⟩ := x_n hf
  refine lv_irem hx hb d_MaskEdgesModel_goesAlongX_17 z17 ?_
  refine lv_iadd hx hb d_MaskEdgesModel_goesAlongX_18 ?_
  refine lv_istore (lv' := [(4, .int (((16 : Int32) * v1) + (((v2 + (Y_sizes ST v1.toNatClampNeg)) - (1 : Int32)) - ((v2 + (Y_sizes ST v1.toNatClampNeg)) - (1 : Int32)) / (Y_sizes ST v1.toNatClampNeg) * (Y_sizes ST v1.toNatClampNeg)))), (3, .int (Y_sizes ST v1.toNatClampNeg)), (0, .ref (ad 0)), (1, .int v1), (2, .int v2)]) hx hb d_MaskEdgesModel_goesAlongX_19 hl (by decide) rfl (fun ls hl => ?_)
  refine lv_aload_n hx hb d_MaskEdgesModel_goesAlongX_21 rfl (lv_at hl 2 rfl) ?_
  refine va_get (D := X.1) (ci := 6) (v := .ref (ad 2)) (C := "MaskEdgesModel") (T := F_MaskEdgesModel) (N := 28) hx hb ht in_MaskEdgesModel hown hK hP 0 yg0 rfl 2 (by decide) (ht _ xw_449) (fun _ h9 => h9) rfl d_MaskEdgesModel_goesAlongX_22 ?_
  refine lv_bipush (v := (16 : Int32)) hx hb d_MaskEdgesModel_goesAlongX_25 (by decide) ?_
  refine lv_iload_n hx hb d_MaskEdgesModel_goesAlongX_27 rfl (lv_at hl 3 rfl) ?_
  refine lv_imul hx hb d_MaskEdgesModel_goesAlongX_28 ?_
  refine lv_iload_n hx hb d_MaskEdgesModel_goesAlongX_29 rfl (lv_at hl 4 rfl) ?_
  refine lv_iadd hx hb d_MaskEdgesModel_goesAlongX_30 ?_
  obtain ⟨g31, hf⟩ := x_g hf
  refine va_iald hx hb hK hP 2 0 yg2 rfl (xin_in g31) d_MaskEdgesModel_goesAlongX_31 ?_
  refine lv_aload_n hx hb d_MaskEdgesModel_goesAlongX_32 rfl (lv_at hl 2 rfl) ?_
  refine va_get (D := X.1) (ci := 6) (v := .ref (ad 2)) (C := "MaskEdgesModel") (T := F_MaskEdgesModel) (N := 28) hx hb ht in_MaskEdgesModel hown hK hP 0 yg0 rfl 2 (by decide) (ht _ xw_449) (fun _ h9 => h9) rfl d_MaskEdgesModel_goesAlongX_33 ?_
  refine lv_iload hx hb d_MaskEdgesModel_goesAlongX_36 (lv_at hl 0 rfl) ?_
  obtain ⟨g38, hf⟩ := x_g hf
  refine va_iald hx hb hK hP 2 0 yg2 rfl (xin_in g38) d_MaskEdgesModel_goesAlongX_38 ?_
  refine lv_icmp_ne (tgt := 46) hx hb d_MaskEdgesModel_goesAlongX_39 (by decide) (fun hc => ?_) (fun hc => ?_)
  · replace hf := x_f hc hf
    refine lv_iconst (v := (0 : Int32)) hx hb d_MaskEdgesModel_goesAlongX_46 (by decide) ?_
    replace hf := x_s hf
    subst hf
    subst hQ
    exact W.zret (v := (0 : Int32)) hx hb hr (xz_n (by decide)) (fun t ht hW => ⟨⟨rfl, ht⟩, x_F0 ht⟩) x_l0 d_MaskEdgesModel_goesAlongX_47
  · replace hf := x_t hc hf
    refine lv_iconst (v := (1 : Int32)) hx hb d_MaskEdgesModel_goesAlongX_42 (by decide) ?_
    refine lv_goto (tgt := 47) hx hb d_MaskEdgesModel_goesAlongX_43 (by decide) ?_
    replace hf := x_s hf
    subst hf
    subst hQ
    exact W.zret (v := (1 : Int32)) hx hb hr (xz_n (by decide)) (fun t ht hW => ⟨⟨rfl, ht⟩, x_F0 ht⟩) x_l0 d_MaskEdgesModel_goesAlongX_47
def f_MaskEdgesModel_corner_211 (v1 : Int32) (v2 : Int64) (v4 : Int64) (v6 : Int32) (v7 : Int32) (ST : ySt) : Option (Int32 × ySt) :=
  if v6 = (16 : Int32) then
  some ((0 : Int32), ST)
else
  if xin (v7 + v6) 64 = true then
    if xin (v7 + v6) 64 = true then
      if xin v1 4 = true then
        if xin v1 4 = true then
          some ((1 : Int32), (Y_u_sizes (Y_u_ys (Y_u_xs ST (upd (Y_xs ST) (v7 + v6).toNatClampNeg v2.toInt32)) (upd (Y_ys (Y_u_xs ST (upd (Y_xs ST) (v7 + v6).toNatClampNeg v2.toInt32))) (v7 + v6).toNatClampNeg v4.toInt32)) (upd (Y_sizes (Y_u_ys (Y_u_xs ST (upd (Y_xs ST) (v7 + v6).toNatClampNeg v2.toInt32)) (upd (Y_ys (Y_u_xs ST (upd (Y_xs ST) (v7 + v6).toNatClampNeg v2.toInt32))) (v7 + v6).toNatClampNeg v4.toInt32))) v1.toNatClampNeg ((Y_sizes (Y_u_ys (Y_u_xs ST (upd (Y_xs ST) (v7 + v6).toNatClampNeg v2.toInt32)) (upd (Y_ys (Y_u_xs ST (upd (Y_xs ST) (v7 + v6).toNatClampNeg v2.toInt32))) (v7 + v6).toNatClampNeg v4.toInt32)) v1.toNatClampNeg) + (1 : Int32)))))
        else none
      else none
    else none
  else none
def f_MaskEdgesModel_corner_156 (v1 : Int32) (v2 : Int64) (v4 : Int64) (v6 : Int32) (v7 : Int32) (v9 : Int32) (ST : ySt) : Option (Int32 × ySt) :=
  if v6 ≤ (3 : Int32) then
  f_MaskEdgesModel_corner_211 v1 v2 v4 v6 v7 ST
else
  if xin v7 64 = true then
    if (lg_cmp ((Y_xs ST v7.toNatClampNeg).toInt64) v2) = 0 then
      if xin v7 64 = true then
        if (lg_cmp ((Y_ys ST v7.toNatClampNeg).toInt64) v4) = 0 then
          (f_MaskEdgesModel_goesAlongX ST v1 (1 : Int32)).bind fun c194 =>
            if v9 = c194 then
            some ((0 : Int32), ST)
          else
            if xin v1 4 = true then
              some ((1 : Int32), (Y_u_isClosed ST (upd (Y_isClosed ST) v1.toNatClampNeg (vp_nar .boolean (1 : Int32)))))
            else none
        else
          f_MaskEdgesModel_corner_211 v1 v2 v4 v6 v7 ST
      else none
    else
      f_MaskEdgesModel_corner_211 v1 v2 v4 v6 v7 ST
  else none
def f_MaskEdgesModel_corner_125 (v1 : Int32) (v2 : Int64) (v4 : Int64) (v6 : Int32) (v7 : Int32) (v8 : Int32) (s0 : Int32) (ST : ySt) : Option (Int32 × ySt) :=
  if v8 = s0 then
  some ((0 : Int32), ST)
else
  if v6 ≤ (1 : Int32) then
    f_MaskEdgesModel_corner_156 v1 v2 v4 v6 v7 s0 ST
  else
    (f_MaskEdgesModel_goesAlongX ST v1 (v6 - (1 : Int32))).bind fun c148 =>
      if s0 = c148 then
      some ((0 : Int32), ST)
    else
      f_MaskEdgesModel_corner_156 v1 v2 v4 v6 v7 s0 ST
def f_MaskEdgesModel_corner_99 (v1 : Int32) (v2 : Int64) (v4 : Int64) (v6 : Int32) (v7 : Int32) (s0 : Int32) (ST : ySt) : Option (Int32 × ySt) :=
  if xin ((v7 + v6) - (1 : Int32)) 64 = true then
  if (lg_cmp ((Y_ys ST ((v7 + v6) - (1 : Int32)).toNatClampNeg).toInt64) v4) = 0 then
    f_MaskEdgesModel_corner_125 v1 v2 v4 v6 v7 s0 (1 : Int32) ST
  else
    f_MaskEdgesModel_corner_125 v1 v2 v4 v6 v7 s0 (0 : Int32) ST
else none
def f_MaskEdgesModel_corner (v1 : Int32) (v2 : Int64) (v4 : Int64) (ST : ySt) : Option (Int32 × ySt) :=
  (f_MaskEdgesModel_isBetween v1.toInt64 (0 : Int64) (((Y_polygons ST) - (1 : Int32)).toInt64)).bind fun c10 =>
  if c10 = 0 then
  some ((0 : Int32), ST)
else
  if xin v1 4 = true then
    if (Y_isClosed ST v1.toNatClampNeg) = 0 then
      if 0 < (Y_pieces ST) then
        some ((0 : Int32), ST)
      else
        (f_MaskEdgesModel_isBetween v2 (0 : Int64) (48 : Int64)).bind fun c37 =>
          if c37 = 0 then
          some ((0 : Int32), ST)
        else
          (f_MaskEdgesModel_isBetween v4 (0 : Int64) (48 : Int64)).bind fun c49 =>
            if c49 = 0 then
            some ((0 : Int32), ST)
          else
            if xin v1 4 = true then
              if (Y_sizes ST v1.toNatClampNeg) ≤ 0 then
                f_MaskEdgesModel_corner_211 v1 v2 v4 (Y_sizes ST v1.toNatClampNeg) ((16 : Int32) * v1) ST
              else
                if xin ((((16 : Int32) * v1) + (Y_sizes ST v1.toNatClampNeg)) - (1 : Int32)) 64 = true then
                  if (lg_cmp ((Y_xs ST ((((16 : Int32) * v1) + (Y_sizes ST v1.toNatClampNeg)) - (1 : Int32)).toNatClampNeg).toInt64) v2) = 0 then
                    f_MaskEdgesModel_corner_99 v1 v2 v4 (Y_sizes ST v1.toNatClampNeg) ((16 : Int32) * v1) (1 : Int32) ST
                  else
                    f_MaskEdgesModel_corner_99 v1 v2 v4 (Y_sizes ST v1.toNatClampNeg) ((16 : Int32) * v1) (0 : Int32) ST
                else none
            else none
    else
      some ((0 : Int32), ST)
  else none
set_option maxHeartbeats 4000000 in
set_option maxRecDepth 100000 in
theorem c_MaskEdgesModel_corner (l : Launch) (X : xG) {H : Heap} (ad : Nat → Nat) (ST : ySt) (v1 : Int32) (v2 : Int64) (v4 : Int64) {res : Int32 × ySt} (hP : va_P X.1 vwCl (wY X ad ST) H) (hA : okB ad) (hf : f_MaskEdgesModel_corner v1 v2 v4 ST = some res) : xM l y_MaskEdgesModel_corner (Cond.code y_MaskEdgesModel_corner prog_8_method_6_code 10 (some .boolean) :: xT) ({ frames := 1, cells := 0, slots := 0, locals := 25 } : Room) (xK X) [.ref (ad 0), .int v1, .long v2, .long v4] H (yA ad) (some (.int res.1)) (fun H1 => va_P X.1 vwCl (wY X ad res.2) H1) := by
  refine Met.ofW (cc := prog_8_method_6_code) (maxL := 10) (ret := (some .boolean)) (by decide) rfl ?_
  intro p e s m args below meth c s₁ B hml hv
  obtain ⟨ha, hH, hKK⟩ := hv
  subst hH
  have hx := B.exec
  have hb := B.bytes
  have hr := B.returns
  have ht : ∀ w ∈ xT, w.before args s = true := fun w h => atoms_spec (ws := (Cond.code y_MaskEdgesModel_corner prog_8_method_6_code 10 (some .boolean) :: xT)) B.pre w (List.mem_cons_of_mem _ h)
  have hown : s.vm.findClass "MaskEdgesModel" = some m.cls := findClass_of_methodNamed B.named
  have hlocks := B.notSynchronized
  have hK := hKK.1
  rw [show entryFrame m args 10 = entryFrame m ([.ref (ad 0), .int v1, .long v2, .long v4] : List Value).toArray 10 from by rw [ha]]
  clear ha
  have hS : va_S (yA ad) s.heap s.heap [] := va_S.rf
  have hl := lv_entry ([.ref (ad 0), .int v1, .long v2, .long v4]) (n := 10) (Nat.le_of_ble_eq_true rfl)
  rw [lg_entry_eq]
  generalize (lg_sl ([.ref (ad 0), .int v1, .long v2, .long v4]) ++ List.replicate (10 - (lg_sl ([.ref (ad 0), .int v1, .long v2, .long v4])).length) Slot.unset).toArray = ls at hl ⊢
  replace hl : lv_has ls 10 [(0, .ref (ad 0)), (1, .int v1), (2, .long v2), (4, .long v4)] := hl
  refine x_Q (fun Q hQ => ?_)
  have hL211 : ∀ (v1 : Int32) (v2 : Int64) (v4 : Int64) (v6 : Int32) (v7 : Int32) (ST : ySt), ∀ (H : Heap) (locs : List Loc), va_P X.1 vwCl (wY X ad ST) H → va_S (yA ad) s.heap H locs → ∀ (ls : Array Slot), lv_has ls 10 [(0, .ref (ad 0)), (1, .int v1), (2, .long v2), (4, .long v4), (6, .int v6), (7, .int v7)] → f_MaskEdgesModel_corner_211 v1 v2 v4 v6 v7 ST = some res → W p l e (headSpec (Cond.code y_MaskEdgesModel_corner prog_8_method_6_code 10 (some .boolean) :: xT) ({ frames := 1, cells := 0, slots := 0, locals := 25 } : Room)).room s m args below meth c H locs 0 0 Q (F0 m 211 ls []) := by
    intro v1 v2 v4 v6 v7 ST H locs hP hS ls hl hf
    unfold f_MaskEdgesModel_corner_211 at hf
    refine lv_iload hx hb d_MaskEdgesModel_corner_211 (lv_at hl 4 rfl) ?_
    refine lv_bipush (v := (16 : Int32)) hx hb d_MaskEdgesModel_corner_213 (by decide) ?_
    refine lv_icmp_ne (tgt := 220) hx hb d_MaskEdgesModel_corner_215 (by decide) (fun hc => ?_) (fun hc => ?_)
    · replace hf := x_f hc hf
      refine lv_aload_n hx hb d_MaskEdgesModel_corner_220 rfl (lv_at hl 0 rfl) ?_
      refine va_get (D := X.1) (ci := 6) (v := .ref (ad 1)) (C := "MaskEdgesModel") (T := F_MaskEdgesModel) (N := 28) hx hb ht in_MaskEdgesModel hown hK hP 0 yg0 rfl 1 (by decide) (ht _ xw_448) (fun _ h9 => h9) rfl d_MaskEdgesModel_corner_221 ?_
      refine lv_iload hx hb d_MaskEdgesModel_corner_224 (lv_at hl 5 rfl) ?_
      refine lv_iload hx hb d_MaskEdgesModel_corner_226 (lv_at hl 4 rfl) ?_
      refine lv_iadd hx hb d_MaskEdgesModel_corner_228 ?_
      refine lv_lload_n hx hb d_MaskEdgesModel_corner_229 rfl (lv_at hl 2 rfl) ?_
      refine lv_l2i hx hb d_MaskEdgesModel_corner_230 rfl ?_
      obtain ⟨g231, hf⟩ := x_g hf
      refine va_iast hx hb hK hP (yD hA) hS 1 0 yg1 rfl (xin_in g231) d_MaskEdgesModel_corner_231 (fun H locs hP _ hS => ?_)
      replace hP : va_P X.1 vwCl (wY X ad (Y_u_xs ST (upd (Y_xs ST) (v7 + v6).toNatClampNeg v2.toInt32))) H := xeq ym_xs hP
      refine lv_aload_n hx hb d_MaskEdgesModel_corner_232 rfl (lv_at hl 0 rfl) ?_
      refine va_get (D := X.1) (ci := 6) (v := .ref (ad 2)) (C := "MaskEdgesModel") (T := F_MaskEdgesModel) (N := 28) hx hb ht in_MaskEdgesModel hown hK hP 0 yg0 rfl 2 (by decide) (ht _ xw_449) (fun _ h9 => h9) rfl d_MaskEdgesModel_corner_233 ?_
      refine lv_iload hx hb d_MaskEdgesModel_corner_236 (lv_at hl 5 rfl) ?_
      refine lv_iload hx hb d_MaskEdgesModel_corner_238 (lv_at hl 4 rfl) ?_
      refine lv_iadd hx hb d_MaskEdgesModel_corner_240 ?_
      refine lv_lload hx hb d_MaskEdgesModel_corner_241 (lv_at hl 3 rfl) ?_
      refine lv_l2i hx hb d_MaskEdgesModel_corner_243 rfl ?_
      obtain ⟨g244, hf⟩ := x_g hf
      refine va_iast hx hb hK hP (yD hA) hS 2 0 yg2 rfl (xin_in g244) d_MaskEdgesModel_corner_244 (fun H locs hP _ hS => ?_)
      replace hP : va_P X.1 vwCl (wY X ad (Y_u_ys (Y_u_xs ST (upd (Y_xs ST) (v7 + v6).toNatClampNeg v2.toInt32)) (upd (Y_ys (Y_u_xs ST (upd (Y_xs ST) (v7 + v6).toNatClampNeg v2.toInt32))) (v7 + v6).toNatClampNeg v4.toInt32))) H := xeq ym_ys hP
      refine lv_aload_n hx hb d_MaskEdgesModel_corner_245 rfl (lv_at hl 0 rfl) ?_
      refine va_get (D := X.1) (ci := 6) (v := .ref (ad 3)) (C := "MaskEdgesModel") (T := F_MaskEdgesModel) (N := 28) hx hb ht in_MaskEdgesModel hown hK hP 0 yg0 rfl 3 (by decide) (ht _ xw_450) (fun _ h9 => h9) rfl d_MaskEdgesModel_corner_246 ?_
      refine lv_iload_n hx hb d_MaskEdgesModel_corner_249 rfl (lv_at hl 1 rfl) ?_
      refine lv_dup2_11 hx hb d_MaskEdgesModel_corner_250 rfl rfl ?_
      obtain ⟨g251, hf⟩ := x_g hf
      refine va_iald hx hb hK hP 3 0 yg3 rfl (xin_in g251) d_MaskEdgesModel_corner_251 ?_
      refine lv_iconst (v := (1 : Int32)) hx hb d_MaskEdgesModel_corner_252 (by decide) ?_
      refine lv_iadd hx hb d_MaskEdgesModel_corner_253 ?_
      obtain ⟨g254, hf⟩ := x_g hf
      refine va_iast hx hb hK hP (yD hA) hS 3 0 yg3 rfl (xin_in g254) d_MaskEdgesModel_corner_254 (fun H locs hP _ hS => ?_)
      replace hP : va_P X.1 vwCl (wY X ad (Y_u_sizes (Y_u_ys (Y_u_xs ST (upd (Y_xs ST) (v7 + v6).toNatClampNeg v2.toInt32)) (upd (Y_ys (Y_u_xs ST (upd (Y_xs ST) (v7 + v6).toNatClampNeg v2.toInt32))) (v7 + v6).toNatClampNeg v4.toInt32)) (upd (Y_sizes (Y_u_ys (Y_u_xs ST (upd (Y_xs ST) (v7 + v6).toNatClampNeg v2.toInt32)) (upd (Y_ys (Y_u_xs ST (upd (Y_xs ST) (v7 + v6).toNatClampNeg v2.toInt32))) (v7 + v6).toNatClampNeg v4.toInt32))) v1.toNatClampNeg ((Y_sizes (Y_u_ys (Y_u_xs ST (upd (Y_xs ST) (v7 + v6).toNatClampNeg v2.toInt32)) (upd (Y_ys (Y_u_xs ST (upd (Y_xs ST) (v7 + v6).toNatClampNeg v2.toInt32))) (v7 + v6).toNatClampNeg v4.toInt32)) v1.toNatClampNeg) + (1 : Int32))))) H := xeq ym_sizes hP
      refine lv_iconst (v := (1 : Int32)) hx hb d_MaskEdgesModel_corner_255 (by decide) ?_
      replace hf := x_s hf
      subst hf
      subst hQ
      exact W.zret (v := (1 : Int32)) hx hb hr (xz_n (by decide)) (fun t ht hW => ⟨⟨rfl, by rw [ht]; exact hP⟩, hS.F ht⟩) hS.2.2 d_MaskEdgesModel_corner_256
    · replace hf := x_t hc hf
      refine lv_iconst (v := (0 : Int32)) hx hb d_MaskEdgesModel_corner_218 (by decide) ?_
      replace hf := x_s hf
      subst hf
      subst hQ
      exact W.zret (v := (0 : Int32)) hx hb hr (xz_n (by decide)) (fun t ht hW => ⟨⟨rfl, by rw [ht]; exact hP⟩, hS.F ht⟩) hS.2.2 d_MaskEdgesModel_corner_219
  have hL156 : ∀ (v1 : Int32) (v2 : Int64) (v4 : Int64) (v6 : Int32) (v7 : Int32) (v9 : Int32) (ST : ySt), ∀ (H : Heap) (locs : List Loc), va_P X.1 vwCl (wY X ad ST) H → va_S (yA ad) s.heap H locs → ∀ (ls : Array Slot), lv_has ls 10 [(0, .ref (ad 0)), (1, .int v1), (2, .long v2), (4, .long v4), (6, .int v6), (7, .int v7), (9, .int v9)] → f_MaskEdgesModel_corner_156 v1 v2 v4 v6 v7 v9 ST = some res → W p l e (headSpec (Cond.code y_MaskEdgesModel_corner prog_8_method_6_code 10 (some .boolean) :: xT) ({ frames := 1, cells := 0, slots := 0, locals := 25 } : Room)).room s m args below meth c H locs 0 0 Q (F0 m 156 ls []) := by
    intro v1 v2 v4 v6 v7 v9 ST H locs hP hS ls hl hf
    unfold f_MaskEdgesModel_corner_156 at hf
    refine lv_iload hx hb d_MaskEdgesModel_corner_156 (lv_at hl 4 rfl) ?_
    refine lv_iconst (v := (3 : Int32)) hx hb d_MaskEdgesModel_corner_158 (by decide) ?_
    refine lv_icmp_le (tgt := 211) hx hb d_MaskEdgesModel_corner_159 (by decide) (fun hc => ?_) (fun hc => ?_)
    · replace hf := x_t hc hf
      exact hL211 v1 v2 v4 v6 v7 ST _ _ hP hS ls (lv_sub hl [0, 1, 2, 3, 4, 5] rfl) hf
    · replace hf := x_f hc hf
      refine lv_aload_n hx hb d_MaskEdgesModel_corner_162 rfl (lv_at hl 0 rfl) ?_
      refine va_get (D := X.1) (ci := 6) (v := .ref (ad 1)) (C := "MaskEdgesModel") (T := F_MaskEdgesModel) (N := 28) hx hb ht in_MaskEdgesModel hown hK hP 0 yg0 rfl 1 (by decide) (ht _ xw_448) (fun _ h9 => h9) rfl d_MaskEdgesModel_corner_163 ?_
      refine lv_iload hx hb d_MaskEdgesModel_corner_166 (lv_at hl 5 rfl) ?_
      obtain ⟨g168, hf⟩ := x_g hf
      refine va_iald hx hb hK hP 1 0 yg1 rfl (xin_in g168) d_MaskEdgesModel_corner_168 ?_
      refine lv_i2l hx hb d_MaskEdgesModel_corner_169 rfl ?_
      refine lv_lload_n hx hb d_MaskEdgesModel_corner_170 rfl (lv_at hl 2 rfl) ?_
      refine W.lcmp hx hb d_MaskEdgesModel_corner_171 ?_
      refine lv_if_ne (tgt := 211) hx hb d_MaskEdgesModel_corner_172 (by decide) (fun hc => ?_) (fun hc => ?_)
      · replace hf := x_f hc hf
        exact hL211 v1 v2 v4 v6 v7 ST _ _ hP hS ls (lv_sub hl [0, 1, 2, 3, 4, 5] rfl) hf
      · replace hf := x_t hc hf
        refine lv_aload_n hx hb d_MaskEdgesModel_corner_175 rfl (lv_at hl 0 rfl) ?_
        refine va_get (D := X.1) (ci := 6) (v := .ref (ad 2)) (C := "MaskEdgesModel") (T := F_MaskEdgesModel) (N := 28) hx hb ht in_MaskEdgesModel hown hK hP 0 yg0 rfl 2 (by decide) (ht _ xw_449) (fun _ h9 => h9) rfl d_MaskEdgesModel_corner_176 ?_
        refine lv_iload hx hb d_MaskEdgesModel_corner_179 (lv_at hl 5 rfl) ?_
        obtain ⟨g181, hf⟩ := x_g hf
        refine va_iald hx hb hK hP 2 0 yg2 rfl (xin_in g181) d_MaskEdgesModel_corner_181 ?_
        refine lv_i2l hx hb d_MaskEdgesModel_corner_182 rfl ?_
        refine lv_lload hx hb d_MaskEdgesModel_corner_183 (lv_at hl 3 rfl) ?_
        refine W.lcmp hx hb d_MaskEdgesModel_corner_185 ?_
        refine lv_if_ne (tgt := 211) hx hb d_MaskEdgesModel_corner_186 (by decide) (fun hc => ?_) (fun hc => ?_)
        · replace hf := x_f hc hf
          exact hL211 v1 v2 v4 v6 v7 ST _ _ hP hS ls (lv_sub hl [0, 1, 2, 3, 4, 5] rfl) hf
        · replace hf := x_t hc hf
          refine lv_iload hx hb d_MaskEdgesModel_corner_189 (lv_at hl 6 rfl) ?_
          refine lv_aload_n hx hb d_MaskEdgesModel_corner_191 rfl (lv_at hl 0 rfl) ?_
          refine lv_iload_n hx hb d_MaskEdgesModel_corner_192 rfl (lv_at hl 1 rfl) ?_
          refine lv_iconst (v := (1 : Int32)) hx hb d_MaskEdgesModel_corner_193 (by decide) ?_
          obtain ⟨c194, e194, hf⟩ := x_b hf
          refine xcR (va_runV (As := [.int v1, .int (1 : Int32)]) (rest := [.int v9]) ⟨hx, hb, hml, hown, ht⟩ (c_MaskEdgesModel_goesAlongX l X ad ST v1 (1 : Int32) hP e194) (cwV 2 ht (xgV xw_516 xw_517 xw_14 xw_43 xw_518) rfl rfl rfl (by decide +kernel) ⟨Nat.le_of_ble_eq_true rfl, Nat.le_of_ble_eq_true rfl⟩) (xPV hKK (va_recv hK hP (ci := 6) (q0 := 0) rfl yg0)) rfl rfl hl.1 rfl (lv_room (Nat.le_of_ble_eq_true rfl)) d_MaskEdgesModel_corner_194 ⟨Nat.zero_le _, Nat.zero_le _⟩) ?_
          refine W.eq (g2 := F0 m 197 ls [.int c194, .int v9]) rfl ?_
          refine lv_icmp_ne (tgt := 202) hx hb d_MaskEdgesModel_corner_197 (by decide) (fun hc => ?_) (fun hc => ?_)
          · replace hf := x_f hc hf
            refine lv_aload_n hx hb d_MaskEdgesModel_corner_202 rfl (lv_at hl 0 rfl) ?_
            refine va_get (D := X.1) (ci := 6) (v := .ref (ad 4)) (C := "MaskEdgesModel") (T := F_MaskEdgesModel) (N := 28) hx hb ht in_MaskEdgesModel hown hK hP 0 yg0 rfl 4 (by decide) (ht _ xw_451) (fun _ h9 => h9) rfl d_MaskEdgesModel_corner_203 ?_
            refine lv_iload_n hx hb d_MaskEdgesModel_corner_206 rfl (lv_at hl 1 rfl) ?_
            refine lv_iconst (v := (1 : Int32)) hx hb d_MaskEdgesModel_corner_207 (by decide) ?_
            obtain ⟨g208, hf⟩ := x_g hf
            refine va_zast hx hb hK hP (yD hA) hS 4 5 yg4 rfl (xin_in g208) d_MaskEdgesModel_corner_208 (fun H locs hP _ hS => ?_)
            replace hP : va_P X.1 vwCl (wY X ad (Y_u_isClosed ST (upd (Y_isClosed ST) v1.toNatClampNeg (vp_nar .boolean (1 : Int32))))) H := xeq ym_isClosed hP
            refine lv_iconst (v := (1 : Int32)) hx hb d_MaskEdgesModel_corner_209 (by decide) ?_
            replace hf := x_s hf
            subst hf
            subst hQ
            exact W.zret (v := (1 : Int32)) hx hb hr (xz_n (by decide)) (fun t ht hW => ⟨⟨rfl, by rw [ht]; exact hP⟩, hS.F ht⟩) hS.2.2 d_MaskEdgesModel_corner_210
          · replace hf := x_t hc hf
            refine lv_iconst (v := (0 : Int32)) hx hb d_MaskEdgesModel_corner_200 (by decide) ?_
            replace hf := x_s hf
            subst hf
            subst hQ
            exact W.zret (v := (0 : Int32)) hx hb hr (xz_n (by decide)) (fun t ht hW => ⟨⟨rfl, by rw [ht]; exact hP⟩, hS.F ht⟩) hS.2.2 d_MaskEdgesModel_corner_201
  have hL125 : ∀ (v1 : Int32) (v2 : Int64) (v4 : Int64) (v6 : Int32) (v7 : Int32) (v8 : Int32) (s0 : Int32) (ST : ySt), ∀ (H : Heap) (locs : List Loc), va_P X.1 vwCl (wY X ad ST) H → va_S (yA ad) s.heap H locs → ∀ (ls : Array Slot), lv_has ls 10 [(0, .ref (ad 0)), (1, .int v1), (2, .long v2), (4, .long v4), (6, .int v6), (7, .int v7), (8, .int v8)] → f_MaskEdgesModel_corner_125 v1 v2 v4 v6 v7 v8 s0 ST = some res → W p l e (headSpec (Cond.code y_MaskEdgesModel_corner prog_8_method_6_code 10 (some .boolean) :: xT) ({ frames := 1, cells := 0, slots := 0, locals := 25 } : Room)).room s m args below meth c H locs 0 0 Q (F0 m 125 ls [.int s0]) := by
    intro v1 v2 v4 v6 v7 v8 s0 ST H locs hP hS ls hl hf
    unfold f_MaskEdgesModel_corner_125 at hf
    refine lv_istore (lv' := [(9, .int s0), (0, .ref (ad 0)), (1, .int v1), (2, .long v2), (4, .long v4), (6, .int v6), (7, .int v7), (8, .int v8)]) hx hb d_MaskEdgesModel_corner_125 hl (by decide) rfl (fun ls hl => ?_)
    refine lv_iload hx hb d_MaskEdgesModel_corner_127 (lv_at hl 7 rfl) ?_
    refine lv_iload hx hb d_MaskEdgesModel_corner_129 (lv_at hl 0 rfl) ?_
    refine lv_icmp_eq (tgt := 154) hx hb d_MaskEdgesModel_corner_131 (by decide) (fun hc => ?_) (fun hc => ?_)
    · replace hf := x_t hc hf
      refine lv_iconst (v := (0 : Int32)) hx hb d_MaskEdgesModel_corner_154 (by decide) ?_
      replace hf := x_s hf
      subst hf
      subst hQ
      exact W.zret (v := (0 : Int32)) hx hb hr (xz_n (by decide)) (fun t ht hW => ⟨⟨rfl, by rw [ht]; exact hP⟩, hS.F ht⟩) hS.2.2 d_MaskEdgesModel_corner_155
    · replace hf := x_f hc hf
      refine lv_iload hx hb d_MaskEdgesModel_corner_134 (lv_at hl 5 rfl) ?_
      refine lv_iconst (v := (1 : Int32)) hx hb d_MaskEdgesModel_corner_136 (by decide) ?_
      refine lv_icmp_le (tgt := 156) hx hb d_MaskEdgesModel_corner_137 (by decide) (fun hc => ?_) (fun hc => ?_)
      · replace hf := x_t hc hf
        exact hL156 v1 v2 v4 v6 v7 s0 ST _ _ hP hS ls (lv_sub hl [1, 2, 3, 4, 5, 6, 0] rfl) hf
      · replace hf := x_f hc hf
        refine lv_iload hx hb d_MaskEdgesModel_corner_140 (lv_at hl 0 rfl) ?_
        refine lv_aload_n hx hb d_MaskEdgesModel_corner_142 rfl (lv_at hl 1 rfl) ?_
        refine lv_iload_n hx hb d_MaskEdgesModel_corner_143 rfl (lv_at hl 2 rfl) ?_
        refine lv_iload hx hb d_MaskEdgesModel_corner_144 (lv_at hl 5 rfl) ?_
        refine lv_iconst (v := (1 : Int32)) hx hb d_MaskEdgesModel_corner_146 (by decide) ?_
        refine lv_isub hx hb d_MaskEdgesModel_corner_147 ?_
        obtain ⟨c148, e148, hf⟩ := x_b hf
        refine xcR (va_runV (As := [.int v1, .int (v6 - (1 : Int32))]) (rest := [.int s0]) ⟨hx, hb, hml, hown, ht⟩ (c_MaskEdgesModel_goesAlongX l X ad ST v1 (v6 - (1 : Int32)) hP e148) (cwV 2 ht (xgV xw_516 xw_517 xw_14 xw_43 xw_518) rfl rfl rfl (by decide +kernel) ⟨Nat.le_of_ble_eq_true rfl, Nat.le_of_ble_eq_true rfl⟩) (xPV hKK (va_recv hK hP (ci := 6) (q0 := 0) rfl yg0)) rfl rfl hl.1 rfl (lv_room (Nat.le_of_ble_eq_true rfl)) d_MaskEdgesModel_corner_148 ⟨Nat.zero_le _, Nat.zero_le _⟩) ?_
        refine W.eq (g2 := F0 m 151 ls [.int c148, .int s0]) rfl ?_
        refine lv_icmp_ne (tgt := 156) hx hb d_MaskEdgesModel_corner_151 (by decide) (fun hc => ?_) (fun hc => ?_)
        · replace hf := x_f hc hf
          exact hL156 v1 v2 v4 v6 v7 s0 ST _ _ hP hS ls (lv_sub hl [1, 2, 3, 4, 5, 6, 0] rfl) hf
        · replace hf := x_t hc hf
          refine lv_iconst (v := (0 : Int32)) hx hb d_MaskEdgesModel_corner_154 (by decide) ?_
          replace hf := x_s hf
          subst hf
          subst hQ
          exact W.zret (v := (0 : Int32)) hx hb hr (xz_n (by decide)) (fun t ht hW => ⟨⟨rfl, by rw [ht]; exact hP⟩, hS.F ht⟩) hS.2.2 d_MaskEdgesModel_corner_155
  have hL99 : ∀ (v1 : Int32) (v2 : Int64) (v4 : Int64) (v6 : Int32) (v7 : Int32) (s0 : Int32) (ST : ySt), ∀ (H : Heap) (locs : List Loc), va_P X.1 vwCl (wY X ad ST) H → va_S (yA ad) s.heap H locs → ∀ (ls : Array Slot), lv_has ls 10 [(0, .ref (ad 0)), (1, .int v1), (2, .long v2), (4, .long v4), (6, .int v6), (7, .int v7)] → f_MaskEdgesModel_corner_99 v1 v2 v4 v6 v7 s0 ST = some res → W p l e (headSpec (Cond.code y_MaskEdgesModel_corner prog_8_method_6_code 10 (some .boolean) :: xT) ({ frames := 1, cells := 0, slots := 0, locals := 25 } : Room)).room s m args below meth c H locs 0 0 Q (F0 m 99 ls [.int s0]) := by
    intro v1 v2 v4 v6 v7 s0 ST H locs hP hS ls hl hf
    unfold f_MaskEdgesModel_corner_99 at hf
    refine lv_istore (lv' := [(8, .int s0), (0, .ref (ad 0)), (1, .int v1), (2, .long v2), (4, .long v4), (6, .int v6), (7, .int v7)]) hx hb d_MaskEdgesModel_corner_99 hl (by decide) rfl (fun ls hl => ?_)
    refine lv_aload_n hx hb d_MaskEdgesModel_corner_101 rfl (lv_at hl 1 rfl) ?_
    refine va_get (D := X.1) (ci := 6) (v := .ref (ad 2)) (C := "MaskEdgesModel") (T := F_MaskEdgesModel) (N := 28) hx hb ht in_MaskEdgesModel hown hK hP 0 yg0 rfl 2 (by decide) (ht _ xw_449) (fun _ h9 => h9) rfl d_MaskEdgesModel_corner_102 ?_
    refine lv_iload hx hb d_MaskEdgesModel_corner_105 (lv_at hl 6 rfl) ?_
    refine lv_iload hx hb d_MaskEdgesModel_corner_107 (lv_at hl 5 rfl) ?_
    refine lv_iadd hx hb d_MaskEdgesModel_corner_109 ?_
    refine lv_iconst (v := (1 : Int32)) hx hb d_MaskEdgesModel_corner_110 (by decide) ?_
    refine lv_isub hx hb d_MaskEdgesModel_corner_111 ?_
    obtain ⟨g112, hf⟩ := x_g hf
    refine va_iald hx hb hK hP 2 0 yg2 rfl (xin_in g112) d_MaskEdgesModel_corner_112 ?_
    refine lv_i2l hx hb d_MaskEdgesModel_corner_113 rfl ?_
    refine lv_lload hx hb d_MaskEdgesModel_corner_114 (lv_at hl 4 rfl) ?_
    refine W.lcmp hx hb d_MaskEdgesModel_corner_116 ?_
    refine lv_if_ne (tgt := 124) hx hb d_MaskEdgesModel_corner_117 (by decide) (fun hc => ?_) (fun hc => ?_)
    · replace hf := x_f hc hf
      refine lv_iconst (v := (0 : Int32)) hx hb d_MaskEdgesModel_corner_124 (by decide) ?_
      exact hL125 v1 v2 v4 v6 v7 s0 (0 : Int32) ST _ _ hP hS ls (lv_sub hl [1, 2, 3, 4, 5, 6, 0] rfl) hf
    · replace hf := x_t hc hf
      refine lv_iconst (v := (1 : Int32)) hx hb d_MaskEdgesModel_corner_120 (by decide) ?_
      refine lv_goto (tgt := 125) hx hb d_MaskEdgesModel_corner_121 (by decide) ?_
      exact hL125 v1 v2 v4 v6 v7 s0 (1 : Int32) ST _ _ hP hS ls (lv_sub hl [1, 2, 3, 4, 5, 6, 0] rfl) hf
  unfold f_MaskEdgesModel_corner at hf
  refine lv_iload_n hx hb d_MaskEdgesModel_corner_0 rfl (lv_at hl 1 rfl) ?_
  refine lv_i2l hx hb d_MaskEdgesModel_corner_1 rfl ?_
  refine lv_lconst (v := (0 : Int64)) hx hb d_MaskEdgesModel_corner_2 (by decide) ?_
  refine lv_aload_n hx hb d_MaskEdgesModel_corner_3 rfl (lv_at hl 0 rfl) ?_
  refine va_get (D := X.1) (ci := 6) (v := .int (Y_polygons ST)) (C := "MaskEdgesModel") (T := F_MaskEdgesModel) (N := 28) hx hb ht in_MaskEdgesModel hown hK hP 0 yg0 rfl 0 (by decide) (ht _ xw_447) (fun _ h9 => h9) rfl d_MaskEdgesModel_corner_4 ?_
  refine lv_iconst (v := (1 : Int32)) hx hb d_MaskEdgesModel_corner_7 (by decide) ?_
  refine lv_isub hx hb d_MaskEdgesModel_corner_8 ?_
  refine lv_i2l hx hb d_MaskEdgesModel_corner_9 rfl ?_
  obtain ⟨c10, e10, hf⟩ := x_b hf
  refine xcR (va_runS (As := [.long v1.toInt64, .long (0 : Int64), .long (((Y_polygons ST) - (1 : Int32)).toInt64)]) (rest := []) ⟨hx, hb, hml, hown, ht⟩ (c_MaskEdgesModel_isBetween l X v1.toInt64 (0 : Int64) (((Y_polygons ST) - (1 : Int32)).toInt64) e10) (cwS 3 ht (xgS xw_512 xw_513 xw_43 xw_514) rfl rfl rfl (by decide +kernel) ⟨Nat.le_of_ble_eq_true rfl, Nat.le_of_ble_eq_true rfl⟩) (xPS hKK) rfl rfl hl.1 rfl (lv_room (Nat.le_of_ble_eq_true rfl)) d_MaskEdgesModel_corner_10 ⟨Nat.zero_le _, Nat.zero_le _⟩) ?_
  refine W.eq (g2 := F0 m 13 ls [.int c10]) rfl ?_
  refine lv_if_eq (tgt := 55) hx hb d_MaskEdgesModel_corner_13 (by decide) (fun hc => ?_) (fun hc => ?_)
  · replace hf := x_t hc hf
    refine lv_iconst (v := (0 : Int32)) hx hb d_MaskEdgesModel_corner_55 (by decide) ?_
    replace hf := x_s hf
    subst hf
    subst hQ
    exact W.zret (v := (0 : Int32)) hx hb hr (xz_n (by decide)) (fun t ht hW => ⟨⟨rfl, by rw [ht]; exact hP⟩, hS.F ht⟩) hS.2.2 d_MaskEdgesModel_corner_56
  · replace hf := x_f hc hf
    refine lv_aload_n hx hb d_MaskEdgesModel_corner_16 rfl (lv_at hl 0 rfl) ?_
    refine va_get (D := X.1) (ci := 6) (v := .ref (ad 4)) (C := "MaskEdgesModel") (T := F_MaskEdgesModel) (N := 28) hx hb ht in_MaskEdgesModel hown hK hP 0 yg0 rfl 4 (by decide) (ht _ xw_451) (fun _ h9 => h9) rfl d_MaskEdgesModel_corner_17 ?_
    refine lv_iload_n hx hb d_MaskEdgesModel_corner_20 rfl (lv_at hl 1 rfl) ?_
    obtain ⟨g21, hf⟩ := x_g hf
    refine va_zald hx hb hK hP 4 5 yg4 rfl (xin_in g21) d_MaskEdgesModel_corner_21 ?_
    refine lv_if_ne (tgt := 55) hx hb d_MaskEdgesModel_corner_22 (by decide) (fun hc => ?_) (fun hc => ?_)
    · replace hf := x_f hc hf
      refine lv_iconst (v := (0 : Int32)) hx hb d_MaskEdgesModel_corner_55 (by decide) ?_
      replace hf := x_s hf
      subst hf
      subst hQ
      exact W.zret (v := (0 : Int32)) hx hb hr (xz_n (by decide)) (fun t ht hW => ⟨⟨rfl, by rw [ht]; exact hP⟩, hS.F ht⟩) hS.2.2 d_MaskEdgesModel_corner_56
    · replace hf := x_t hc hf
      refine lv_aload_n hx hb d_MaskEdgesModel_corner_25 rfl (lv_at hl 0 rfl) ?_
      refine va_get (D := X.1) (ci := 6) (v := .int (Y_pieces ST)) (C := "MaskEdgesModel") (T := F_MaskEdgesModel) (N := 28) hx hb ht in_MaskEdgesModel hown hK hP 0 yg0 rfl 9 (by decide) (ht _ xw_456) (fun _ h9 => h9) rfl d_MaskEdgesModel_corner_26 ?_
      refine lv_if_gt (tgt := 55) hx hb d_MaskEdgesModel_corner_29 (by decide) (fun hc => ?_) (fun hc => ?_)
      · replace hf := x_t hc hf
        refine lv_iconst (v := (0 : Int32)) hx hb d_MaskEdgesModel_corner_55 (by decide) ?_
        replace hf := x_s hf
        subst hf
        subst hQ
        exact W.zret (v := (0 : Int32)) hx hb hr (xz_n (by decide)) (fun t ht hW => ⟨⟨rfl, by rw [ht]; exact hP⟩, hS.F ht⟩) hS.2.2 d_MaskEdgesModel_corner_56
      · replace hf := x_f hc hf
        refine lv_lload_n hx hb d_MaskEdgesModel_corner_32 rfl (lv_at hl 2 rfl) ?_
        refine lv_lconst (v := (0 : Int64)) hx hb d_MaskEdgesModel_corner_33 (by decide) ?_
        refine lv_ldc2 (v := (48 : Int64)) hx hb hown (ht _ xw_515) d_MaskEdgesModel_corner_34 ?_
        obtain ⟨c37, e37, hf⟩ := x_b hf
        refine xcR (va_runS (As := [.long v2, .long (0 : Int64), .long (48 : Int64)]) (rest := []) ⟨hx, hb, hml, hown, ht⟩ (c_MaskEdgesModel_isBetween l X v2 (0 : Int64) (48 : Int64) e37) (cwS 3 ht (xgS xw_512 xw_513 xw_43 xw_514) rfl rfl rfl (by decide +kernel) ⟨Nat.le_of_ble_eq_true rfl, Nat.le_of_ble_eq_true rfl⟩) (xPS hKK) rfl rfl hl.1 rfl (lv_room (Nat.le_of_ble_eq_true rfl)) d_MaskEdgesModel_corner_37 ⟨Nat.zero_le _, Nat.zero_le _⟩) ?_
        refine W.eq (g2 := F0 m 40 ls [.int c37]) rfl ?_
        refine lv_if_eq (tgt := 55) hx hb d_MaskEdgesModel_corner_40 (by decide) (fun hc => ?_) (fun hc => ?_)
        · replace hf := x_t hc hf
          refine lv_iconst (v := (0 : Int32)) hx hb d_MaskEdgesModel_corner_55 (by decide) ?_
          replace hf := x_s hf
          subst hf
          subst hQ
          exact W.zret (v := (0 : Int32)) hx hb hr (xz_n (by decide)) (fun t ht hW => ⟨⟨rfl, by rw [ht]; exact hP⟩, hS.F ht⟩) hS.2.2 d_MaskEdgesModel_corner_56
        · replace hf := x_f hc hf
          refine lv_lload hx hb d_MaskEdgesModel_corner_43 (lv_at hl 3 rfl) ?_
          refine lv_lconst (v := (0 : Int64)) hx hb d_MaskEdgesModel_corner_45 (by decide) ?_
          refine lv_ldc2 (v := (48 : Int64)) hx hb hown (ht _ xw_515) d_MaskEdgesModel_corner_46 ?_
          obtain ⟨c49, e49, hf⟩ := x_b hf
          refine xcR (va_runS (As := [.long v4, .long (0 : Int64), .long (48 : Int64)]) (rest := []) ⟨hx, hb, hml, hown, ht⟩ (c_MaskEdgesModel_isBetween l X v4 (0 : Int64) (48 : Int64) e49) (cwS 3 ht (xgS xw_512 xw_513 xw_43 xw_514) rfl rfl rfl (by decide +kernel) ⟨Nat.le_of_ble_eq_true rfl, Nat.le_of_ble_eq_true rfl⟩) (xPS hKK) rfl rfl hl.1 rfl (lv_room (Nat.le_of_ble_eq_true rfl)) d_MaskEdgesModel_corner_49 ⟨Nat.zero_le _, Nat.zero_le _⟩) ?_
          refine W.eq (g2 := F0 m 52 ls [.int c49]) rfl ?_
          refine lv_if_ne (tgt := 57) hx hb d_MaskEdgesModel_corner_52 (by decide) (fun hc => ?_) (fun hc => ?_)
          · replace hf := x_f hc hf
            refine lv_aload_n hx hb d_MaskEdgesModel_corner_57 rfl (lv_at hl 0 rfl) ?_
            refine va_get (D := X.1) (ci := 6) (v := .ref (ad 3)) (C := "MaskEdgesModel") (T := F_MaskEdgesModel) (N := 28) hx hb ht in_MaskEdgesModel hown hK hP 0 yg0 rfl 3 (by decide) (ht _ xw_450) (fun _ h9 => h9) rfl d_MaskEdgesModel_corner_58 ?_
            refine lv_iload_n hx hb d_MaskEdgesModel_corner_61 rfl (lv_at hl 1 rfl) ?_
            obtain ⟨g62, hf⟩ := x_g hf
            refine va_iald hx hb hK hP 3 0 yg3 rfl (xin_in g62) d_MaskEdgesModel_corner_62 ?_
            refine lv_istore (lv' := [(6, .int (Y_sizes ST v1.toNatClampNeg)), (0, .ref (ad 0)), (1, .int v1), (2, .long v2), (4, .long v4)]) hx hb d_MaskEdgesModel_corner_63 hl (by decide) rfl (fun ls hl => ?_)
            refine lv_bipush (v := (16 : Int32)) hx hb d_MaskEdgesModel_corner_65 (by decide) ?_
            refine lv_iload_n hx hb d_MaskEdgesModel_corner_67 rfl (lv_at hl 2 rfl) ?_
            refine lv_imul hx hb d_MaskEdgesModel_corner_68 ?_
            refine lv_istore (lv' := [(7, .int ((16 : Int32) * v1)), (6, .int (Y_sizes ST v1.toNatClampNeg)), (0, .ref (ad 0)), (1, .int v1), (2, .long v2), (4, .long v4)]) hx hb d_MaskEdgesModel_corner_69 hl (by decide) rfl (fun ls hl => ?_)
            refine lv_iload hx hb d_MaskEdgesModel_corner_71 (lv_at hl 1 rfl) ?_
            refine lv_if_le (tgt := 211) hx hb d_MaskEdgesModel_corner_73 (by decide) (fun hc => ?_) (fun hc => ?_)
            · replace hf := x_t hc hf
              exact hL211 v1 v2 v4 (Y_sizes ST v1.toNatClampNeg) ((16 : Int32) * v1) ST _ _ hP hS ls (lv_sub hl [2, 3, 4, 5, 1, 0] rfl) hf
            · replace hf := x_f hc hf
              refine lv_aload_n hx hb d_MaskEdgesModel_corner_76 rfl (lv_at hl 2 rfl) ?_
              refine va_get (D := X.1) (ci := 6) (v := .ref (ad 1)) (C := "MaskEdgesModel") (T := F_MaskEdgesModel) (N := 28) hx hb ht in_MaskEdgesModel hown hK hP 0 yg0 rfl 1 (by decide) (ht _ xw_448) (fun _ h9 => h9) rfl d_MaskEdgesModel_corner_77 ?_
              refine lv_iload hx hb d_MaskEdgesModel_corner_80 (lv_at hl 0 rfl) ?_
              refine lv_iload hx hb d_MaskEdgesModel_corner_82 (lv_at hl 1 rfl) ?_
              refine lv_iadd hx hb d_MaskEdgesModel_corner_84 ?_
              refine lv_iconst (v := (1 : Int32)) hx hb d_MaskEdgesModel_corner_85 (by decide) ?_
              refine lv_isub hx hb d_MaskEdgesModel_corner_86 ?_
              obtain ⟨g87, hf⟩ := x_g hf
              refine va_iald hx hb hK hP 1 0 yg1 rfl (xin_in g87) d_MaskEdgesModel_corner_87 ?_
              refine lv_i2l hx hb d_MaskEdgesModel_corner_88 rfl ?_
              refine lv_lload_n hx hb d_MaskEdgesModel_corner_89 rfl (lv_at hl 4 rfl) ?_
              refine W.lcmp hx hb d_MaskEdgesModel_corner_90 ?_
              refine lv_if_ne (tgt := 98) hx hb d_MaskEdgesModel_corner_91 (by decide) (fun hc => ?_) (fun hc => ?_)
              · replace hf := x_f hc hf
                refine lv_iconst (v := (0 : Int32)) hx hb d_MaskEdgesModel_corner_98 (by decide) ?_
                exact hL99 v1 v2 v4 (Y_sizes ST v1.toNatClampNeg) ((16 : Int32) * v1) (0 : Int32) ST _ _ hP hS ls (lv_sub hl [2, 3, 4, 5, 1, 0] rfl) hf
              · replace hf := x_t hc hf
                refine lv_iconst (v := (1 : Int32)) hx hb d_MaskEdgesModel_corner_94 (by decide) ?_
                refine lv_goto (tgt := 99) hx hb d_MaskEdgesModel_corner_95 (by decide) ?_
                exact hL99 v1 v2 v4 (Y_sizes ST v1.toNatClampNeg) ((16 : Int32) * v1) (1 : Int32) ST _ _ hP hS ls (lv_sub hl [2, 3, 4, 5, 1, 0] rfl) hf
          · replace hf := x_t hc hf
            refine lv_iconst (v := (0 : Int32)) hx hb d_MaskEdgesModel_corner_55 (by decide) ?_
            replace hf := x_s hf
            subst hf
            subst hQ
            exact W.zret (v := (0 : Int32)) hx hb hr (xz_n (by decide)) (fun t ht hW => ⟨⟨rfl, by rw [ht]; exact hP⟩, hS.F ht⟩) hS.2.2 d_MaskEdgesModel_corner_56
def f_MaskEdgesModel_isIn_180 (ST : ySt) (r6 : Int32 → Int32 → Int32 → Int32 → Int32 → Option (Int32)) (v1 : Int32) (v2 : Int32) (v3 : Int32) (v5 : Int32) (s0 : Int32) : Option (Int32) :=
  r6 v1 v2 v3 s0 (v5 + (1 : Int32))
def f_MaskEdgesModel_isIn_178 (ST : ySt) (r6 : Int32 → Int32 → Int32 → Int32 → Int32 → Option (Int32)) (v1 : Int32) (v2 : Int32) (v3 : Int32) (v4 : Int32) (v5 : Int32) : Option (Int32) :=
  (f_MaskEdgesModel_isIn_180 ST r6) v1 v2 v3 v5 v4
def f_MaskEdgesModel_isIn_123 (ST : ySt) (r6 : Int32 → Int32 → Int32 → Int32 → Int32 → Option (Int32)) (v1 : Int32) (v2 : Int32) (v3 : Int32) (v4 : Int32) (v5 : Int32) (v6 : Int32) (v7 : Int32) (v8 : Int32) (s0 : Int32) : Option (Int32) :=
  if xin v6 64 = true then
  if xin v7 64 = true then
    if (Y_xs ST v6.toNatClampNeg) = (Y_xs ST v7.toNatClampNeg) then
      if xin v6 64 = true then
        if v2 < (Y_xs ST v6.toNatClampNeg) then
          (f_MaskEdgesModel_isIn_178 ST r6) v1 v2 v3 v4 v5
        else
          if v3 < v8 then
            (f_MaskEdgesModel_isIn_178 ST r6) v1 v2 v3 v4 v5
          else
            if s0 ≤ v3 then
              (f_MaskEdgesModel_isIn_178 ST r6) v1 v2 v3 v4 v5
            else
              if v4 = 0 then
                (f_MaskEdgesModel_isIn_180 ST r6) v1 v2 v3 v5 (1 : Int32)
              else
                (f_MaskEdgesModel_isIn_180 ST r6) v1 v2 v3 v5 (0 : Int32)
      else none
    else
      (f_MaskEdgesModel_isIn_178 ST r6) v1 v2 v3 v4 v5
  else none
else none
def f_MaskEdgesModel_isIn_87 (ST : ySt) (r6 : Int32 → Int32 → Int32 → Int32 → Int32 → Option (Int32)) (v1 : Int32) (v2 : Int32) (v3 : Int32) (v4 : Int32) (v5 : Int32) (v6 : Int32) (v7 : Int32) (s0 : Int32) : Option (Int32) :=
  if xin v6 64 = true then
  if xin v7 64 = true then
    if (Y_ys ST v7.toNatClampNeg) ≤ (Y_ys ST v6.toNatClampNeg) then
      if xin v6 64 = true then
        (f_MaskEdgesModel_isIn_123 ST r6) v1 v2 v3 v4 v5 v6 v7 s0 (Y_ys ST v6.toNatClampNeg)
      else none
    else
      if xin v7 64 = true then
        (f_MaskEdgesModel_isIn_123 ST r6) v1 v2 v3 v4 v5 v6 v7 s0 (Y_ys ST v7.toNatClampNeg)
      else none
  else none
else none
def f_MaskEdgesModel_isIn_6 (ST : ySt) (r6 : Int32 → Int32 → Int32 → Int32 → Int32 → Option (Int32)) (k188 : Int32 → Int32 → Int32 → Option (Int32)) (v1 : Int32) (v2 : Int32) (v3 : Int32) (v4 : Int32) (v5 : Int32) : Option (Int32) :=
  if xin v1 4 = true then
  if (Y_sizes ST v1.toNatClampNeg) ≤ v5 then
    k188 v2 v3 v4
  else
    if xin v1 4 = true then
      if (Y_isClosed ST v1.toNatClampNeg) = 0 then
        k188 v2 v3 v4
      else
        if xin v1 4 = true then
          if (Y_sizes ST v1.toNatClampNeg) = 0 then none else
            if xin (((16 : Int32) * v1) + v5) 64 = true then
            if xin (((16 : Int32) * v1) + ((v5 + (1 : Int32)) - (v5 + (1 : Int32)) / (Y_sizes ST v1.toNatClampNeg) * (Y_sizes ST v1.toNatClampNeg))) 64 = true then
              if (Y_ys ST (((16 : Int32) * v1) + ((v5 + (1 : Int32)) - (v5 + (1 : Int32)) / (Y_sizes ST v1.toNatClampNeg) * (Y_sizes ST v1.toNatClampNeg))).toNatClampNeg) ≤ (Y_ys ST (((16 : Int32) * v1) + v5).toNatClampNeg) then
                if xin (((16 : Int32) * v1) + ((v5 + (1 : Int32)) - (v5 + (1 : Int32)) / (Y_sizes ST v1.toNatClampNeg) * (Y_sizes ST v1.toNatClampNeg))) 64 = true then
                  (f_MaskEdgesModel_isIn_87 ST r6) v1 v2 v3 v4 v5 (((16 : Int32) * v1) + v5) (((16 : Int32) * v1) + ((v5 + (1 : Int32)) - (v5 + (1 : Int32)) / (Y_sizes ST v1.toNatClampNeg) * (Y_sizes ST v1.toNatClampNeg))) (Y_ys ST (((16 : Int32) * v1) + ((v5 + (1 : Int32)) - (v5 + (1 : Int32)) / (Y_sizes ST v1.toNatClampNeg) * (Y_sizes ST v1.toNatClampNeg))).toNatClampNeg)
                else none
              else
                if xin (((16 : Int32) * v1) + v5) 64 = true then
                  (f_MaskEdgesModel_isIn_87 ST r6) v1 v2 v3 v4 v5 (((16 : Int32) * v1) + v5) (((16 : Int32) * v1) + ((v5 + (1 : Int32)) - (v5 + (1 : Int32)) / (Y_sizes ST v1.toNatClampNeg) * (Y_sizes ST v1.toNatClampNeg))) (Y_ys ST (((16 : Int32) * v1) + v5).toNatClampNeg)
                else none
            else none
          else none
        else none
    else none
else none
def f_MaskEdgesModel_isIn_188 (ST : ySt) (v2 : Int32) (v3 : Int32) (v4 : Int32) : Option (Int32) :=
  if v4 = 0 then
  some (0 : Int32)
else
  (f_MaskEdgesModel_isCell v2 v3).bind fun c195 =>
    if c195 = 0 then
    some (0 : Int32)
  else
    some (1 : Int32)
def f_MaskEdgesModel_isIn (ST : ySt) (v1 : Int32) (v2 : Int32) (v3 : Int32) : Option (Int32) :=
  (xloop (fun r => f_MaskEdgesModel_isIn_6 ST r (f_MaskEdgesModel_isIn_188 ST)) (fun _ _ _ _ _ => none) 100000) v1 v2 v3 (0 : Int32) (0 : Int32)
set_option maxHeartbeats 4000000 in
set_option maxRecDepth 100000 in
theorem c_MaskEdgesModel_isIn (l : Launch) (X : xG) {H : Heap} (ad : Nat → Nat) (ST : ySt) (v1 : Int32) (v2 : Int32) (v3 : Int32) {res : Int32} (hP : va_P X.1 vwCl (wY X ad ST) H) (hf : f_MaskEdgesModel_isIn ST v1 v2 v3 = some res) : xM l y_MaskEdgesModel_isIn (Cond.code y_MaskEdgesModel_isIn prog_8_method_7_code 10 (some .boolean) :: xT) ({ frames := 2, cells := 0, slots := 0, locals := 46 } : Room) (xK X) [.ref (ad 0), .int v1, .int v2, .int v3] H xNo (some (.int res)) (fun H1 => H1 = H) := by
  refine Met.ofW (cc := prog_8_method_7_code) (maxL := 10) (ret := (some .boolean)) (by decide) rfl ?_
  intro p e s m args below meth c s₁ B hml hv
  obtain ⟨ha, hH, hKK⟩ := hv
  subst hH
  have hx := B.exec
  have hb := B.bytes
  have hr := B.returns
  have ht : ∀ w ∈ xT, w.before args s = true := fun w h => atoms_spec (ws := (Cond.code y_MaskEdgesModel_isIn prog_8_method_7_code 10 (some .boolean) :: xT)) B.pre w (List.mem_cons_of_mem _ h)
  have hown : s.vm.findClass "MaskEdgesModel" = some m.cls := findClass_of_methodNamed B.named
  have hlocks := B.notSynchronized
  have hK := hKK.1
  rw [show entryFrame m args 10 = entryFrame m ([.ref (ad 0), .int v1, .int v2, .int v3] : List Value).toArray 10 from by rw [ha]]
  clear ha
  have hl := lv_entry ([.ref (ad 0), .int v1, .int v2, .int v3]) (n := 10) (Nat.le_of_ble_eq_true rfl)
  rw [lg_entry_eq]
  generalize (lg_sl ([.ref (ad 0), .int v1, .int v2, .int v3]) ++ List.replicate (10 - (lg_sl ([.ref (ad 0), .int v1, .int v2, .int v3])).length) Slot.unset).toArray = ls at hl ⊢
  replace hl : lv_has ls 10 [(0, .ref (ad 0)), (1, .int v1), (2, .int v2), (3, .int v3)] := hl
  refine x_Q (fun Q hQ => ?_)
  have hL180 : ∀ (r6 : Int32 → Int32 → Int32 → Int32 → Int32 → Option (Int32)) (hr6 : ∀ (v1 : Int32) (v2 : Int32) (v3 : Int32) (v4 : Int32) (v5 : Int32), ∀ (ls : Array Slot), lv_has ls 10 [(0, .ref (ad 0)), (1, .int v1), (2, .int v2), (3, .int v3), (4, .int v4), (5, .int v5)] → r6 v1 v2 v3 v4 v5 = some res → W p l e (headSpec (Cond.code y_MaskEdgesModel_isIn prog_8_method_7_code 10 (some .boolean) :: xT) ({ frames := 2, cells := 0, slots := 0, locals := 46 } : Room)).room s m args below meth c s.heap [] 0 0 Q (F0 m 6 ls [])), ∀ (v1 : Int32) (v2 : Int32) (v3 : Int32) (v5 : Int32) (s0 : Int32), ∀ (ls : Array Slot), lv_has ls 10 [(0, .ref (ad 0)), (1, .int v1), (2, .int v2), (3, .int v3), (5, .int v5)] → f_MaskEdgesModel_isIn_180 ST r6 v1 v2 v3 v5 s0 = some res → W p l e (headSpec (Cond.code y_MaskEdgesModel_isIn prog_8_method_7_code 10 (some .boolean) :: xT) ({ frames := 2, cells := 0, slots := 0, locals := 46 } : Room)).room s m args below meth c s.heap [] 0 0 Q (F0 m 180 ls [.int s0]) := by
    intro r6 hr6 v1 v2 v3 v5 s0 ls hl hf
    unfold f_MaskEdgesModel_isIn_180 at hf
    refine lv_istore (lv' := [(4, .int s0), (0, .ref (ad 0)), (1, .int v1), (2, .int v2), (3, .int v3), (5, .int v5)]) hx hb d_MaskEdgesModel_isIn_180 hl (by decide) rfl (fun ls hl => ?_)
    refine lv_iinc (v := (v5 + (1 : Int32))) (lv' := [(5, .int (v5 + (1 : Int32))), (4, .int s0), (0, .ref (ad 0)), (1, .int v1), (2, .int v2), (3, .int v3)]) hx hb d_MaskEdgesModel_isIn_182 hl (k := 5) rfl rfl (by decide) rfl (fun ls hl => ?_)
    refine lv_goto (tgt := 6) hx hb d_MaskEdgesModel_isIn_185 (by decide) ?_
    exact hr6 v1 v2 v3 s0 (v5 + (1 : Int32))  ls (lv_sub hl [2, 3, 4, 5, 1, 0] rfl) hf
  have hL178 : ∀ (r6 : Int32 → Int32 → Int32 → Int32 → Int32 → Option (Int32)) (hr6 : ∀ (v1 : Int32) (v2 : Int32) (v3 : Int32) (v4 : Int32) (v5 : Int32), ∀ (ls : Array Slot), lv_has ls 10 [(0, .ref (ad 0)), (1, .int v1), (2, .int v2), (3, .int v3), (4, .int v4), (5, .int v5)] → r6 v1 v2 v3 v4 v5 = some res → W p l e (headSpec (Cond.code y_MaskEdgesModel_isIn prog_8_method_7_code 10 (some .boolean) :: xT) ({ frames := 2, cells := 0, slots := 0, locals := 46 } : Room)).room s m args below meth c s.heap [] 0 0 Q (F0 m 6 ls [])), ∀ (v1 : Int32) (v2 : Int32) (v3 : Int32) (v4 : Int32) (v5 : Int32), ∀ (ls : Array Slot), lv_has ls 10 [(0, .ref (ad 0)), (1, .int v1), (2, .int v2), (3, .int v3), (4, .int v4), (5, .int v5)] → f_MaskEdgesModel_isIn_178 ST r6 v1 v2 v3 v4 v5 = some res → W p l e (headSpec (Cond.code y_MaskEdgesModel_isIn prog_8_method_7_code 10 (some .boolean) :: xT) ({ frames := 2, cells := 0, slots := 0, locals := 46 } : Room)).room s m args below meth c s.heap [] 0 0 Q (F0 m 178 ls []) := by
    intro r6 hr6 v1 v2 v3 v4 v5 ls hl hf
    unfold f_MaskEdgesModel_isIn_178 at hf
    refine lv_iload hx hb d_MaskEdgesModel_isIn_178 (lv_at hl 4 rfl) ?_
    exact (hL180 _ hr6) v1 v2 v3 v5 v4  ls (lv_sub hl [0, 1, 2, 3, 5] rfl) hf
  have hL123 : ∀ (r6 : Int32 → Int32 → Int32 → Int32 → Int32 → Option (Int32)) (hr6 : ∀ (v1 : Int32) (v2 : Int32) (v3 : Int32) (v4 : Int32) (v5 : Int32), ∀ (ls : Array Slot), lv_has ls 10 [(0, .ref (ad 0)), (1, .int v1), (2, .int v2), (3, .int v3), (4, .int v4), (5, .int v5)] → r6 v1 v2 v3 v4 v5 = some res → W p l e (headSpec (Cond.code y_MaskEdgesModel_isIn prog_8_method_7_code 10 (some .boolean) :: xT) ({ frames := 2, cells := 0, slots := 0, locals := 46 } : Room)).room s m args below meth c s.heap [] 0 0 Q (F0 m 6 ls [])), ∀ (v1 : Int32) (v2 : Int32) (v3 : Int32) (v4 : Int32) (v5 : Int32) (v6 : Int32) (v7 : Int32) (v8 : Int32) (s0 : Int32), ∀ (ls : Array Slot), lv_has ls 10 [(0, .ref (ad 0)), (1, .int v1), (2, .int v2), (3, .int v3), (4, .int v4), (5, .int v5), (6, .int v6), (7, .int v7), (8, .int v8)] → f_MaskEdgesModel_isIn_123 ST r6 v1 v2 v3 v4 v5 v6 v7 v8 s0 = some res → W p l e (headSpec (Cond.code y_MaskEdgesModel_isIn prog_8_method_7_code 10 (some .boolean) :: xT) ({ frames := 2, cells := 0, slots := 0, locals := 46 } : Room)).room s m args below meth c s.heap [] 0 0 Q (F0 m 123 ls [.int s0]) := by
    intro r6 hr6 v1 v2 v3 v4 v5 v6 v7 v8 s0 ls hl hf
    unfold f_MaskEdgesModel_isIn_123 at hf
    refine lv_istore (lv' := [(9, .int s0), (0, .ref (ad 0)), (1, .int v1), (2, .int v2), (3, .int v3), (4, .int v4), (5, .int v5), (6, .int v6), (7, .int v7), (8, .int v8)]) hx hb d_MaskEdgesModel_isIn_123 hl (by decide) rfl (fun ls hl => ?_)
    refine lv_aload_n hx hb d_MaskEdgesModel_isIn_125 rfl (lv_at hl 1 rfl) ?_
    refine va_get (D := X.1) (ci := 6) (v := .ref (ad 1)) (C := "MaskEdgesModel") (T := F_MaskEdgesModel) (N := 28) hx hb ht in_MaskEdgesModel hown hK hP 0 yg0 rfl 1 (by decide) (ht _ xw_448) (fun _ h9 => h9) rfl d_MaskEdgesModel_isIn_126 ?_
    refine lv_iload hx hb d_MaskEdgesModel_isIn_129 (lv_at hl 7 rfl) ?_
    obtain ⟨g131, hf⟩ := x_g hf
    refine va_iald hx hb hK hP 1 0 yg1 rfl (xin_in g131) d_MaskEdgesModel_isIn_131 ?_
    refine lv_aload_n hx hb d_MaskEdgesModel_isIn_132 rfl (lv_at hl 1 rfl) ?_
    refine va_get (D := X.1) (ci := 6) (v := .ref (ad 1)) (C := "MaskEdgesModel") (T := F_MaskEdgesModel) (N := 28) hx hb ht in_MaskEdgesModel hown hK hP 0 yg0 rfl 1 (by decide) (ht _ xw_448) (fun _ h9 => h9) rfl d_MaskEdgesModel_isIn_133 ?_
    refine lv_iload hx hb d_MaskEdgesModel_isIn_136 (lv_at hl 8 rfl) ?_
    obtain ⟨g138, hf⟩ := x_g hf
    refine va_iald hx hb hK hP 1 0 yg1 rfl (xin_in g138) d_MaskEdgesModel_isIn_138 ?_
    refine lv_icmp_ne (tgt := 178) hx hb d_MaskEdgesModel_isIn_139 (by decide) (fun hc => ?_) (fun hc => ?_)
    · replace hf := x_f hc hf
      exact (hL178 _ hr6) v1 v2 v3 v4 v5  ls (lv_sub hl [1, 2, 3, 4, 5, 6] rfl) hf
    · replace hf := x_t hc hf
      refine lv_aload_n hx hb d_MaskEdgesModel_isIn_142 rfl (lv_at hl 1 rfl) ?_
      refine va_get (D := X.1) (ci := 6) (v := .ref (ad 1)) (C := "MaskEdgesModel") (T := F_MaskEdgesModel) (N := 28) hx hb ht in_MaskEdgesModel hown hK hP 0 yg0 rfl 1 (by decide) (ht _ xw_448) (fun _ h9 => h9) rfl d_MaskEdgesModel_isIn_143 ?_
      refine lv_iload hx hb d_MaskEdgesModel_isIn_146 (lv_at hl 7 rfl) ?_
      obtain ⟨g148, hf⟩ := x_g hf
      refine va_iald hx hb hK hP 1 0 yg1 rfl (xin_in g148) d_MaskEdgesModel_isIn_148 ?_
      refine lv_iload_n hx hb d_MaskEdgesModel_isIn_149 rfl (lv_at hl 3 rfl) ?_
      refine lv_icmp_gt (tgt := 178) hx hb d_MaskEdgesModel_isIn_150 (by decide) (fun hc => ?_) (fun hc => ?_)
      · replace hf := x_t hc hf
        exact (hL178 _ hr6) v1 v2 v3 v4 v5  ls (lv_sub hl [1, 2, 3, 4, 5, 6] rfl) hf
      · replace hf := x_f hc hf
        refine lv_iload hx hb d_MaskEdgesModel_isIn_153 (lv_at hl 9 rfl) ?_
        refine lv_iload_n hx hb d_MaskEdgesModel_isIn_155 rfl (lv_at hl 4 rfl) ?_
        refine lv_icmp_gt (tgt := 178) hx hb d_MaskEdgesModel_isIn_156 (by decide) (fun hc => ?_) (fun hc => ?_)
        · replace hf := x_t hc hf
          exact (hL178 _ hr6) v1 v2 v3 v4 v5  ls (lv_sub hl [1, 2, 3, 4, 5, 6] rfl) hf
        · replace hf := x_f hc hf
          refine lv_iload_n hx hb d_MaskEdgesModel_isIn_159 rfl (lv_at hl 4 rfl) ?_
          refine lv_iload hx hb d_MaskEdgesModel_isIn_160 (lv_at hl 0 rfl) ?_
          refine lv_icmp_ge (tgt := 178) hx hb d_MaskEdgesModel_isIn_162 (by decide) (fun hc => ?_) (fun hc => ?_)
          · replace hf := x_t hc hf
            exact (hL178 _ hr6) v1 v2 v3 v4 v5  ls (lv_sub hl [1, 2, 3, 4, 5, 6] rfl) hf
          · replace hf := x_f hc hf
            refine lv_iload hx hb d_MaskEdgesModel_isIn_165 (lv_at hl 5 rfl) ?_
            refine lv_if_ne (tgt := 174) hx hb d_MaskEdgesModel_isIn_167 (by decide) (fun hc => ?_) (fun hc => ?_)
            · replace hf := x_f hc hf
              refine lv_iconst (v := (0 : Int32)) hx hb d_MaskEdgesModel_isIn_174 (by decide) ?_
              refine lv_goto (tgt := 180) hx hb d_MaskEdgesModel_isIn_175 (by decide) ?_
              exact (hL180 _ hr6) v1 v2 v3 v5 (0 : Int32)  ls (lv_sub hl [1, 2, 3, 4, 6] rfl) hf
            · replace hf := x_t hc hf
              refine lv_iconst (v := (1 : Int32)) hx hb d_MaskEdgesModel_isIn_170 (by decide) ?_
              refine lv_goto (tgt := 180) hx hb d_MaskEdgesModel_isIn_171 (by decide) ?_
              exact (hL180 _ hr6) v1 v2 v3 v5 (1 : Int32)  ls (lv_sub hl [1, 2, 3, 4, 6] rfl) hf
  have hL87 : ∀ (r6 : Int32 → Int32 → Int32 → Int32 → Int32 → Option (Int32)) (hr6 : ∀ (v1 : Int32) (v2 : Int32) (v3 : Int32) (v4 : Int32) (v5 : Int32), ∀ (ls : Array Slot), lv_has ls 10 [(0, .ref (ad 0)), (1, .int v1), (2, .int v2), (3, .int v3), (4, .int v4), (5, .int v5)] → r6 v1 v2 v3 v4 v5 = some res → W p l e (headSpec (Cond.code y_MaskEdgesModel_isIn prog_8_method_7_code 10 (some .boolean) :: xT) ({ frames := 2, cells := 0, slots := 0, locals := 46 } : Room)).room s m args below meth c s.heap [] 0 0 Q (F0 m 6 ls [])), ∀ (v1 : Int32) (v2 : Int32) (v3 : Int32) (v4 : Int32) (v5 : Int32) (v6 : Int32) (v7 : Int32) (s0 : Int32), ∀ (ls : Array Slot), lv_has ls 10 [(0, .ref (ad 0)), (1, .int v1), (2, .int v2), (3, .int v3), (4, .int v4), (5, .int v5), (6, .int v6), (7, .int v7)] → f_MaskEdgesModel_isIn_87 ST r6 v1 v2 v3 v4 v5 v6 v7 s0 = some res → W p l e (headSpec (Cond.code y_MaskEdgesModel_isIn prog_8_method_7_code 10 (some .boolean) :: xT) ({ frames := 2, cells := 0, slots := 0, locals := 46 } : Room)).room s m args below meth c s.heap [] 0 0 Q (F0 m 87 ls [.int s0]) := by
    intro r6 hr6 v1 v2 v3 v4 v5 v6 v7 s0 ls hl hf
    unfold f_MaskEdgesModel_isIn_87 at hf
    refine lv_istore (lv' := [(8, .int s0), (0, .ref (ad 0)), (1, .int v1), (2, .int v2), (3, .int v3), (4, .int v4), (5, .int v5), (6, .int v6), (7, .int v7)]) hx hb d_MaskEdgesModel_isIn_87 hl (by decide) rfl (fun ls hl => ?_)
    refine lv_aload_n hx hb d_MaskEdgesModel_isIn_89 rfl (lv_at hl 1 rfl) ?_
    refine va_get (D := X.1) (ci := 6) (v := .ref (ad 2)) (C := "MaskEdgesModel") (T := F_MaskEdgesModel) (N := 28) hx hb ht in_MaskEdgesModel hown hK hP 0 yg0 rfl 2 (by decide) (ht _ xw_449) (fun _ h9 => h9) rfl d_MaskEdgesModel_isIn_90 ?_
    refine lv_iload hx hb d_MaskEdgesModel_isIn_93 (lv_at hl 7 rfl) ?_
    obtain ⟨g95, hf⟩ := x_g hf
    refine va_iald hx hb hK hP 2 0 yg2 rfl (xin_in g95) d_MaskEdgesModel_isIn_95 ?_
    refine lv_aload_n hx hb d_MaskEdgesModel_isIn_96 rfl (lv_at hl 1 rfl) ?_
    refine va_get (D := X.1) (ci := 6) (v := .ref (ad 2)) (C := "MaskEdgesModel") (T := F_MaskEdgesModel) (N := 28) hx hb ht in_MaskEdgesModel hown hK hP 0 yg0 rfl 2 (by decide) (ht _ xw_449) (fun _ h9 => h9) rfl d_MaskEdgesModel_isIn_97 ?_
    refine lv_iload hx hb d_MaskEdgesModel_isIn_100 (lv_at hl 8 rfl) ?_
    obtain ⟨g102, hf⟩ := x_g hf
    refine va_iald hx hb hK hP 2 0 yg2 rfl (xin_in g102) d_MaskEdgesModel_isIn_102 ?_
    refine lv_icmp_ge (tgt := 116) hx hb d_MaskEdgesModel_isIn_103 (by decide) (fun hc => ?_) (fun hc => ?_)
    · replace hf := x_t hc hf
      refine lv_aload_n hx hb d_MaskEdgesModel_isIn_116 rfl (lv_at hl 1 rfl) ?_
      refine va_get (D := X.1) (ci := 6) (v := .ref (ad 2)) (C := "MaskEdgesModel") (T := F_MaskEdgesModel) (N := 28) hx hb ht in_MaskEdgesModel hown hK hP 0 yg0 rfl 2 (by decide) (ht _ xw_449) (fun _ h9 => h9) rfl d_MaskEdgesModel_isIn_117 ?_
      refine lv_iload hx hb d_MaskEdgesModel_isIn_120 (lv_at hl 7 rfl) ?_
      obtain ⟨g122, hf⟩ := x_g hf
      refine va_iald hx hb hK hP 2 0 yg2 rfl (xin_in g122) d_MaskEdgesModel_isIn_122 ?_
      exact (hL123 _ hr6) v1 v2 v3 v4 v5 v6 v7 s0 (Y_ys ST v6.toNatClampNeg)  ls (lv_sub hl [1, 2, 3, 4, 5, 6, 7, 8, 0] rfl) hf
    · replace hf := x_f hc hf
      refine lv_aload_n hx hb d_MaskEdgesModel_isIn_106 rfl (lv_at hl 1 rfl) ?_
      refine va_get (D := X.1) (ci := 6) (v := .ref (ad 2)) (C := "MaskEdgesModel") (T := F_MaskEdgesModel) (N := 28) hx hb ht in_MaskEdgesModel hown hK hP 0 yg0 rfl 2 (by decide) (ht _ xw_449) (fun _ h9 => h9) rfl d_MaskEdgesModel_isIn_107 ?_
      refine lv_iload hx hb d_MaskEdgesModel_isIn_110 (lv_at hl 8 rfl) ?_
      obtain ⟨g112, hf⟩ := x_g hf
      refine va_iald hx hb hK hP 2 0 yg2 rfl (xin_in g112) d_MaskEdgesModel_isIn_112 ?_
      refine lv_goto (tgt := 123) hx hb d_MaskEdgesModel_isIn_113 (by decide) ?_
      exact (hL123 _ hr6) v1 v2 v3 v4 v5 v6 v7 s0 (Y_ys ST v7.toNatClampNeg)  ls (lv_sub hl [1, 2, 3, 4, 5, 6, 7, 8, 0] rfl) hf
  have hL6 : ∀ (k188 : Int32 → Int32 → Int32 → Option (Int32)) (hk188 : ∀ (v2 : Int32) (v3 : Int32) (v4 : Int32), ∀ (ls : Array Slot), lv_has ls 10 [(2, .int v2), (3, .int v3), (4, .int v4)] → k188 v2 v3 v4 = some res → W p l e (headSpec (Cond.code y_MaskEdgesModel_isIn prog_8_method_7_code 10 (some .boolean) :: xT) ({ frames := 2, cells := 0, slots := 0, locals := 46 } : Room)).room s m args below meth c s.heap [] 0 0 Q (F0 m 188 ls [])), ∀ (n : Nat), ∀ (v1 : Int32) (v2 : Int32) (v3 : Int32) (v4 : Int32) (v5 : Int32), ∀ (ls : Array Slot), lv_has ls 10 [(0, .ref (ad 0)), (1, .int v1), (2, .int v2), (3, .int v3), (4, .int v4), (5, .int v5)] → (xloop (fun r => f_MaskEdgesModel_isIn_6 ST r k188) (fun _ _ _ _ _ => none) n) v1 v2 v3 v4 v5 = some res → W p l e (headSpec (Cond.code y_MaskEdgesModel_isIn prog_8_method_7_code 10 (some .boolean) :: xT) ({ frames := 2, cells := 0, slots := 0, locals := 46 } : Room)).room s m args below meth c s.heap [] 0 0 Q (F0 m 6 ls []) := by
    intro k188 hk188
    intro n
    induction n with
    | zero => intro v1 v2 v3 v4 v5 ls hl hf; cases hf
    | succ n ih =>
      intro v1 v2 v3 v4 v5 ls hl hf
      replace hf : f_MaskEdgesModel_isIn_6 ST (xloop (fun r => f_MaskEdgesModel_isIn_6 ST r k188) (fun _ _ _ _ _ => none) n) k188 v1 v2 v3 v4 v5 = some res := hf
      have hr6 := ih
      clear ih
      unfold f_MaskEdgesModel_isIn_6 at hf
      refine lv_iload hx hb d_MaskEdgesModel_isIn_6 (lv_at hl 5 rfl) ?_
      refine lv_aload_n hx hb d_MaskEdgesModel_isIn_8 rfl (lv_at hl 0 rfl) ?_
      refine va_get (D := X.1) (ci := 6) (v := .ref (ad 3)) (C := "MaskEdgesModel") (T := F_MaskEdgesModel) (N := 28) hx hb ht in_MaskEdgesModel hown hK hP 0 yg0 rfl 3 (by decide) (ht _ xw_450) (fun _ h9 => h9) rfl d_MaskEdgesModel_isIn_9 ?_
      refine lv_iload_n hx hb d_MaskEdgesModel_isIn_12 rfl (lv_at hl 1 rfl) ?_
      obtain ⟨g13, hf⟩ := x_g hf
      refine va_iald hx hb hK hP 3 0 yg3 rfl (xin_in g13) d_MaskEdgesModel_isIn_13 ?_
      refine lv_icmp_ge (tgt := 188) hx hb d_MaskEdgesModel_isIn_14 (by decide) (fun hc => ?_) (fun hc => ?_)
      · replace hf := x_t hc hf
        exact hk188 v2 v3 v4  ls (lv_sub hl [2, 3, 4] rfl) hf
      · replace hf := x_f hc hf
        refine lv_aload_n hx hb d_MaskEdgesModel_isIn_17 rfl (lv_at hl 0 rfl) ?_
        refine va_get (D := X.1) (ci := 6) (v := .ref (ad 4)) (C := "MaskEdgesModel") (T := F_MaskEdgesModel) (N := 28) hx hb ht in_MaskEdgesModel hown hK hP 0 yg0 rfl 4 (by decide) (ht _ xw_451) (fun _ h9 => h9) rfl d_MaskEdgesModel_isIn_18 ?_
        refine lv_iload_n hx hb d_MaskEdgesModel_isIn_21 rfl (lv_at hl 1 rfl) ?_
        obtain ⟨g22, hf⟩ := x_g hf
        refine va_zald hx hb hK hP 4 5 yg4 rfl (xin_in g22) d_MaskEdgesModel_isIn_22 ?_
        refine lv_if_eq (tgt := 188) hx hb d_MaskEdgesModel_isIn_23 (by decide) (fun hc => ?_) (fun hc => ?_)
        · replace hf := x_t hc hf
          exact hk188 v2 v3 v4  ls (lv_sub hl [2, 3, 4] rfl) hf
        · replace hf := x_f hc hf
          refine lv_bipush (v := (16 : Int32)) hx hb d_MaskEdgesModel_isIn_26 (by decide) ?_
          refine lv_iload_n hx hb d_MaskEdgesModel_isIn_28 rfl (lv_at hl 1 rfl) ?_
          refine lv_imul hx hb d_MaskEdgesModel_isIn_29 ?_
          refine lv_iload hx hb d_MaskEdgesModel_isIn_30 (lv_at hl 5 rfl) ?_
          refine lv_iadd hx hb d_MaskEdgesModel_isIn_32 ?_
          refine lv_istore (lv' := [(6, .int (((16 : Int32) * v1) + v5)), (0, .ref (ad 0)), (1, .int v1), (2, .int v2), (3, .int v3), (4, .int v4), (5, .int v5)]) hx hb d_MaskEdgesModel_isIn_33 hl (by decide) rfl (fun ls hl => ?_)
          refine lv_bipush (v := (16 : Int32)) hx hb d_MaskEdgesModel_isIn_35 (by decide) ?_
          refine lv_iload_n hx hb d_MaskEdgesModel_isIn_37 rfl (lv_at hl 2 rfl) ?_
          refine lv_imul hx hb d_MaskEdgesModel_isIn_38 ?_
          refine lv_iload hx hb d_MaskEdgesModel_isIn_39 (lv_at hl 6 rfl) ?_
          refine lv_iconst (v := (1 : Int32)) hx hb d_MaskEdgesModel_isIn_41 (by decide) ?_
          refine lv_iadd hx hb d_MaskEdgesModel_isIn_42 ?_
          refine lv_aload_n hx hb d_MaskEdgesModel_isIn_43 rfl (lv_at hl 1 rfl) ?_
          refine va_get (D := X.1) (ci := 6) (v := .ref (ad 3)) (C := "MaskEdgesModel") (T := F_MaskEdgesModel) (N := 28) hx hb ht in_MaskEdgesModel hown hK hP 0 yg0 rfl 3 (by decide) (ht _ xw_450) (fun _ h9 => h9) rfl d_MaskEdgesModel_isIn_44 ?_
          refine lv_iload_n hx hb d_MaskEdgesModel_isIn_47 rfl (lv_at hl 2 rfl) ?_
          obtain ⟨g48, hf⟩ := x_g hf
          refine va_iald hx hb hK hP 3 0 yg3 rfl (xin_in g48) d_MaskEdgesModel_isIn_48 ?_
          obtain ⟨z49, hf⟩ := x_n hf
          refine lv_irem hx hb d_MaskEdgesModel_isIn_49 z49 ?_
          refine lv_iadd hx hb d_MaskEdgesModel_isIn_50 ?_
          refine lv_istore (lv' := [(7, .int (((16 : Int32) * v1) + ((v5 + (1 : Int32)) - (v5 + (1 : Int32)) / (Y_sizes ST v1.toNatClampNeg) * (Y_sizes ST v1.toNatClampNeg)))), (6, .int (((16 : Int32) * v1) + v5)), (0, .ref (ad 0)), (1, .int v1), (2, .int v2), (3, .int v3), (4, .int v4), (5, .int v5)]) hx hb d_MaskEdgesModel_isIn_51 hl (by decide) rfl (fun ls hl => ?_)
          refine lv_aload_n hx hb d_MaskEdgesModel_isIn_53 rfl (lv_at hl 2 rfl) ?_
          refine va_get (D := X.1) (ci := 6) (v := .ref (ad 2)) (C := "MaskEdgesModel") (T := F_MaskEdgesModel) (N := 28) hx hb ht in_MaskEdgesModel hown hK hP 0 yg0 rfl 2 (by decide) (ht _ xw_449) (fun _ h9 => h9) rfl d_MaskEdgesModel_isIn_54 ?_
          refine lv_iload hx hb d_MaskEdgesModel_isIn_57 (lv_at hl 1 rfl) ?_
          obtain ⟨g59, hf⟩ := x_g hf
          refine va_iald hx hb hK hP 2 0 yg2 rfl (xin_in g59) d_MaskEdgesModel_isIn_59 ?_
          refine lv_aload_n hx hb d_MaskEdgesModel_isIn_60 rfl (lv_at hl 2 rfl) ?_
          refine va_get (D := X.1) (ci := 6) (v := .ref (ad 2)) (C := "MaskEdgesModel") (T := F_MaskEdgesModel) (N := 28) hx hb ht in_MaskEdgesModel hown hK hP 0 yg0 rfl 2 (by decide) (ht _ xw_449) (fun _ h9 => h9) rfl d_MaskEdgesModel_isIn_61 ?_
          refine lv_iload hx hb d_MaskEdgesModel_isIn_64 (lv_at hl 0 rfl) ?_
          obtain ⟨g66, hf⟩ := x_g hf
          refine va_iald hx hb hK hP 2 0 yg2 rfl (xin_in g66) d_MaskEdgesModel_isIn_66 ?_
          refine lv_icmp_ge (tgt := 80) hx hb d_MaskEdgesModel_isIn_67 (by decide) (fun hc => ?_) (fun hc => ?_)
          · replace hf := x_t hc hf
            refine lv_aload_n hx hb d_MaskEdgesModel_isIn_80 rfl (lv_at hl 2 rfl) ?_
            refine va_get (D := X.1) (ci := 6) (v := .ref (ad 2)) (C := "MaskEdgesModel") (T := F_MaskEdgesModel) (N := 28) hx hb ht in_MaskEdgesModel hown hK hP 0 yg0 rfl 2 (by decide) (ht _ xw_449) (fun _ h9 => h9) rfl d_MaskEdgesModel_isIn_81 ?_
            refine lv_iload hx hb d_MaskEdgesModel_isIn_84 (lv_at hl 0 rfl) ?_
            obtain ⟨g86, hf⟩ := x_g hf
            refine va_iald hx hb hK hP 2 0 yg2 rfl (xin_in g86) d_MaskEdgesModel_isIn_86 ?_
            exact (hL87 _ hr6) v1 v2 v3 v4 v5 (((16 : Int32) * v1) + v5) (((16 : Int32) * v1) + ((v5 + (1 : Int32)) - (v5 + (1 : Int32)) / (Y_sizes ST v1.toNatClampNeg) * (Y_sizes ST v1.toNatClampNeg))) (Y_ys ST (((16 : Int32) * v1) + ((v5 + (1 : Int32)) - (v5 + (1 : Int32)) / (Y_sizes ST v1.toNatClampNeg) * (Y_sizes ST v1.toNatClampNeg))).toNatClampNeg)  ls (lv_sub hl [2, 3, 4, 5, 6, 7, 1, 0] rfl) hf
          · replace hf := x_f hc hf
            refine lv_aload_n hx hb d_MaskEdgesModel_isIn_70 rfl (lv_at hl 2 rfl) ?_
            refine va_get (D := X.1) (ci := 6) (v := .ref (ad 2)) (C := "MaskEdgesModel") (T := F_MaskEdgesModel) (N := 28) hx hb ht in_MaskEdgesModel hown hK hP 0 yg0 rfl 2 (by decide) (ht _ xw_449) (fun _ h9 => h9) rfl d_MaskEdgesModel_isIn_71 ?_
            refine lv_iload hx hb d_MaskEdgesModel_isIn_74 (lv_at hl 1 rfl) ?_
            obtain ⟨g76, hf⟩ := x_g hf
            refine va_iald hx hb hK hP 2 0 yg2 rfl (xin_in g76) d_MaskEdgesModel_isIn_76 ?_
            refine lv_goto (tgt := 87) hx hb d_MaskEdgesModel_isIn_77 (by decide) ?_
            exact (hL87 _ hr6) v1 v2 v3 v4 v5 (((16 : Int32) * v1) + v5) (((16 : Int32) * v1) + ((v5 + (1 : Int32)) - (v5 + (1 : Int32)) / (Y_sizes ST v1.toNatClampNeg) * (Y_sizes ST v1.toNatClampNeg))) (Y_ys ST (((16 : Int32) * v1) + v5).toNatClampNeg)  ls (lv_sub hl [2, 3, 4, 5, 6, 7, 1, 0] rfl) hf
  have hL188 : ∀ (v2 : Int32) (v3 : Int32) (v4 : Int32), ∀ (ls : Array Slot), lv_has ls 10 [(2, .int v2), (3, .int v3), (4, .int v4)] → f_MaskEdgesModel_isIn_188 ST v2 v3 v4 = some res → W p l e (headSpec (Cond.code y_MaskEdgesModel_isIn prog_8_method_7_code 10 (some .boolean) :: xT) ({ frames := 2, cells := 0, slots := 0, locals := 46 } : Room)).room s m args below meth c s.heap [] 0 0 Q (F0 m 188 ls []) := by
    intro v2 v3 v4 ls hl hf
    unfold f_MaskEdgesModel_isIn_188 at hf
    refine lv_iload hx hb d_MaskEdgesModel_isIn_188 (lv_at hl 2 rfl) ?_
    refine lv_if_eq (tgt := 205) hx hb d_MaskEdgesModel_isIn_190 (by decide) (fun hc => ?_) (fun hc => ?_)
    · replace hf := x_t hc hf
      refine lv_iconst (v := (0 : Int32)) hx hb d_MaskEdgesModel_isIn_205 (by decide) ?_
      replace hf := x_s hf
      subst hf
      subst hQ
      exact W.zret (v := (0 : Int32)) hx hb hr (xz_n (by decide)) (fun t ht hW => ⟨⟨rfl, ht⟩, x_F0 ht⟩) x_l0 d_MaskEdgesModel_isIn_206
    · replace hf := x_f hc hf
      refine lv_iload_n hx hb d_MaskEdgesModel_isIn_193 rfl (lv_at hl 0 rfl) ?_
      refine lv_iload_n hx hb d_MaskEdgesModel_isIn_194 rfl (lv_at hl 1 rfl) ?_
      obtain ⟨c195, e195, hf⟩ := x_b hf
      refine xcR (va_runS (As := [.int v2, .int v3]) (rest := []) ⟨hx, hb, hml, hown, ht⟩ (c_MaskEdgesModel_isCell l X v2 v3 e195) (cwS 2 ht (xgS xw_551 xw_552 xw_43 xw_553) rfl rfl rfl (by decide +kernel) ⟨Nat.le_of_ble_eq_true rfl, Nat.le_of_ble_eq_true rfl⟩) (xPS hKK) rfl rfl hl.1 rfl (lv_room (Nat.le_of_ble_eq_true rfl)) d_MaskEdgesModel_isIn_195 ⟨Nat.zero_le _, Nat.zero_le _⟩) ?_
      refine W.eq (g2 := F0 m 198 ls [.int c195]) rfl ?_
      refine lv_if_eq (tgt := 205) hx hb d_MaskEdgesModel_isIn_198 (by decide) (fun hc => ?_) (fun hc => ?_)
      · replace hf := x_t hc hf
        refine lv_iconst (v := (0 : Int32)) hx hb d_MaskEdgesModel_isIn_205 (by decide) ?_
        replace hf := x_s hf
        subst hf
        subst hQ
        exact W.zret (v := (0 : Int32)) hx hb hr (xz_n (by decide)) (fun t ht hW => ⟨⟨rfl, ht⟩, x_F0 ht⟩) x_l0 d_MaskEdgesModel_isIn_206
      · replace hf := x_f hc hf
        refine lv_iconst (v := (1 : Int32)) hx hb d_MaskEdgesModel_isIn_201 (by decide) ?_
        refine lv_goto (tgt := 206) hx hb d_MaskEdgesModel_isIn_202 (by decide) ?_
        replace hf := x_s hf
        subst hf
        subst hQ
        exact W.zret (v := (1 : Int32)) hx hb hr (xz_n (by decide)) (fun t ht hW => ⟨⟨rfl, ht⟩, x_F0 ht⟩) x_l0 d_MaskEdgesModel_isIn_206
  unfold f_MaskEdgesModel_isIn at hf
  refine lv_iconst (v := (0 : Int32)) hx hb d_MaskEdgesModel_isIn_0 (by decide) ?_
  refine lv_istore (lv' := [(4, .int (0 : Int32)), (0, .ref (ad 0)), (1, .int v1), (2, .int v2), (3, .int v3)]) hx hb d_MaskEdgesModel_isIn_1 hl (by decide) rfl (fun ls hl => ?_)
  refine lv_iconst (v := (0 : Int32)) hx hb d_MaskEdgesModel_isIn_3 (by decide) ?_
  refine lv_istore (lv' := [(5, .int (0 : Int32)), (4, .int (0 : Int32)), (0, .ref (ad 0)), (1, .int v1), (2, .int v2), (3, .int v3)]) hx hb d_MaskEdgesModel_isIn_4 hl (by decide) rfl (fun ls hl => ?_)
  exact (hL6 _ hL188 100000) v1 v2 v3 (0 : Int32) (0 : Int32)  ls (lv_sub hl [2, 3, 4, 5, 1, 0] rfl) hf
def f_MaskEdgesModel_isTarget_34 (ST : ySt) (r5 : Int32 → Int32 → Int32 → Int32 → Option (Int32)) (v1 : Int32) (v2 : Int32) (v4 : Int32) (s0 : Int32) : Option (Int32) :=
  r5 v1 v2 s0 (v4 + (1 : Int32))
def f_MaskEdgesModel_isTarget_29 (ST : ySt) (r5 : Int32 → Int32 → Int32 → Int32 → Option (Int32)) (v1 : Int32) (v2 : Int32) (v4 : Int32) : Option (Int32) :=
  (f_MaskEdgesModel_isTarget_34 ST r5) v1 v2 v4 (1 : Int32)
def f_MaskEdgesModel_isTarget_5 (ST : ySt) (r5 : Int32 → Int32 → Int32 → Int32 → Option (Int32)) (v1 : Int32) (v2 : Int32) (v3 : Int32) (v4 : Int32) : Option (Int32) :=
  if (Y_polygons ST) ≤ v4 then
  if xz v3 = true then
    some v3
  else none
else
  if v3 = 0 then
    (f_MaskEdgesModel_isIn ST v4 v1 v2).bind fun c23 =>
      if c23 = 0 then
      (f_MaskEdgesModel_isTarget_34 ST r5) v1 v2 v4 (0 : Int32)
    else
      (f_MaskEdgesModel_isTarget_29 ST r5) v1 v2 v4
  else
    (f_MaskEdgesModel_isTarget_29 ST r5) v1 v2 v4
def f_MaskEdgesModel_isTarget (ST : ySt) (v1 : Int32) (v2 : Int32) : Option (Int32) :=
  (xloop (fun r => f_MaskEdgesModel_isTarget_5 ST r) (fun _ _ _ _ => none) 100000) v1 v2 (0 : Int32) (0 : Int32)
set_option maxHeartbeats 4000000 in
set_option maxRecDepth 100000 in
theorem c_MaskEdgesModel_isTarget (l : Launch) (X : xG) {H : Heap} (ad : Nat → Nat) (ST : ySt) (v1 : Int32) (v2 : Int32) {res : Int32} (hP : va_P X.1 vwCl (wY X ad ST) H) (hf : f_MaskEdgesModel_isTarget ST v1 v2 = some res) : xM l y_MaskEdgesModel_isTarget (Cond.code y_MaskEdgesModel_isTarget prog_8_method_8_code 5 (some .boolean) :: xT) ({ frames := 3, cells := 0, slots := 0, locals := 75 } : Room) (xK X) [.ref (ad 0), .int v1, .int v2] H xNo (some (.int res)) (fun H1 => H1 = H) := by
  refine Met.ofW (cc := prog_8_method_8_code) (maxL := 5) (ret := (some .boolean)) (by decide) rfl ?_
  intro p e s m args below meth c s₁ B hml hv
  obtain ⟨ha, hH, hKK⟩ := hv
  subst hH
  have hx := B.exec
  have hb := B.bytes
  have hr := B.returns
  have ht : ∀ w ∈ xT, w.before args s = true := fun w h => atoms_spec (ws := (Cond.code y_MaskEdgesModel_isTarget prog_8_method_8_code 5 (some .boolean) :: xT)) B.pre w (List.mem_cons_of_mem _ h)
  have hown : s.vm.findClass "MaskEdgesModel" = some m.cls := findClass_of_methodNamed B.named
  have hlocks := B.notSynchronized
  have hK := hKK.1
  rw [show entryFrame m args 5 = entryFrame m ([.ref (ad 0), .int v1, .int v2] : List Value).toArray 5 from by rw [ha]]
  clear ha
  have hl := lv_entry ([.ref (ad 0), .int v1, .int v2]) (n := 5) (Nat.le_of_ble_eq_true rfl)
  rw [lg_entry_eq]
  generalize (lg_sl ([.ref (ad 0), .int v1, .int v2]) ++ List.replicate (5 - (lg_sl ([.ref (ad 0), .int v1, .int v2])).length) Slot.unset).toArray = ls at hl ⊢
  replace hl : lv_has ls 5 [(0, .ref (ad 0)), (1, .int v1), (2, .int v2)] := hl
  refine x_Q (fun Q hQ => ?_)
  have hL34 : ∀ (r5 : Int32 → Int32 → Int32 → Int32 → Option (Int32)) (hr5 : ∀ (v1 : Int32) (v2 : Int32) (v3 : Int32) (v4 : Int32), ∀ (ls : Array Slot), lv_has ls 5 [(0, .ref (ad 0)), (1, .int v1), (2, .int v2), (3, .int v3), (4, .int v4)] → r5 v1 v2 v3 v4 = some res → W p l e (headSpec (Cond.code y_MaskEdgesModel_isTarget prog_8_method_8_code 5 (some .boolean) :: xT) ({ frames := 3, cells := 0, slots := 0, locals := 75 } : Room)).room s m args below meth c s.heap [] 0 0 Q (F0 m 5 ls [])), ∀ (v1 : Int32) (v2 : Int32) (v4 : Int32) (s0 : Int32), ∀ (ls : Array Slot), lv_has ls 5 [(0, .ref (ad 0)), (1, .int v1), (2, .int v2), (4, .int v4)] → f_MaskEdgesModel_isTarget_34 ST r5 v1 v2 v4 s0 = some res → W p l e (headSpec (Cond.code y_MaskEdgesModel_isTarget prog_8_method_8_code 5 (some .boolean) :: xT) ({ frames := 3, cells := 0, slots := 0, locals := 75 } : Room)).room s m args below meth c s.heap [] 0 0 Q (F0 m 34 ls [.int s0]) := by
    intro r5 hr5 v1 v2 v4 s0 ls hl hf
    unfold f_MaskEdgesModel_isTarget_34 at hf
    refine lv_istore_n (lv' := [(3, .int s0), (0, .ref (ad 0)), (1, .int v1), (2, .int v2), (4, .int v4)]) hx hb d_MaskEdgesModel_isTarget_34 rfl hl (by decide) rfl (fun ls hl => ?_)
    refine lv_iinc (v := (v4 + (1 : Int32))) (lv' := [(4, .int (v4 + (1 : Int32))), (3, .int s0), (0, .ref (ad 0)), (1, .int v1), (2, .int v2)]) hx hb d_MaskEdgesModel_isTarget_35 hl (k := 4) rfl rfl (by decide) rfl (fun ls hl => ?_)
    refine lv_goto (tgt := 5) hx hb d_MaskEdgesModel_isTarget_38 (by decide) ?_
    exact hr5 v1 v2 s0 (v4 + (1 : Int32))  ls (lv_sub hl [2, 3, 4, 1, 0] rfl) hf
  have hL29 : ∀ (r5 : Int32 → Int32 → Int32 → Int32 → Option (Int32)) (hr5 : ∀ (v1 : Int32) (v2 : Int32) (v3 : Int32) (v4 : Int32), ∀ (ls : Array Slot), lv_has ls 5 [(0, .ref (ad 0)), (1, .int v1), (2, .int v2), (3, .int v3), (4, .int v4)] → r5 v1 v2 v3 v4 = some res → W p l e (headSpec (Cond.code y_MaskEdgesModel_isTarget prog_8_method_8_code 5 (some .boolean) :: xT) ({ frames := 3, cells := 0, slots := 0, locals := 75 } : Room)).room s m args below meth c s.heap [] 0 0 Q (F0 m 5 ls [])), ∀ (v1 : Int32) (v2 : Int32) (v4 : Int32), ∀ (ls : Array Slot), lv_has ls 5 [(0, .ref (ad 0)), (1, .int v1), (2, .int v2), (4, .int v4)] → f_MaskEdgesModel_isTarget_29 ST r5 v1 v2 v4 = some res → W p l e (headSpec (Cond.code y_MaskEdgesModel_isTarget prog_8_method_8_code 5 (some .boolean) :: xT) ({ frames := 3, cells := 0, slots := 0, locals := 75 } : Room)).room s m args below meth c s.heap [] 0 0 Q (F0 m 29 ls []) := by
    intro r5 hr5 v1 v2 v4 ls hl hf
    unfold f_MaskEdgesModel_isTarget_29 at hf
    refine lv_iconst (v := (1 : Int32)) hx hb d_MaskEdgesModel_isTarget_29 (by decide) ?_
    refine lv_goto (tgt := 34) hx hb d_MaskEdgesModel_isTarget_30 (by decide) ?_
    exact (hL34 _ hr5) v1 v2 v4 (1 : Int32)  ls (lv_sub hl [0, 1, 2, 3] rfl) hf
  have hL5 : ∀ (n : Nat), ∀ (v1 : Int32) (v2 : Int32) (v3 : Int32) (v4 : Int32), ∀ (ls : Array Slot), lv_has ls 5 [(0, .ref (ad 0)), (1, .int v1), (2, .int v2), (3, .int v3), (4, .int v4)] → (xloop (fun r => f_MaskEdgesModel_isTarget_5 ST r) (fun _ _ _ _ => none) n) v1 v2 v3 v4 = some res → W p l e (headSpec (Cond.code y_MaskEdgesModel_isTarget prog_8_method_8_code 5 (some .boolean) :: xT) ({ frames := 3, cells := 0, slots := 0, locals := 75 } : Room)).room s m args below meth c s.heap [] 0 0 Q (F0 m 5 ls []) := by
    intro n
    induction n with
    | zero => intro v1 v2 v3 v4 ls hl hf; cases hf
    | succ n ih =>
      intro v1 v2 v3 v4 ls hl hf
      replace hf : f_MaskEdgesModel_isTarget_5 ST (xloop (fun r => f_MaskEdgesModel_isTarget_5 ST r) (fun _ _ _ _ => none) n) v1 v2 v3 v4 = some res := hf
      have hr5 := ih
      clear ih
      unfold f_MaskEdgesModel_isTarget_5 at hf
      refine lv_iload hx hb d_MaskEdgesModel_isTarget_5 (lv_at hl 4 rfl) ?_
      refine lv_aload_n hx hb d_MaskEdgesModel_isTarget_7 rfl (lv_at hl 0 rfl) ?_
      refine va_get (D := X.1) (ci := 6) (v := .int (Y_polygons ST)) (C := "MaskEdgesModel") (T := F_MaskEdgesModel) (N := 28) hx hb ht in_MaskEdgesModel hown hK hP 0 yg0 rfl 0 (by decide) (ht _ xw_447) (fun _ h9 => h9) rfl d_MaskEdgesModel_isTarget_8 ?_
      refine lv_icmp_ge (tgt := 41) hx hb d_MaskEdgesModel_isTarget_11 (by decide) (fun hc => ?_) (fun hc => ?_)
      · replace hf := x_t hc hf
        refine lv_iload_n hx hb d_MaskEdgesModel_isTarget_41 rfl (lv_at hl 3 rfl) ?_
        obtain ⟨zr, hf⟩ := x_g hf
        replace hf := x_s hf
        subst hf
        subst hQ
        exact W.zret (v := v3) hx hb hr (xz_n zr) (fun t ht hW => ⟨⟨rfl, ht⟩, x_F0 ht⟩) x_l0 d_MaskEdgesModel_isTarget_42
      · replace hf := x_f hc hf
        refine lv_iload_n hx hb d_MaskEdgesModel_isTarget_14 rfl (lv_at hl 3 rfl) ?_
        refine lv_if_ne (tgt := 29) hx hb d_MaskEdgesModel_isTarget_15 (by decide) (fun hc => ?_) (fun hc => ?_)
        · replace hf := x_f hc hf
          exact (hL29 _ hr5) v1 v2 v4  ls (lv_sub hl [0, 1, 2, 4] rfl) hf
        · replace hf := x_t hc hf
          refine lv_aload_n hx hb d_MaskEdgesModel_isTarget_18 rfl (lv_at hl 0 rfl) ?_
          refine lv_iload hx hb d_MaskEdgesModel_isTarget_19 (lv_at hl 4 rfl) ?_
          refine lv_iload_n hx hb d_MaskEdgesModel_isTarget_21 rfl (lv_at hl 1 rfl) ?_
          refine lv_iload_n hx hb d_MaskEdgesModel_isTarget_22 rfl (lv_at hl 2 rfl) ?_
          obtain ⟨c23, e23, hf⟩ := x_b hf
          refine xcR (va_runV (As := [.int v4, .int v1, .int v2]) (rest := []) ⟨hx, hb, hml, hown, ht⟩ (c_MaskEdgesModel_isIn l X ad ST v4 v1 v2 hP e23) (cwV 3 ht (xgV xw_548 xw_549 xw_21 xw_43 xw_550) rfl rfl rfl (by decide +kernel) ⟨Nat.le_of_ble_eq_true rfl, Nat.le_of_ble_eq_true rfl⟩) (xPV hKK (va_recv hK hP (ci := 6) (q0 := 0) rfl yg0)) rfl rfl hl.1 rfl (lv_room (Nat.le_of_ble_eq_true rfl)) d_MaskEdgesModel_isTarget_23 ⟨Nat.zero_le _, Nat.zero_le _⟩) ?_
          refine W.eq (g2 := F0 m 26 ls [.int c23]) rfl ?_
          refine lv_if_eq (tgt := 33) hx hb d_MaskEdgesModel_isTarget_26 (by decide) (fun hc => ?_) (fun hc => ?_)
          · replace hf := x_t hc hf
            refine lv_iconst (v := (0 : Int32)) hx hb d_MaskEdgesModel_isTarget_33 (by decide) ?_
            exact (hL34 _ hr5) v1 v2 v4 (0 : Int32)  ls (lv_sub hl [0, 1, 2, 4] rfl) hf
          · replace hf := x_f hc hf
            exact (hL29 _ hr5) v1 v2 v4  ls (lv_sub hl [0, 1, 2, 4] rfl) hf
  unfold f_MaskEdgesModel_isTarget at hf
  refine lv_iconst (v := (0 : Int32)) hx hb d_MaskEdgesModel_isTarget_0 (by decide) ?_
  refine lv_istore_n (lv' := [(3, .int (0 : Int32)), (0, .ref (ad 0)), (1, .int v1), (2, .int v2)]) hx hb d_MaskEdgesModel_isTarget_1 rfl hl (by decide) rfl (fun ls hl => ?_)
  refine lv_iconst (v := (0 : Int32)) hx hb d_MaskEdgesModel_isTarget_2 (by decide) ?_
  refine lv_istore (lv' := [(4, .int (0 : Int32)), (3, .int (0 : Int32)), (0, .ref (ad 0)), (1, .int v1), (2, .int v2)]) hx hb d_MaskEdgesModel_isTarget_3 hl (by decide) rfl (fun ls hl => ?_)
  exact (hL5 100000) v1 v2 (0 : Int32) (0 : Int32)  ls (lv_sub hl [2, 3, 4, 1, 0] rfl) hf
def f_MaskEdgesModel_kernel (v1 : Int32) (v2 : Int32) (ST : ySt) : Option (Int32 × ySt) :=
  (f_MaskEdgesModel_isBetween v1.toInt64 (-20 : Int64) (20 : Int64)).bind fun c8 =>
  if c8 = 0 then
  some ((-2 : Int32), ST)
else
  (f_MaskEdgesModel_isBetween v2.toInt64 (0 : Int64) (6 : Int64)).bind fun c20 =>
    if c20 = 0 then
    some ((-2 : Int32), ST)
  else
    if (Y_kernels ST) = (6 : Int32) then
      some ((-4 : Int32), ST)
    else
      if xin (Y_kernels ST) 6 = true then
        if xin (Y_kernels (Y_u_weights ST (upd (Y_weights ST) (Y_kernels ST).toNatClampNeg v1))) 6 = true then
          some (((Y_kernels (Y_u_kernels (Y_u_widths (Y_u_weights ST (upd (Y_weights ST) (Y_kernels ST).toNatClampNeg v1)) (upd (Y_widths (Y_u_weights ST (upd (Y_weights ST) (Y_kernels ST).toNatClampNeg v1))) (Y_kernels (Y_u_weights ST (upd (Y_weights ST) (Y_kernels ST).toNatClampNeg v1))).toNatClampNeg v2)) ((Y_kernels (Y_u_widths (Y_u_weights ST (upd (Y_weights ST) (Y_kernels ST).toNatClampNeg v1)) (upd (Y_widths (Y_u_weights ST (upd (Y_weights ST) (Y_kernels ST).toNatClampNeg v1))) (Y_kernels (Y_u_weights ST (upd (Y_weights ST) (Y_kernels ST).toNatClampNeg v1))).toNatClampNeg v2))) + (1 : Int32)))) - (1 : Int32)), (Y_u_kernels (Y_u_widths (Y_u_weights ST (upd (Y_weights ST) (Y_kernels ST).toNatClampNeg v1)) (upd (Y_widths (Y_u_weights ST (upd (Y_weights ST) (Y_kernels ST).toNatClampNeg v1))) (Y_kernels (Y_u_weights ST (upd (Y_weights ST) (Y_kernels ST).toNatClampNeg v1))).toNatClampNeg v2)) ((Y_kernels (Y_u_widths (Y_u_weights ST (upd (Y_weights ST) (Y_kernels ST).toNatClampNeg v1)) (upd (Y_widths (Y_u_weights ST (upd (Y_weights ST) (Y_kernels ST).toNatClampNeg v1))) (Y_kernels (Y_u_weights ST (upd (Y_weights ST) (Y_kernels ST).toNatClampNeg v1))).toNatClampNeg v2))) + (1 : Int32))))
        else none
      else none
set_option maxHeartbeats 4000000 in
set_option maxRecDepth 100000 in
theorem c_MaskEdgesModel_kernel (l : Launch) (X : xG) {H : Heap} (ad : Nat → Nat) (ST : ySt) (v1 : Int32) (v2 : Int32) {res : Int32 × ySt} (hP : va_P X.1 vwCl (wY X ad ST) H) (hA : okB ad) (hf : f_MaskEdgesModel_kernel v1 v2 ST = some res) : xM l y_MaskEdgesModel_kernel (Cond.code y_MaskEdgesModel_kernel prog_8_method_9_code 3 (some .int) :: xT) ({ frames := 1, cells := 0, slots := 0, locals := 25 } : Room) (xK X) [.ref (ad 0), .int v1, .int v2] H (yA ad) (some (.int res.1)) (fun H1 => va_P X.1 vwCl (wY X ad res.2) H1) := by
  refine Met.ofW (cc := prog_8_method_9_code) (maxL := 3) (ret := (some .int)) (by decide) rfl ?_
  intro p e s m args below meth c s₁ B hml hv
  obtain ⟨ha, hH, hKK⟩ := hv
  subst hH
  have hx := B.exec
  have hb := B.bytes
  have hr := B.returns
  have ht : ∀ w ∈ xT, w.before args s = true := fun w h => atoms_spec (ws := (Cond.code y_MaskEdgesModel_kernel prog_8_method_9_code 3 (some .int) :: xT)) B.pre w (List.mem_cons_of_mem _ h)
  have hown : s.vm.findClass "MaskEdgesModel" = some m.cls := findClass_of_methodNamed B.named
  have hlocks := B.notSynchronized
  have hK := hKK.1
  rw [show entryFrame m args 3 = entryFrame m ([.ref (ad 0), .int v1, .int v2] : List Value).toArray 3 from by rw [ha]]
  clear ha
  have hS : va_S (yA ad) s.heap s.heap [] := va_S.rf
  have hl := lv_entry ([.ref (ad 0), .int v1, .int v2]) (n := 3) (Nat.le_of_ble_eq_true rfl)
  rw [lg_entry_eq]
  generalize (lg_sl ([.ref (ad 0), .int v1, .int v2]) ++ List.replicate (3 - (lg_sl ([.ref (ad 0), .int v1, .int v2])).length) Slot.unset).toArray = ls at hl ⊢
  replace hl : lv_has ls 3 [(0, .ref (ad 0)), (1, .int v1), (2, .int v2)] := hl
  refine x_Q (fun Q hQ => ?_)
  unfold f_MaskEdgesModel_kernel at hf
  refine lv_iload_n hx hb d_MaskEdgesModel_kernel_0 rfl (lv_at hl 1 rfl) ?_
  refine lv_i2l hx hb d_MaskEdgesModel_kernel_1 rfl ?_
  refine lv_ldc2 (v := (-20 : Int64)) hx hb hown (ht _ xw_523) d_MaskEdgesModel_kernel_2 ?_
  refine lv_ldc2 (v := (20 : Int64)) hx hb hown (ht _ xw_524) d_MaskEdgesModel_kernel_5 ?_
  obtain ⟨c8, e8, hf⟩ := x_b hf
  refine xcR (va_runS (As := [.long v1.toInt64, .long (-20 : Int64), .long (20 : Int64)]) (rest := []) ⟨hx, hb, hml, hown, ht⟩ (c_MaskEdgesModel_isBetween l X v1.toInt64 (-20 : Int64) (20 : Int64) e8) (cwS 3 ht (xgS xw_512 xw_513 xw_43 xw_514) rfl rfl rfl (by decide +kernel) ⟨Nat.le_of_ble_eq_true rfl, Nat.le_of_ble_eq_true rfl⟩) (xPS hKK) rfl rfl hl.1 rfl (lv_room (Nat.le_of_ble_eq_true rfl)) d_MaskEdgesModel_kernel_8 ⟨Nat.zero_le _, Nat.zero_le _⟩) ?_
  refine W.eq (g2 := F0 m 11 ls [.int c8]) rfl ?_
  refine lv_if_eq (tgt := 26) hx hb d_MaskEdgesModel_kernel_11 (by decide) (fun hc => ?_) (fun hc => ?_)
  · replace hf := x_t hc hf
    refine lv_bipush (v := (-2 : Int32)) hx hb d_MaskEdgesModel_kernel_26 (by decide) ?_
    replace hf := x_s hf
    subst hf
    subst hQ
    exact W.iret (v := (-2 : Int32)) hx hb hr (fun t ht hW => ⟨⟨rfl, by rw [ht]; exact hP⟩, hS.F ht⟩) hS.2.2 d_MaskEdgesModel_kernel_28
  · replace hf := x_f hc hf
    refine lv_iload_n hx hb d_MaskEdgesModel_kernel_14 rfl (lv_at hl 2 rfl) ?_
    refine lv_i2l hx hb d_MaskEdgesModel_kernel_15 rfl ?_
    refine lv_lconst (v := (0 : Int64)) hx hb d_MaskEdgesModel_kernel_16 (by decide) ?_
    refine lv_ldc2 (v := (6 : Int64)) hx hb hown (ht _ xw_525) d_MaskEdgesModel_kernel_17 ?_
    obtain ⟨c20, e20, hf⟩ := x_b hf
    refine xcR (va_runS (As := [.long v2.toInt64, .long (0 : Int64), .long (6 : Int64)]) (rest := []) ⟨hx, hb, hml, hown, ht⟩ (c_MaskEdgesModel_isBetween l X v2.toInt64 (0 : Int64) (6 : Int64) e20) (cwS 3 ht (xgS xw_512 xw_513 xw_43 xw_514) rfl rfl rfl (by decide +kernel) ⟨Nat.le_of_ble_eq_true rfl, Nat.le_of_ble_eq_true rfl⟩) (xPS hKK) rfl rfl hl.1 rfl (lv_room (Nat.le_of_ble_eq_true rfl)) d_MaskEdgesModel_kernel_20 ⟨Nat.zero_le _, Nat.zero_le _⟩) ?_
    refine W.eq (g2 := F0 m 23 ls [.int c20]) rfl ?_
    refine lv_if_ne (tgt := 29) hx hb d_MaskEdgesModel_kernel_23 (by decide) (fun hc => ?_) (fun hc => ?_)
    · replace hf := x_f hc hf
      refine lv_aload_n hx hb d_MaskEdgesModel_kernel_29 rfl (lv_at hl 0 rfl) ?_
      refine va_get (D := X.1) (ci := 6) (v := .int (Y_kernels ST)) (C := "MaskEdgesModel") (T := F_MaskEdgesModel) (N := 28) hx hb ht in_MaskEdgesModel hown hK hP 0 yg0 rfl 5 (by decide) (ht _ xw_452) (fun _ h9 => h9) rfl d_MaskEdgesModel_kernel_30 ?_
      refine lv_bipush (v := (6 : Int32)) hx hb d_MaskEdgesModel_kernel_33 (by decide) ?_
      refine lv_icmp_ne (tgt := 41) hx hb d_MaskEdgesModel_kernel_35 (by decide) (fun hc => ?_) (fun hc => ?_)
      · replace hf := x_f hc hf
        refine lv_aload_n hx hb d_MaskEdgesModel_kernel_41 rfl (lv_at hl 0 rfl) ?_
        refine va_get (D := X.1) (ci := 6) (v := .ref (ad 5)) (C := "MaskEdgesModel") (T := F_MaskEdgesModel) (N := 28) hx hb ht in_MaskEdgesModel hown hK hP 0 yg0 rfl 6 (by decide) (ht _ xw_453) (fun _ h9 => h9) rfl d_MaskEdgesModel_kernel_42 ?_
        refine lv_aload_n hx hb d_MaskEdgesModel_kernel_45 rfl (lv_at hl 0 rfl) ?_
        refine va_get (D := X.1) (ci := 6) (v := .int (Y_kernels ST)) (C := "MaskEdgesModel") (T := F_MaskEdgesModel) (N := 28) hx hb ht in_MaskEdgesModel hown hK hP 0 yg0 rfl 5 (by decide) (ht _ xw_452) (fun _ h9 => h9) rfl d_MaskEdgesModel_kernel_46 ?_
        refine lv_iload_n hx hb d_MaskEdgesModel_kernel_49 rfl (lv_at hl 1 rfl) ?_
        obtain ⟨g50, hf⟩ := x_g hf
        refine va_iast hx hb hK hP (yD hA) hS 5 0 yg5 rfl (xin_in g50) d_MaskEdgesModel_kernel_50 (fun H locs hP _ hS => ?_)
        replace hP : va_P X.1 vwCl (wY X ad (Y_u_weights ST (upd (Y_weights ST) (Y_kernels ST).toNatClampNeg v1))) H := xeq ym_weights hP
        refine lv_aload_n hx hb d_MaskEdgesModel_kernel_51 rfl (lv_at hl 0 rfl) ?_
        refine va_get (D := X.1) (ci := 6) (v := .ref (ad 6)) (C := "MaskEdgesModel") (T := F_MaskEdgesModel) (N := 28) hx hb ht in_MaskEdgesModel hown hK hP 0 yg0 rfl 7 (by decide) (ht _ xw_454) (fun _ h9 => h9) rfl d_MaskEdgesModel_kernel_52 ?_
        refine lv_aload_n hx hb d_MaskEdgesModel_kernel_55 rfl (lv_at hl 0 rfl) ?_
        refine va_get (D := X.1) (ci := 6) (v := .int (Y_kernels (Y_u_weights ST (upd (Y_weights ST) (Y_kernels ST).toNatClampNeg v1)))) (C := "MaskEdgesModel") (T := F_MaskEdgesModel) (N := 28) hx hb ht in_MaskEdgesModel hown hK hP 0 yg0 rfl 5 (by decide) (ht _ xw_452) (fun _ h9 => h9) rfl d_MaskEdgesModel_kernel_56 ?_
        refine lv_iload_n hx hb d_MaskEdgesModel_kernel_59 rfl (lv_at hl 2 rfl) ?_
        obtain ⟨g60, hf⟩ := x_g hf
        refine va_iast hx hb hK hP (yD hA) hS 6 0 yg6 rfl (xin_in g60) d_MaskEdgesModel_kernel_60 (fun H locs hP _ hS => ?_)
        replace hP : va_P X.1 vwCl (wY X ad (Y_u_widths (Y_u_weights ST (upd (Y_weights ST) (Y_kernels ST).toNatClampNeg v1)) (upd (Y_widths (Y_u_weights ST (upd (Y_weights ST) (Y_kernels ST).toNatClampNeg v1))) (Y_kernels (Y_u_weights ST (upd (Y_weights ST) (Y_kernels ST).toNatClampNeg v1))).toNatClampNeg v2))) H := xeq ym_widths hP
        refine lv_aload_n hx hb d_MaskEdgesModel_kernel_61 rfl (lv_at hl 0 rfl) ?_
        refine lv_dup hx hb d_MaskEdgesModel_kernel_62 rfl ?_
        refine va_get (D := X.1) (ci := 6) (v := .int (Y_kernels (Y_u_widths (Y_u_weights ST (upd (Y_weights ST) (Y_kernels ST).toNatClampNeg v1)) (upd (Y_widths (Y_u_weights ST (upd (Y_weights ST) (Y_kernels ST).toNatClampNeg v1))) (Y_kernels (Y_u_weights ST (upd (Y_weights ST) (Y_kernels ST).toNatClampNeg v1))).toNatClampNeg v2)))) (C := "MaskEdgesModel") (T := F_MaskEdgesModel) (N := 28) hx hb ht in_MaskEdgesModel hown hK hP 0 yg0 rfl 5 (by decide) (ht _ xw_452) (fun _ h9 => h9) rfl d_MaskEdgesModel_kernel_63 ?_
        refine lv_iconst (v := (1 : Int32)) hx hb d_MaskEdgesModel_kernel_66 (by decide) ?_
        refine lv_iadd hx hb d_MaskEdgesModel_kernel_67 ?_
        refine va_put (D := X.1) (ci := 6) (v := .int ((Y_kernels (Y_u_widths (Y_u_weights ST (upd (Y_weights ST) (Y_kernels ST).toNatClampNeg v1)) (upd (Y_widths (Y_u_weights ST (upd (Y_weights ST) (Y_kernels ST).toNatClampNeg v1))) (Y_kernels (Y_u_weights ST (upd (Y_weights ST) (Y_kernels ST).toNatClampNeg v1))).toNatClampNeg v2))) + (1 : Int32))) (ty := .int) (C := "MaskEdgesModel") (T := F_MaskEdgesModel) (N := 28) hx hb ht in_MaskEdgesModel ty_MaskEdgesModel tyk_MaskEdgesModel nm_MaskEdgesModel hown hK hP (yD hA) hS 0 yg0 rfl 5 (by decide) (ht _ xw_452) (fun _ h9 => h9) rfl (by decide +kernel) rfl rfl (Nat.le_of_ble_eq_true rfl) d_MaskEdgesModel_kernel_68 (fun H locs hP _ hS => ?_)
        replace hP : va_P X.1 vwCl (wY X ad (Y_u_kernels (Y_u_widths (Y_u_weights ST (upd (Y_weights ST) (Y_kernels ST).toNatClampNeg v1)) (upd (Y_widths (Y_u_weights ST (upd (Y_weights ST) (Y_kernels ST).toNatClampNeg v1))) (Y_kernels (Y_u_weights ST (upd (Y_weights ST) (Y_kernels ST).toNatClampNeg v1))).toNatClampNeg v2)) ((Y_kernels (Y_u_widths (Y_u_weights ST (upd (Y_weights ST) (Y_kernels ST).toNatClampNeg v1)) (upd (Y_widths (Y_u_weights ST (upd (Y_weights ST) (Y_kernels ST).toNatClampNeg v1))) (Y_kernels (Y_u_weights ST (upd (Y_weights ST) (Y_kernels ST).toNatClampNeg v1))).toNatClampNeg v2))) + (1 : Int32)))) H := xeq ym_kernels hP
        refine lv_aload_n hx hb d_MaskEdgesModel_kernel_71 rfl (lv_at hl 0 rfl) ?_
        refine va_get (D := X.1) (ci := 6) (v := .int (Y_kernels (Y_u_kernels (Y_u_widths (Y_u_weights ST (upd (Y_weights ST) (Y_kernels ST).toNatClampNeg v1)) (upd (Y_widths (Y_u_weights ST (upd (Y_weights ST) (Y_kernels ST).toNatClampNeg v1))) (Y_kernels (Y_u_weights ST (upd (Y_weights ST) (Y_kernels ST).toNatClampNeg v1))).toNatClampNeg v2)) ((Y_kernels (Y_u_widths (Y_u_weights ST (upd (Y_weights ST) (Y_kernels ST).toNatClampNeg v1)) (upd (Y_widths (Y_u_weights ST (upd (Y_weights ST) (Y_kernels ST).toNatClampNeg v1))) (Y_kernels (Y_u_weights ST (upd (Y_weights ST) (Y_kernels ST).toNatClampNeg v1))).toNatClampNeg v2))) + (1 : Int32))))) (C := "MaskEdgesModel") (T := F_MaskEdgesModel) (N := 28) hx hb ht in_MaskEdgesModel hown hK hP 0 yg0 rfl 5 (by decide) (ht _ xw_452) (fun _ h9 => h9) rfl d_MaskEdgesModel_kernel_72 ?_
        refine lv_iconst (v := (1 : Int32)) hx hb d_MaskEdgesModel_kernel_75 (by decide) ?_
        refine lv_isub hx hb d_MaskEdgesModel_kernel_76 ?_
        replace hf := x_s hf
        subst hf
        subst hQ
        exact W.iret (v := ((Y_kernels (Y_u_kernels (Y_u_widths (Y_u_weights ST (upd (Y_weights ST) (Y_kernels ST).toNatClampNeg v1)) (upd (Y_widths (Y_u_weights ST (upd (Y_weights ST) (Y_kernels ST).toNatClampNeg v1))) (Y_kernels (Y_u_weights ST (upd (Y_weights ST) (Y_kernels ST).toNatClampNeg v1))).toNatClampNeg v2)) ((Y_kernels (Y_u_widths (Y_u_weights ST (upd (Y_weights ST) (Y_kernels ST).toNatClampNeg v1)) (upd (Y_widths (Y_u_weights ST (upd (Y_weights ST) (Y_kernels ST).toNatClampNeg v1))) (Y_kernels (Y_u_weights ST (upd (Y_weights ST) (Y_kernels ST).toNatClampNeg v1))).toNatClampNeg v2))) + (1 : Int32)))) - (1 : Int32))) hx hb hr (fun t ht hW => ⟨⟨rfl, by rw [ht]; exact hP⟩, hS.F ht⟩) hS.2.2 d_MaskEdgesModel_kernel_77
      · replace hf := x_t hc hf
        refine lv_bipush (v := (-4 : Int32)) hx hb d_MaskEdgesModel_kernel_38 (by decide) ?_
        replace hf := x_s hf
        subst hf
        subst hQ
        exact W.iret (v := (-4 : Int32)) hx hb hr (fun t ht hW => ⟨⟨rfl, by rw [ht]; exact hP⟩, hS.F ht⟩) hS.2.2 d_MaskEdgesModel_kernel_40
    · replace hf := x_t hc hf
      refine lv_bipush (v := (-2 : Int32)) hx hb d_MaskEdgesModel_kernel_26 (by decide) ?_
      replace hf := x_s hf
      subst hf
      subst hQ
      exact W.iret (v := (-2 : Int32)) hx hb hr (fun t ht hW => ⟨⟨rfl, by rw [ht]; exact hP⟩, hS.F ht⟩) hS.2.2 d_MaskEdgesModel_kernel_28
