def f_Exposure_addKernel (v1 : Int32) (v2 : Int32) (o0 : t_Exposure) : Option (Int32 × t_Exposure) :=
  if (Exposure_kernels o0) < (6 : Int32) then
  if xin (Exposure_kernels o0) 6 = true then
    if xin (Exposure_kernels (Exposure_u_weights o0 (upd (Exposure_weights o0) (Exposure_kernels o0).toNatClampNeg v1))) 6 = true then
      some (((Exposure_kernels (Exposure_u_kernels (Exposure_u_widths (Exposure_u_weights o0 (upd (Exposure_weights o0) (Exposure_kernels o0).toNatClampNeg v1)) (upd (Exposure_widths (Exposure_u_weights o0 (upd (Exposure_weights o0) (Exposure_kernels o0).toNatClampNeg v1))) (Exposure_kernels (Exposure_u_weights o0 (upd (Exposure_weights o0) (Exposure_kernels o0).toNatClampNeg v1))).toNatClampNeg v2)) ((Exposure_kernels (Exposure_u_widths (Exposure_u_weights o0 (upd (Exposure_weights o0) (Exposure_kernels o0).toNatClampNeg v1)) (upd (Exposure_widths (Exposure_u_weights o0 (upd (Exposure_weights o0) (Exposure_kernels o0).toNatClampNeg v1))) (Exposure_kernels (Exposure_u_weights o0 (upd (Exposure_weights o0) (Exposure_kernels o0).toNatClampNeg v1))).toNatClampNeg v2))) + (1 : Int32)))) - (1 : Int32)), (Exposure_u_kernels (Exposure_u_widths (Exposure_u_weights o0 (upd (Exposure_weights o0) (Exposure_kernels o0).toNatClampNeg v1)) (upd (Exposure_widths (Exposure_u_weights o0 (upd (Exposure_weights o0) (Exposure_kernels o0).toNatClampNeg v1))) (Exposure_kernels (Exposure_u_weights o0 (upd (Exposure_weights o0) (Exposure_kernels o0).toNatClampNeg v1))).toNatClampNeg v2)) ((Exposure_kernels (Exposure_u_widths (Exposure_u_weights o0 (upd (Exposure_weights o0) (Exposure_kernels o0).toNatClampNeg v1)) (upd (Exposure_widths (Exposure_u_weights o0 (upd (Exposure_weights o0) (Exposure_kernels o0).toNatClampNeg v1))) (Exposure_kernels (Exposure_u_weights o0 (upd (Exposure_weights o0) (Exposure_kernels o0).toNatClampNeg v1))).toNatClampNeg v2))) + (1 : Int32))))
    else none
  else none
else
  some ((-4 : Int32), o0)
set_option maxHeartbeats 4000000 in
set_option maxRecDepth 100000 in
theorem c_Exposure_addKernel (l : Launch) (X : xG) {H : Heap} (h0 a0_0 a0_1 : Nat) (o0 : t_Exposure) (v1 : Int32) (v2 : Int32) {res : Int32 × t_Exposure} (hP0 : va_P X.1 vwCl (w_Exposure X h0 a0_0 a0_1 o0) H) (hnd : [h0, a0_0, a0_1].Nodup) (hf : f_Exposure_addKernel v1 v2 o0 = some res) : xM l y_Exposure_addKernel (Cond.code y_Exposure_addKernel prog_4_method_2_code 3 (some .int) :: xT) ({ frames := 0, cells := 0, slots := 0, locals := 0 } : Room) (xK X) [.ref h0, .int v1, .int v2] H (xAl [h0, a0_0, a0_1]) (some (.int res.1)) (fun H1 => va_P X.1 vwCl (w_Exposure X h0 a0_0 a0_1 res.2) H1) := by
  refine Met.ofW (cc := prog_4_method_2_code) (maxL := 3) (ret := (some .int)) (by decide) rfl ?_
  intro p e s m args below meth c s₁ B hml hv
  obtain ⟨ha, hH, hKK⟩ := hv
  subst hH
  have hx := B.exec
  have hb := B.bytes
  have hr := B.returns
  have ht : ∀ w ∈ xT, w.before args s = true := fun w h => atoms_spec (ws := (Cond.code y_Exposure_addKernel prog_4_method_2_code 3 (some .int) :: xT)) B.pre w (List.mem_cons_of_mem _ h)
  have hown : s.vm.findClass "MaskEdges$Exposure" = some m.cls := findClass_of_methodNamed B.named
  have hlocks := B.notSynchronized
  have hK := hKK.1
  rw [show entryFrame m args 3 = entryFrame m ([.ref h0, .int v1, .int v2] : List Value).toArray 3 from by rw [ha]]
  clear ha
  have hP := hP0
  have hD : va_D (xAl [h0, a0_0, a0_1]) (w_Exposure X h0 a0_0 a0_1 o0) := xDl rfl hnd
  have hS : va_S (xAl [h0, a0_0, a0_1]) s.heap s.heap [] := va_S.rf
  have hl := lv_entry ([.ref h0, .int v1, .int v2]) (n := 3) (Nat.le_of_ble_eq_true rfl)
  rw [lg_entry_eq]
  generalize (lg_sl ([.ref h0, .int v1, .int v2]) ++ List.replicate (3 - (lg_sl ([.ref h0, .int v1, .int v2])).length) Slot.unset).toArray = ls at hl ⊢
  replace hl : lv_has ls 3 [(0, .ref h0), (1, .int v1), (2, .int v2)] := hl
  refine x_Q (fun Q hQ => ?_)
  unfold f_Exposure_addKernel at hf
  refine lv_aload_n hx hb d_Exposure_addKernel_0 rfl (lv_at hl 0 rfl) ?_
  refine va_get (D := X.1) (ci := 2) (v := .int (Exposure_kernels o0)) (C := "MaskEdges$Exposure") (T := F_Exposure) (N := 4) hx hb ht in_Exposure hown hK hP 0 rfl rfl 2 (by decide) (ht _ xw_73) (fun _ h9 => h9) rfl d_Exposure_addKernel_1 ?_
  refine lv_bipush (v := (6 : Int32)) hx hb d_Exposure_addKernel_4 (by decide) ?_
  refine lv_icmp_lt (tgt := 12) hx hb d_Exposure_addKernel_6 (by decide) (fun hc => ?_) (fun hc => ?_)
  · replace hf := x_t hc hf
    refine lv_aload_n hx hb d_Exposure_addKernel_12 rfl (lv_at hl 0 rfl) ?_
    refine va_get (D := X.1) (ci := 2) (v := .ref a0_0) (C := "MaskEdges$Exposure") (T := F_Exposure) (N := 4) hx hb ht in_Exposure hown hK hP 0 rfl rfl 0 (by decide) (ht _ xw_71) (fun _ h9 => h9) rfl d_Exposure_addKernel_13 ?_
    refine lv_aload_n hx hb d_Exposure_addKernel_16 rfl (lv_at hl 0 rfl) ?_
    refine va_get (D := X.1) (ci := 2) (v := .int (Exposure_kernels o0)) (C := "MaskEdges$Exposure") (T := F_Exposure) (N := 4) hx hb ht in_Exposure hown hK hP 0 rfl rfl 2 (by decide) (ht _ xw_73) (fun _ h9 => h9) rfl d_Exposure_addKernel_17 ?_
    refine lv_iload_n hx hb d_Exposure_addKernel_20 rfl (lv_at hl 1 rfl) ?_
    obtain ⟨g21, hf⟩ := x_g hf
    refine va_iast hx hb hK hP hD hS 1 0 rfl rfl (xin_in g21) d_Exposure_addKernel_21 (fun H locs hP hD hS => ?_)
    replace hP : va_P X.1 vwCl (w_Exposure X h0 a0_0 a0_1 (Exposure_u_weights o0 (upd (Exposure_weights o0) (Exposure_kernels o0).toNatClampNeg v1))) H := hP
    replace hD : va_D _ (w_Exposure X h0 a0_0 a0_1 (Exposure_u_weights o0 (upd (Exposure_weights o0) (Exposure_kernels o0).toNatClampNeg v1))) := hD
    refine lv_aload_n hx hb d_Exposure_addKernel_22 rfl (lv_at hl 0 rfl) ?_
    refine va_get (D := X.1) (ci := 2) (v := .ref a0_1) (C := "MaskEdges$Exposure") (T := F_Exposure) (N := 4) hx hb ht in_Exposure hown hK hP 0 rfl rfl 1 (by decide) (ht _ xw_72) (fun _ h9 => h9) rfl d_Exposure_addKernel_23 ?_
    refine lv_aload_n hx hb d_Exposure_addKernel_26 rfl (lv_at hl 0 rfl) ?_
    refine va_get (D := X.1) (ci := 2) (v := .int (Exposure_kernels (Exposure_u_weights o0 (upd (Exposure_weights o0) (Exposure_kernels o0).toNatClampNeg v1)))) (C := "MaskEdges$Exposure") (T := F_Exposure) (N := 4) hx hb ht in_Exposure hown hK hP 0 rfl rfl 2 (by decide) (ht _ xw_73) (fun _ h9 => h9) rfl d_Exposure_addKernel_27 ?_
    refine lv_iload_n hx hb d_Exposure_addKernel_30 rfl (lv_at hl 2 rfl) ?_
    obtain ⟨g31, hf⟩ := x_g hf
    refine va_iast hx hb hK hP hD hS 2 0 rfl rfl (xin_in g31) d_Exposure_addKernel_31 (fun H locs hP hD hS => ?_)
    replace hP : va_P X.1 vwCl (w_Exposure X h0 a0_0 a0_1 (Exposure_u_widths (Exposure_u_weights o0 (upd (Exposure_weights o0) (Exposure_kernels o0).toNatClampNeg v1)) (upd (Exposure_widths (Exposure_u_weights o0 (upd (Exposure_weights o0) (Exposure_kernels o0).toNatClampNeg v1))) (Exposure_kernels (Exposure_u_weights o0 (upd (Exposure_weights o0) (Exposure_kernels o0).toNatClampNeg v1))).toNatClampNeg v2))) H := hP
    replace hD : va_D _ (w_Exposure X h0 a0_0 a0_1 (Exposure_u_widths (Exposure_u_weights o0 (upd (Exposure_weights o0) (Exposure_kernels o0).toNatClampNeg v1)) (upd (Exposure_widths (Exposure_u_weights o0 (upd (Exposure_weights o0) (Exposure_kernels o0).toNatClampNeg v1))) (Exposure_kernels (Exposure_u_weights o0 (upd (Exposure_weights o0) (Exposure_kernels o0).toNatClampNeg v1))).toNatClampNeg v2))) := hD
    refine lv_aload_n hx hb d_Exposure_addKernel_32 rfl (lv_at hl 0 rfl) ?_
    refine lv_dup hx hb d_Exposure_addKernel_33 rfl ?_
    refine va_get (D := X.1) (ci := 2) (v := .int (Exposure_kernels (Exposure_u_widths (Exposure_u_weights o0 (upd (Exposure_weights o0) (Exposure_kernels o0).toNatClampNeg v1)) (upd (Exposure_widths (Exposure_u_weights o0 (upd (Exposure_weights o0) (Exposure_kernels o0).toNatClampNeg v1))) (Exposure_kernels (Exposure_u_weights o0 (upd (Exposure_weights o0) (Exposure_kernels o0).toNatClampNeg v1))).toNatClampNeg v2)))) (C := "MaskEdges$Exposure") (T := F_Exposure) (N := 4) hx hb ht in_Exposure hown hK hP 0 rfl rfl 2 (by decide) (ht _ xw_73) (fun _ h9 => h9) rfl d_Exposure_addKernel_34 ?_
    refine lv_iconst (v := (1 : Int32)) hx hb d_Exposure_addKernel_37 (by decide) ?_
    refine lv_iadd hx hb d_Exposure_addKernel_38 ?_
    refine va_put (D := X.1) (ci := 2) (v := .int ((Exposure_kernels (Exposure_u_widths (Exposure_u_weights o0 (upd (Exposure_weights o0) (Exposure_kernels o0).toNatClampNeg v1)) (upd (Exposure_widths (Exposure_u_weights o0 (upd (Exposure_weights o0) (Exposure_kernels o0).toNatClampNeg v1))) (Exposure_kernels (Exposure_u_weights o0 (upd (Exposure_weights o0) (Exposure_kernels o0).toNatClampNeg v1))).toNatClampNeg v2))) + (1 : Int32))) (ty := .int) (C := "MaskEdges$Exposure") (T := F_Exposure) (N := 4) hx hb ht in_Exposure ty_Exposure tyk_Exposure nm_Exposure hown hK hP hD hS 0 rfl rfl 2 (by decide) (ht _ xw_73) (fun _ h9 => h9) rfl (by decide +kernel) rfl rfl (Nat.le_of_ble_eq_true rfl) d_Exposure_addKernel_39 (fun H locs hP hD hS => ?_)
    replace hP : va_P X.1 vwCl (w_Exposure X h0 a0_0 a0_1 (Exposure_u_kernels (Exposure_u_widths (Exposure_u_weights o0 (upd (Exposure_weights o0) (Exposure_kernels o0).toNatClampNeg v1)) (upd (Exposure_widths (Exposure_u_weights o0 (upd (Exposure_weights o0) (Exposure_kernels o0).toNatClampNeg v1))) (Exposure_kernels (Exposure_u_weights o0 (upd (Exposure_weights o0) (Exposure_kernels o0).toNatClampNeg v1))).toNatClampNeg v2)) ((Exposure_kernels (Exposure_u_widths (Exposure_u_weights o0 (upd (Exposure_weights o0) (Exposure_kernels o0).toNatClampNeg v1)) (upd (Exposure_widths (Exposure_u_weights o0 (upd (Exposure_weights o0) (Exposure_kernels o0).toNatClampNeg v1))) (Exposure_kernels (Exposure_u_weights o0 (upd (Exposure_weights o0) (Exposure_kernels o0).toNatClampNeg v1))).toNatClampNeg v2))) + (1 : Int32)))) H := hP
    replace hD : va_D _ (w_Exposure X h0 a0_0 a0_1 (Exposure_u_kernels (Exposure_u_widths (Exposure_u_weights o0 (upd (Exposure_weights o0) (Exposure_kernels o0).toNatClampNeg v1)) (upd (Exposure_widths (Exposure_u_weights o0 (upd (Exposure_weights o0) (Exposure_kernels o0).toNatClampNeg v1))) (Exposure_kernels (Exposure_u_weights o0 (upd (Exposure_weights o0) (Exposure_kernels o0).toNatClampNeg v1))).toNatClampNeg v2)) ((Exposure_kernels (Exposure_u_widths (Exposure_u_weights o0 (upd (Exposure_weights o0) (Exposure_kernels o0).toNatClampNeg v1)) (upd (Exposure_widths (Exposure_u_weights o0 (upd (Exposure_weights o0) (Exposure_kernels o0).toNatClampNeg v1))) (Exposure_kernels (Exposure_u_weights o0 (upd (Exposure_weights o0) (Exposure_kernels o0).toNatClampNeg v1))).toNatClampNeg v2))) + (1 : Int32)))) := hD
    refine lv_aload_n hx hb d_Exposure_addKernel_42 rfl (lv_at hl 0 rfl) ?_
    refine va_get (D := X.1) (ci := 2) (v := .int (Exposure_kernels (Exposure_u_kernels (Exposure_u_widths (Exposure_u_weights o0 (upd (Exposure_weights o0) (Exposure_kernels o0).toNatClampNeg v1)) (upd (Exposure_widths (Exposure_u_weights o0 (upd (Exposure_weights o0) (Exposure_kernels o0).toNatClampNeg v1))) (Exposure_kernels (Exposure_u_weights o0 (upd (Exposure_weights o0) (Exposure_kernels o0).toNatClampNeg v1))).toNatClampNeg v2)) ((Exposure_kernels (Exposure_u_widths (Exposure_u_weights o0 (upd (Exposure_weights o0) (Exposure_kernels o0).toNatClampNeg v1)) (upd (Exposure_widths (Exposure_u_weights o0 (upd (Exposure_weights o0) (Exposure_kernels o0).toNatClampNeg v1))) (Exposure_kernels (Exposure_u_weights o0 (upd (Exposure_weights o0) (Exposure_kernels o0).toNatClampNeg v1))).toNatClampNeg v2))) + (1 : Int32))))) (C := "MaskEdges$Exposure") (T := F_Exposure) (N := 4) hx hb ht in_Exposure hown hK hP 0 rfl rfl 2 (by decide) (ht _ xw_73) (fun _ h9 => h9) rfl d_Exposure_addKernel_43 ?_
    refine lv_iconst (v := (1 : Int32)) hx hb d_Exposure_addKernel_46 (by decide) ?_
    refine lv_isub hx hb d_Exposure_addKernel_47 ?_
    replace hf := x_s hf
    subst hf
    subst hQ
    exact W.iret (v := ((Exposure_kernels (Exposure_u_kernels (Exposure_u_widths (Exposure_u_weights o0 (upd (Exposure_weights o0) (Exposure_kernels o0).toNatClampNeg v1)) (upd (Exposure_widths (Exposure_u_weights o0 (upd (Exposure_weights o0) (Exposure_kernels o0).toNatClampNeg v1))) (Exposure_kernels (Exposure_u_weights o0 (upd (Exposure_weights o0) (Exposure_kernels o0).toNatClampNeg v1))).toNatClampNeg v2)) ((Exposure_kernels (Exposure_u_widths (Exposure_u_weights o0 (upd (Exposure_weights o0) (Exposure_kernels o0).toNatClampNeg v1)) (upd (Exposure_widths (Exposure_u_weights o0 (upd (Exposure_weights o0) (Exposure_kernels o0).toNatClampNeg v1))) (Exposure_kernels (Exposure_u_weights o0 (upd (Exposure_weights o0) (Exposure_kernels o0).toNatClampNeg v1))).toNatClampNeg v2))) + (1 : Int32)))) - (1 : Int32))) hx hb hr (fun t ht hW => ⟨⟨rfl, by rw [ht]; exact hP⟩, hS.F ht⟩) hS.2.2 d_Exposure_addKernel_48
  · replace hf := x_f hc hf
    refine lv_bipush (v := (-4 : Int32)) hx hb d_Exposure_addKernel_9 (by decide) ?_
    replace hf := x_s hf
    subst hf
    subst hQ
    exact W.iret (v := (-4 : Int32)) hx hb hr (fun t ht hW => ⟨⟨rfl, by rw [ht]; exact hP⟩, hS.F ht⟩) hS.2.2 d_Exposure_addKernel_11
def f_Exposure_imageAt_6 (o0 : t_Exposure) (o1 : t_CellSet) (r6 : Int32 → Int32 → Int32 → Int32 → Option (Int32)) (v2 : Int32) (v3 : Int32) (v4 : Int32) (v5 : Int32) : Option (Int32) :=
  if (Exposure_kernels o0) ≤ v5 then
  some v4
else
  if xin v5 6 = true then
    if xin v5 6 = true then
      (f_CellSet_countAround o1 v2 v3 (Exposure_widths o0 v5.toNatClampNeg)).bind fun c34 =>
        r6 v2 v3 (v4 + ((Exposure_weights o0 v5.toNatClampNeg) * c34)) (v5 + (1 : Int32))
    else none
  else none
def f_Exposure_imageAt (o0 : t_Exposure) (o1 : t_CellSet) (v2 : Int32) (v3 : Int32) : Option (Int32) :=
  (xloop (fun r => f_Exposure_imageAt_6 o0 o1 r) (fun _ _ _ _ => none) 100000) v2 v3 (0 : Int32) (0 : Int32)
set_option maxHeartbeats 4000000 in
set_option maxRecDepth 100000 in
theorem c_Exposure_imageAt (l : Launch) (X : xG) {H : Heap} (h0 a0_0 a0_1 : Nat) (o0 : t_Exposure) (h1 a1_0 : Nat) (o1 : t_CellSet) (v2 : Int32) (v3 : Int32) {res : Int32} (hP0 : va_P X.1 vwCl (w_Exposure X h0 a0_0 a0_1 o0) H) (hP1 : va_P X.1 vwCl (w_CellSet X h1 a1_0 o1) H) (hf : f_Exposure_imageAt o0 o1 v2 v3 = some res) : xM l y_Exposure_imageAt (Cond.code y_Exposure_imageAt prog_4_method_3_code 6 (some .int) :: xT) ({ frames := 2, cells := 0, slots := 0, locals := 51 } : Room) (xK X) [.ref h0, .ref h1, .int v2, .int v3] H xNo (some (.int res)) (fun H1 => H1 = H) := by
  refine Met.ofW (cc := prog_4_method_3_code) (maxL := 6) (ret := (some .int)) (by decide) rfl ?_
  intro p e s m args below meth c s₁ B hml hv
  obtain ⟨ha, hH, hKK⟩ := hv
  subst hH
  have hx := B.exec
  have hb := B.bytes
  have hr := B.returns
  have ht : ∀ w ∈ xT, w.before args s = true := fun w h => atoms_spec (ws := (Cond.code y_Exposure_imageAt prog_4_method_3_code 6 (some .int) :: xT)) B.pre w (List.mem_cons_of_mem _ h)
  have hown : s.vm.findClass "MaskEdges$Exposure" = some m.cls := findClass_of_methodNamed B.named
  have hlocks := B.notSynchronized
  have hK := hKK.1
  rw [show entryFrame m args 6 = entryFrame m ([.ref h0, .ref h1, .int v2, .int v3] : List Value).toArray 6 from by rw [ha]]
  clear ha
  have hl := lv_entry ([.ref h0, .ref h1, .int v2, .int v3]) (n := 6) (Nat.le_of_ble_eq_true rfl)
  rw [lg_entry_eq]
  generalize (lg_sl ([.ref h0, .ref h1, .int v2, .int v3]) ++ List.replicate (6 - (lg_sl ([.ref h0, .ref h1, .int v2, .int v3])).length) Slot.unset).toArray = ls at hl ⊢
  replace hl : lv_has ls 6 [(0, .ref h0), (1, .ref h1), (2, .int v2), (3, .int v3)] := hl
  refine x_Q (fun Q hQ => ?_)
  have hL6 : ∀ (n : Nat), ∀ (v2 : Int32) (v3 : Int32) (v4 : Int32) (v5 : Int32), ∀ (ls : Array Slot), lv_has ls 6 [(0, .ref h0), (1, .ref h1), (2, .int v2), (3, .int v3), (4, .int v4), (5, .int v5)] → (xloop (fun r => f_Exposure_imageAt_6 o0 o1 r) (fun _ _ _ _ => none) n) v2 v3 v4 v5 = some res → W p l e (headSpec (Cond.code y_Exposure_imageAt prog_4_method_3_code 6 (some .int) :: xT) ({ frames := 2, cells := 0, slots := 0, locals := 51 } : Room)).room s m args below meth c s.heap [] 0 0 Q (F0 m 6 ls []) := by
    intro n
    induction n with
    | zero => intro v2 v3 v4 v5 ls hl hf; cases hf
    | succ n ih =>
      intro v2 v3 v4 v5 ls hl hf
      replace hf : f_Exposure_imageAt_6 o0 o1 (xloop (fun r => f_Exposure_imageAt_6 o0 o1 r) (fun _ _ _ _ => none) n) v2 v3 v4 v5 = some res := hf
      have hr6 := ih
      clear ih
      unfold f_Exposure_imageAt_6 at hf
      refine lv_iload hx hb d_Exposure_imageAt_6 (lv_at hl 5 rfl) ?_
      refine lv_aload_n hx hb d_Exposure_imageAt_8 rfl (lv_at hl 0 rfl) ?_
      refine va_get (D := X.1) (ci := 2) (v := .int (Exposure_kernels o0)) (C := "MaskEdges$Exposure") (T := F_Exposure) (N := 4) hx hb ht in_Exposure hown hK hP0 0 rfl rfl 2 (by decide) (ht _ xw_73) (fun _ h9 => h9) rfl d_Exposure_imageAt_9 ?_
      refine lv_icmp_ge (tgt := 47) hx hb d_Exposure_imageAt_12 (by decide) (fun hc => ?_) (fun hc => ?_)
      · replace hf := x_t hc hf
        refine lv_iload hx hb d_Exposure_imageAt_47 (lv_at hl 4 rfl) ?_
        replace hf := x_s hf
        subst hf
        subst hQ
        exact W.iret (v := v4) hx hb hr (fun t ht hW => ⟨⟨rfl, ht⟩, x_F0 ht⟩) x_l0 d_Exposure_imageAt_49
      · replace hf := x_f hc hf
        refine lv_iload hx hb d_Exposure_imageAt_15 (lv_at hl 4 rfl) ?_
        refine lv_aload_n hx hb d_Exposure_imageAt_17 rfl (lv_at hl 0 rfl) ?_
        refine va_get (D := X.1) (ci := 2) (v := .ref a0_0) (C := "MaskEdges$Exposure") (T := F_Exposure) (N := 4) hx hb ht in_Exposure hown hK hP0 0 rfl rfl 0 (by decide) (ht _ xw_71) (fun _ h9 => h9) rfl d_Exposure_imageAt_18 ?_
        refine lv_iload hx hb d_Exposure_imageAt_21 (lv_at hl 5 rfl) ?_
        obtain ⟨g23, hf⟩ := x_g hf
        refine va_iald hx hb hK hP0 1 0 rfl rfl (xin_in g23) d_Exposure_imageAt_23 ?_
        refine lv_aload_n hx hb d_Exposure_imageAt_24 rfl (lv_at hl 1 rfl) ?_
        refine lv_iload_n hx hb d_Exposure_imageAt_25 rfl (lv_at hl 2 rfl) ?_
        refine lv_iload_n hx hb d_Exposure_imageAt_26 rfl (lv_at hl 3 rfl) ?_
        refine lv_aload_n hx hb d_Exposure_imageAt_27 rfl (lv_at hl 0 rfl) ?_
        refine va_get (D := X.1) (ci := 2) (v := .ref a0_1) (C := "MaskEdges$Exposure") (T := F_Exposure) (N := 4) hx hb ht in_Exposure hown hK hP0 0 rfl rfl 1 (by decide) (ht _ xw_72) (fun _ h9 => h9) rfl d_Exposure_imageAt_28 ?_
        refine lv_iload hx hb d_Exposure_imageAt_31 (lv_at hl 5 rfl) ?_
        obtain ⟨g33, hf⟩ := x_g hf
        refine va_iald hx hb hK hP0 2 0 rfl rfl (xin_in g33) d_Exposure_imageAt_33 ?_
        obtain ⟨c34, e34, hf⟩ := x_b hf
        refine xcR (va_runV (As := [.int v2, .int v3, .int (Exposure_widths o0 v5.toNatClampNeg)]) (rest := [.int (Exposure_weights o0 v5.toNatClampNeg), .int v4]) ⟨hx, hb, hml, hown, ht⟩ (c_CellSet_countAround l X h1 a1_0 o1 v2 v3 (Exposure_widths o0 v5.toNatClampNeg) hP1 e34) (cwV 3 ht (xgV xw_321 xw_322 xw_323 xw_38 xw_324) rfl rfl rfl (by decide +kernel) ⟨Nat.le_of_ble_eq_true rfl, Nat.le_of_ble_eq_true rfl⟩) (xPV hKK (va_recv hK hP1 (ci := 1) (q0 := 0) rfl rfl)) rfl rfl hl.1 rfl (lv_room (Nat.le_of_ble_eq_true rfl)) d_Exposure_imageAt_34 ⟨Nat.zero_le _, Nat.zero_le _⟩) ?_
        refine W.eq (g2 := F0 m 37 ls [.int c34, .int (Exposure_weights o0 v5.toNatClampNeg), .int v4]) rfl ?_
        refine lv_imul hx hb d_Exposure_imageAt_37 ?_
        refine lv_iadd hx hb d_Exposure_imageAt_38 ?_
        refine lv_istore (lv' := [(4, .int (v4 + ((Exposure_weights o0 v5.toNatClampNeg) * c34))), (0, .ref h0), (1, .ref h1), (2, .int v2), (3, .int v3), (5, .int v5)]) hx hb d_Exposure_imageAt_39 hl (by decide) rfl (fun ls hl => ?_)
        refine lv_iinc (v := (v5 + (1 : Int32))) (lv' := [(5, .int (v5 + (1 : Int32))), (4, .int (v4 + ((Exposure_weights o0 v5.toNatClampNeg) * c34))), (0, .ref h0), (1, .ref h1), (2, .int v2), (3, .int v3)]) hx hb d_Exposure_imageAt_41 hl (k := 5) rfl rfl (by decide) rfl (fun ls hl => ?_)
        refine lv_goto (tgt := 6) hx hb d_Exposure_imageAt_44 (by decide) ?_
        exact hr6 v2 v3 (v4 + ((Exposure_weights o0 v5.toNatClampNeg) * c34)) (v5 + (1 : Int32))  ls (lv_sub hl [2, 3, 4, 5, 1, 0] rfl) hf
  unfold f_Exposure_imageAt at hf
  refine lv_iconst (v := (0 : Int32)) hx hb d_Exposure_imageAt_0 (by decide) ?_
  refine lv_istore (lv' := [(4, .int (0 : Int32)), (0, .ref h0), (1, .ref h1), (2, .int v2), (3, .int v3)]) hx hb d_Exposure_imageAt_1 hl (by decide) rfl (fun ls hl => ?_)
  refine lv_iconst (v := (0 : Int32)) hx hb d_Exposure_imageAt_3 (by decide) ?_
  refine lv_istore (lv' := [(5, .int (0 : Int32)), (4, .int (0 : Int32)), (0, .ref h0), (1, .ref h1), (2, .int v2), (3, .int v3)]) hx hb d_Exposure_imageAt_4 hl (by decide) rfl (fun ls hl => ?_)
  exact (hL6 100000) v2 v3 (0 : Int32) (0 : Int32)  ls (lv_sub hl [2, 3, 4, 5, 1, 0] rfl) hf
def f_Exposure_printsAt (o0 : t_Exposure) (o1 : t_CellSet) (v2 : Int32) (v3 : Int32) (v4 : Int32) : Option (Int32) :=
  (f_MaskEdges_onGrid v2 v3).bind fun c2 =>
  if c2 = 0 then
  some (0 : Int32)
else
  (f_Exposure_imageAt o0 o1 v2 v3).bind fun c12 =>
    if (c12 * v4) < ((100 : Int32) * (Exposure_threshold o0)) then
    some (0 : Int32)
  else
    some (1 : Int32)
set_option maxHeartbeats 4000000 in
set_option maxRecDepth 100000 in
theorem c_Exposure_printsAt (l : Launch) (X : xG) {H : Heap} (h0 a0_0 a0_1 : Nat) (o0 : t_Exposure) (h1 a1_0 : Nat) (o1 : t_CellSet) (v2 : Int32) (v3 : Int32) (v4 : Int32) {res : Int32} (hP0 : va_P X.1 vwCl (w_Exposure X h0 a0_0 a0_1 o0) H) (hP1 : va_P X.1 vwCl (w_CellSet X h1 a1_0 o1) H) (hf : f_Exposure_printsAt o0 o1 v2 v3 v4 = some res) : xM l y_Exposure_printsAt (Cond.code y_Exposure_printsAt prog_4_method_4_code 5 (some .boolean) :: xT) ({ frames := 3, cells := 0, slots := 0, locals := 76 } : Room) (xK X) [.ref h0, .ref h1, .int v2, .int v3, .int v4] H xNo (some (.int res)) (fun H1 => H1 = H) := by
  refine Met.ofW (cc := prog_4_method_4_code) (maxL := 5) (ret := (some .boolean)) (by decide) rfl ?_
  intro p e s m args below meth c s₁ B hml hv
  obtain ⟨ha, hH, hKK⟩ := hv
  subst hH
  have hx := B.exec
  have hb := B.bytes
  have hr := B.returns
  have ht : ∀ w ∈ xT, w.before args s = true := fun w h => atoms_spec (ws := (Cond.code y_Exposure_printsAt prog_4_method_4_code 5 (some .boolean) :: xT)) B.pre w (List.mem_cons_of_mem _ h)
  have hown : s.vm.findClass "MaskEdges$Exposure" = some m.cls := findClass_of_methodNamed B.named
  have hlocks := B.notSynchronized
  have hK := hKK.1
  rw [show entryFrame m args 5 = entryFrame m ([.ref h0, .ref h1, .int v2, .int v3, .int v4] : List Value).toArray 5 from by rw [ha]]
  clear ha
  have hl := lv_entry ([.ref h0, .ref h1, .int v2, .int v3, .int v4]) (n := 5) (Nat.le_of_ble_eq_true rfl)
  rw [lg_entry_eq]
  generalize (lg_sl ([.ref h0, .ref h1, .int v2, .int v3, .int v4]) ++ List.replicate (5 - (lg_sl ([.ref h0, .ref h1, .int v2, .int v3, .int v4])).length) Slot.unset).toArray = ls at hl ⊢
  replace hl : lv_has ls 5 [(0, .ref h0), (1, .ref h1), (2, .int v2), (3, .int v3), (4, .int v4)] := hl
  refine x_Q (fun Q hQ => ?_)
  unfold f_Exposure_printsAt at hf
  refine lv_iload_n hx hb d_Exposure_printsAt_0 rfl (lv_at hl 2 rfl) ?_
  refine lv_iload_n hx hb d_Exposure_printsAt_1 rfl (lv_at hl 3 rfl) ?_
  obtain ⟨c2, e2, hf⟩ := x_b hf
  refine xcR (va_runSN (As := [.int v2, .int v3]) (rest := []) ⟨hx, hb, hml, hown, ht⟩ (c_MaskEdges_onGrid l X v2 v3 e2) ⟨va_cnB 2 ht (xgC xw_225) rfl rfl rfl (hKK.2 _ xn_7) (ht _ xw_37) (by decide +kernel) ⟨Nat.le_of_ble_eq_true rfl, Nat.le_of_ble_eq_true rfl⟩, ht _ xw_224, trivial⟩ (xPS hKK) rfl rfl hl.1 rfl (lv_room (Nat.le_of_ble_eq_true rfl)) d_Exposure_printsAt_2 ⟨Nat.zero_le _, Nat.zero_le _⟩) ?_
  refine W.eq (g2 := F0 m 5 ls [.int c2]) rfl ?_
  refine lv_if_eq (tgt := 32) hx hb d_Exposure_printsAt_5 (by decide) (fun hc => ?_) (fun hc => ?_)
  · replace hf := x_t hc hf
    refine lv_iconst (v := (0 : Int32)) hx hb d_Exposure_printsAt_32 (by decide) ?_
    replace hf := x_s hf
    subst hf
    subst hQ
    exact W.zret (v := (0 : Int32)) hx hb hr (xz_n (by decide)) (fun t ht hW => ⟨⟨rfl, ht⟩, x_F0 ht⟩) x_l0 d_Exposure_printsAt_33
  · replace hf := x_f hc hf
    refine lv_aload_n hx hb d_Exposure_printsAt_8 rfl (lv_at hl 0 rfl) ?_
    refine lv_aload_n hx hb d_Exposure_printsAt_9 rfl (lv_at hl 1 rfl) ?_
    refine lv_iload_n hx hb d_Exposure_printsAt_10 rfl (lv_at hl 2 rfl) ?_
    refine lv_iload_n hx hb d_Exposure_printsAt_11 rfl (lv_at hl 3 rfl) ?_
    obtain ⟨c12, e12, hf⟩ := x_b hf
    refine xcR (va_runV (As := [.ref h1, .int v2, .int v3]) (rest := []) ⟨hx, hb, hml, hown, ht⟩ (c_Exposure_imageAt l X h0 a0_0 a0_1 o0 h1 a1_0 o1 v2 v3 hP0 hP1 e12) (cwV 3 ht (xgV xw_349 xw_318 xw_319 xw_39 xw_320) rfl rfl rfl (by decide +kernel) ⟨Nat.le_of_ble_eq_true rfl, Nat.le_of_ble_eq_true rfl⟩) (xPV hKK (va_recv hK hP0 (ci := 2) (q0 := 0) rfl rfl)) rfl rfl hl.1 rfl (lv_room (Nat.le_of_ble_eq_true rfl)) d_Exposure_printsAt_12 ⟨Nat.zero_le _, Nat.zero_le _⟩) ?_
    refine W.eq (g2 := F0 m 15 ls [.int c12]) rfl ?_
    refine lv_iload hx hb d_Exposure_printsAt_15 (lv_at hl 4 rfl) ?_
    refine lv_imul hx hb d_Exposure_printsAt_17 ?_
    refine lv_bipush (v := (100 : Int32)) hx hb d_Exposure_printsAt_18 (by decide) ?_
    refine lv_aload_n hx hb d_Exposure_printsAt_20 rfl (lv_at hl 0 rfl) ?_
    refine va_get (D := X.1) (ci := 2) (v := .int (Exposure_threshold o0)) (C := "MaskEdges$Exposure") (T := F_Exposure) (N := 4) hx hb ht in_Exposure hown hK hP0 0 rfl rfl 3 (by decide) (ht _ xw_74) (fun _ h9 => h9) rfl d_Exposure_printsAt_21 ?_
    refine lv_imul hx hb d_Exposure_printsAt_24 ?_
    refine lv_icmp_lt (tgt := 32) hx hb d_Exposure_printsAt_25 (by decide) (fun hc => ?_) (fun hc => ?_)
    · replace hf := x_t hc hf
      refine lv_iconst (v := (0 : Int32)) hx hb d_Exposure_printsAt_32 (by decide) ?_
      replace hf := x_s hf
      subst hf
      subst hQ
      exact W.zret (v := (0 : Int32)) hx hb hr (xz_n (by decide)) (fun t ht hW => ⟨⟨rfl, ht⟩, x_F0 ht⟩) x_l0 d_Exposure_printsAt_33
    · replace hf := x_f hc hf
      refine lv_iconst (v := (1 : Int32)) hx hb d_Exposure_printsAt_28 (by decide) ?_
      refine lv_goto (tgt := 33) hx hb d_Exposure_printsAt_29 (by decide) ?_
      replace hf := x_s hf
      subst hf
      subst hQ
      exact W.zret (v := (1 : Int32)) hx hb hr (xz_n (by decide)) (fun t ht hW => ⟨⟨rfl, ht⟩, x_F0 ht⟩) x_l0 d_Exposure_printsAt_33
