def f_MaskEdgesModel_is (v1 : Int32) (v2 : Int32) (v3 : Int32) (ST : ySt) : Option (Int32 × ySt) :=
  (f_MaskEdgesModel_isCell v1 v2).bind fun c2 =>
  if c2 = 0 then
  some ((0 : Int32), ST)
else
  (f_MaskEdgesModel_isBetween v3.toInt64 (0 : Int64) (2 : Int64)).bind fun c14 =>
    if c14 = 0 then
    some ((0 : Int32), ST)
  else
    if v3 = 0 then
      (f_MaskEdgesModel_isTarget ST v1 v2).bind fun c29 =>
        if xz c29 = true then
        some (c29, ST)
      else none
    else
      (f_MaskEdgesModel_make ST).bind fun c34 =>
        if v3 = (1 : Int32) then
        if xin (((48 : Int32) * v2) + v1) 2304 = true then
          if xz (Y_mask c34 (((48 : Int32) * v2) + v1).toNatClampNeg) = true then
            some ((Y_mask c34 (((48 : Int32) * v2) + v1).toNatClampNeg), c34)
          else none
        else none
      else
        (f_MaskEdgesModel_doesPrint c34 v1 v2 (100 : Int32)).bind fun c61 =>
          if xz c61 = true then
          some (c61, c34)
        else none
set_option maxHeartbeats 4000000 in
set_option maxRecDepth 100000 in
theorem c_MaskEdgesModel_is (l : Launch) (X : xG) {H : Heap} (ad : Nat → Nat) (ST : ySt) (v1 : Int32) (v2 : Int32) (v3 : Int32) {res : Int32 × ySt} (hP : va_P X.1 vwCl (wY X ad ST) H) (hA : okB ad) (hf : f_MaskEdgesModel_is v1 v2 v3 ST = some res) : xM l y_MaskEdgesModel_is (Cond.code y_MaskEdgesModel_is prog_8_method_42_code 4 (some .boolean) :: xT) ({ frames := 5, cells := 0, slots := 0, locals := 122 } : Room) (xK X) [.ref (ad 0), .int v1, .int v2, .int v3] H (yA ad) (some (.int res.1)) (fun H1 => va_P X.1 vwCl (wY X ad res.2) H1) := by
  refine Met.ofW (cc := prog_8_method_42_code) (maxL := 4) (ret := (some .boolean)) (by decide) rfl ?_
  intro p e s m args below meth c s₁ B hml hv
  obtain ⟨ha, hH, hKK⟩ := hv
  subst hH
  have hx := B.exec
  have hb := B.bytes
  have hr := B.returns
  have ht : ∀ w ∈ xT, w.before args s = true := fun w h => atoms_spec (ws := (Cond.code y_MaskEdgesModel_is prog_8_method_42_code 4 (some .boolean) :: xT)) B.pre w (List.mem_cons_of_mem _ h)
  have hown : s.vm.findClass "MaskEdgesModel" = some m.cls := findClass_of_methodNamed B.named
  have hlocks := B.notSynchronized
  have hK := hKK.1
  rw [show entryFrame m args 4 = entryFrame m ([.ref (ad 0), .int v1, .int v2, .int v3] : List Value).toArray 4 from by rw [ha]]
  clear ha
  have hS : va_S (yA ad) s.heap s.heap [] := va_S.rf
  have hl := lv_entry ([.ref (ad 0), .int v1, .int v2, .int v3]) (n := 4) (Nat.le_of_ble_eq_true rfl)
  rw [lg_entry_eq]
  generalize (lg_sl ([.ref (ad 0), .int v1, .int v2, .int v3]) ++ List.replicate (4 - (lg_sl ([.ref (ad 0), .int v1, .int v2, .int v3])).length) Slot.unset).toArray = ls at hl ⊢
  replace hl : lv_has ls 4 [(0, .ref (ad 0)), (1, .int v1), (2, .int v2), (3, .int v3)] := hl
  refine x_Q (fun Q hQ => ?_)
  unfold f_MaskEdgesModel_is at hf
  refine lv_iload_n hx hb d_MaskEdgesModel_is_0 rfl (lv_at hl 1 rfl) ?_
  refine lv_iload_n hx hb d_MaskEdgesModel_is_1 rfl (lv_at hl 2 rfl) ?_
  obtain ⟨c2, e2, hf⟩ := x_b hf
  refine xcR (va_runS (As := [.int v1, .int v2]) (rest := []) ⟨hx, hb, hml, hown, ht⟩ (c_MaskEdgesModel_isCell l X v1 v2 e2) (cwS 2 ht (xgS xw_551 xw_552 xw_43 xw_553) rfl rfl rfl (by decide +kernel) ⟨Nat.le_of_ble_eq_true rfl, Nat.le_of_ble_eq_true rfl⟩) (xPS hKK) rfl rfl hl.1 rfl (lv_room (Nat.le_of_ble_eq_true rfl)) d_MaskEdgesModel_is_2 ⟨Nat.zero_le _, Nat.zero_le _⟩) ?_
  refine W.eq (g2 := F0 m 5 ls [.int c2]) rfl ?_
  refine lv_if_eq (tgt := 20) hx hb d_MaskEdgesModel_is_5 (by decide) (fun hc => ?_) (fun hc => ?_)
  · replace hf := x_t hc hf
    refine lv_iconst (v := (0 : Int32)) hx hb d_MaskEdgesModel_is_20 (by decide) ?_
    replace hf := x_s hf
    subst hf
    subst hQ
    exact W.zret (v := (0 : Int32)) hx hb hr (xz_n (by decide)) (fun t ht hW => ⟨⟨rfl, by rw [ht]; exact hP⟩, hS.F ht⟩) hS.2.2 d_MaskEdgesModel_is_21
  · replace hf := x_f hc hf
    refine lv_iload_n hx hb d_MaskEdgesModel_is_8 rfl (lv_at hl 3 rfl) ?_
    refine lv_i2l hx hb d_MaskEdgesModel_is_9 rfl ?_
    refine lv_lconst (v := (0 : Int64)) hx hb d_MaskEdgesModel_is_10 (by decide) ?_
    refine lv_ldc2 (v := (2 : Int64)) hx hb hown (ht _ xw_655) d_MaskEdgesModel_is_11 ?_
    obtain ⟨c14, e14, hf⟩ := x_b hf
    refine xcR (va_runS (As := [.long v3.toInt64, .long (0 : Int64), .long (2 : Int64)]) (rest := []) ⟨hx, hb, hml, hown, ht⟩ (c_MaskEdgesModel_isBetween l X v3.toInt64 (0 : Int64) (2 : Int64) e14) (cwS 3 ht (xgS xw_512 xw_513 xw_43 xw_514) rfl rfl rfl (by decide +kernel) ⟨Nat.le_of_ble_eq_true rfl, Nat.le_of_ble_eq_true rfl⟩) (xPS hKK) rfl rfl hl.1 rfl (lv_room (Nat.le_of_ble_eq_true rfl)) d_MaskEdgesModel_is_14 ⟨Nat.zero_le _, Nat.zero_le _⟩) ?_
    refine W.eq (g2 := F0 m 17 ls [.int c14]) rfl ?_
    refine lv_if_ne (tgt := 22) hx hb d_MaskEdgesModel_is_17 (by decide) (fun hc => ?_) (fun hc => ?_)
    · replace hf := x_f hc hf
      refine lv_iload_n hx hb d_MaskEdgesModel_is_22 rfl (lv_at hl 3 rfl) ?_
      refine lv_if_ne (tgt := 33) hx hb d_MaskEdgesModel_is_23 (by decide) (fun hc => ?_) (fun hc => ?_)
      · replace hf := x_f hc hf
        refine lv_aload_n hx hb d_MaskEdgesModel_is_33 rfl (lv_at hl 0 rfl) ?_
        obtain ⟨c34, e34, hf⟩ := x_b hf
        refine xc (va_runV (As := []) (rest := []) ⟨hx, hb, hml, hown, ht⟩ (c_MaskEdgesModel_make l X ad ST hP hA e34) (cwV 0 ht (xgV xw_559 xw_560 xw_22 xw_43 xw_561) rfl rfl rfl (by decide +kernel) ⟨Nat.le_of_ble_eq_true rfl, Nat.le_of_ble_eq_true rfl⟩) (xPV hKK (va_recv hK hP (ci := 6) (q0 := 0) rfl yg0)) rfl rfl hl.1 rfl (lv_room (Nat.le_of_ble_eq_true rfl)) d_MaskEdgesModel_is_34 ⟨Nat.zero_le _, Nat.zero_le _⟩) (fun H1 L hq hz => ?_)
        replace hS := xS_call hS hz (fun _ h => h)
        replace hP : va_P X.1 vwCl (wY X ad c34) H1 := hq
        clear hq hz
        refine W.eq (g2 := F0 m 37 ls []) rfl ?_
        refine lv_iload_n hx hb d_MaskEdgesModel_is_37 rfl (lv_at hl 3 rfl) ?_
        refine lv_iconst (v := (1 : Int32)) hx hb d_MaskEdgesModel_is_38 (by decide) ?_
        refine lv_icmp_ne (tgt := 56) hx hb d_MaskEdgesModel_is_39 (by decide) (fun hc => ?_) (fun hc => ?_)
        · replace hf := x_f hc hf
          refine lv_aload_n hx hb d_MaskEdgesModel_is_56 rfl (lv_at hl 0 rfl) ?_
          refine lv_iload_n hx hb d_MaskEdgesModel_is_57 rfl (lv_at hl 1 rfl) ?_
          refine lv_iload_n hx hb d_MaskEdgesModel_is_58 rfl (lv_at hl 2 rfl) ?_
          refine lv_bipush (v := (100 : Int32)) hx hb d_MaskEdgesModel_is_59 (by decide) ?_
          obtain ⟨c61, e61, hf⟩ := x_b hf
          refine xcR (va_runV (As := [.int v1, .int v2, .int (100 : Int32)]) (rest := []) ⟨hx, hb, hml, hown, ht⟩ (c_MaskEdgesModel_doesPrint l X ad c34 v1 v2 (100 : Int32) hP e61) (cwV 3 ht (xgV xw_595 xw_596 xw_30 xw_43 xw_597) rfl rfl rfl (by decide +kernel) ⟨Nat.le_of_ble_eq_true rfl, Nat.le_of_ble_eq_true rfl⟩) (xPV hKK (va_recv hK hP (ci := 6) (q0 := 0) rfl yg0)) rfl rfl hl.1 rfl (lv_room (Nat.le_of_ble_eq_true rfl)) d_MaskEdgesModel_is_61 ⟨Nat.zero_le _, Nat.zero_le _⟩) ?_
          refine W.eq (g2 := F0 m 64 ls [.int c61]) rfl ?_
          obtain ⟨zr, hf⟩ := x_g hf
          replace hf := x_s hf
          subst hf
          subst hQ
          exact W.zret (v := c61) hx hb hr (xz_n zr) (fun t ht hW => ⟨⟨rfl, by rw [ht]; exact hP⟩, hS.F ht⟩) hS.2.2 d_MaskEdgesModel_is_64
        · replace hf := x_t hc hf
          refine lv_aload_n hx hb d_MaskEdgesModel_is_42 rfl (lv_at hl 0 rfl) ?_
          refine va_get (D := X.1) (ci := 6) (v := .ref (ad 20)) (C := "MaskEdgesModel") (T := F_MaskEdgesModel) (N := 28) hx hb ht in_MaskEdgesModel hown hK hP 0 yg0 rfl 24 (by decide) (ht _ xw_471) (fun _ h9 => h9) rfl d_MaskEdgesModel_is_43 ?_
          refine lv_bipush (v := (48 : Int32)) hx hb d_MaskEdgesModel_is_46 (by decide) ?_
          refine lv_iload_n hx hb d_MaskEdgesModel_is_48 rfl (lv_at hl 2 rfl) ?_
          refine lv_imul hx hb d_MaskEdgesModel_is_49 ?_
          refine lv_iload_n hx hb d_MaskEdgesModel_is_50 rfl (lv_at hl 1 rfl) ?_
          refine lv_iadd hx hb d_MaskEdgesModel_is_51 ?_
          obtain ⟨g52, hf⟩ := x_g hf
          refine va_zald hx hb hK hP 20 5 yg20 rfl (xin_in g52) d_MaskEdgesModel_is_52 ?_
          refine lv_goto (tgt := 64) hx hb d_MaskEdgesModel_is_53 (by decide) ?_
          obtain ⟨zr, hf⟩ := x_g hf
          replace hf := x_s hf
          subst hf
          subst hQ
          exact W.zret (v := (Y_mask c34 (((48 : Int32) * v2) + v1).toNatClampNeg)) hx hb hr (xz_n zr) (fun t ht hW => ⟨⟨rfl, by rw [ht]; exact hP⟩, hS.F ht⟩) hS.2.2 d_MaskEdgesModel_is_64
      · replace hf := x_t hc hf
        refine lv_aload_n hx hb d_MaskEdgesModel_is_26 rfl (lv_at hl 0 rfl) ?_
        refine lv_iload_n hx hb d_MaskEdgesModel_is_27 rfl (lv_at hl 1 rfl) ?_
        refine lv_iload_n hx hb d_MaskEdgesModel_is_28 rfl (lv_at hl 2 rfl) ?_
        obtain ⟨c29, e29, hf⟩ := x_b hf
        refine xcR (va_runV (As := [.int v1, .int v2]) (rest := []) ⟨hx, hb, hml, hown, ht⟩ (c_MaskEdgesModel_isTarget l X ad ST v1 v2 hP e29) (cwV 2 ht (xgV xw_562 xw_563 xw_23 xw_43 xw_564) rfl rfl rfl (by decide +kernel) ⟨Nat.le_of_ble_eq_true rfl, Nat.le_of_ble_eq_true rfl⟩) (xPV hKK (va_recv hK hP (ci := 6) (q0 := 0) rfl yg0)) rfl rfl hl.1 rfl (lv_room (Nat.le_of_ble_eq_true rfl)) d_MaskEdgesModel_is_29 ⟨Nat.zero_le _, Nat.zero_le _⟩) ?_
        refine W.eq (g2 := F0 m 32 ls [.int c29]) rfl ?_
        obtain ⟨zr, hf⟩ := x_g hf
        replace hf := x_s hf
        subst hf
        subst hQ
        exact W.zret (v := c29) hx hb hr (xz_n zr) (fun t ht hW => ⟨⟨rfl, by rw [ht]; exact hP⟩, hS.F ht⟩) hS.2.2 d_MaskEdgesModel_is_32
    · replace hf := x_t hc hf
      refine lv_iconst (v := (0 : Int32)) hx hb d_MaskEdgesModel_is_20 (by decide) ?_
      replace hf := x_s hf
      subst hf
      subst hQ
      exact W.zret (v := (0 : Int32)) hx hb hr (xz_n (by decide)) (fun t ht hW => ⟨⟨rfl, by rw [ht]; exact hP⟩, hS.F ht⟩) hS.2.2 d_MaskEdgesModel_is_21
