def f_MaskEdgesModel_moved (ST : ySt) (v1 : Int32) : Option (Int32) :=
  (f_MaskEdgesModel_isPiece ST v1).bind fun c2 =>
  if c2 = 0 then
  some (0 : Int32)
else
  if xin v1 120 = true then
    some (Y_moves ST v1.toNatClampNeg)
  else none
set_option maxHeartbeats 4000000 in
set_option maxRecDepth 100000 in
theorem c_MaskEdgesModel_moved (l : Launch) (X : xG) {H : Heap} (ad : Nat → Nat) (ST : ySt) (v1 : Int32) {res : Int32} (hP : va_P X.1 vwCl (wY X ad ST) H) (hf : f_MaskEdgesModel_moved ST v1 = some res) : xM l y_MaskEdgesModel_moved (Cond.code y_MaskEdgesModel_moved prog_8_method_34_code 2 (some .int) :: xT) ({ frames := 2, cells := 0, slots := 0, locals := 46 } : Room) (xK X) [.ref (ad 0), .int v1] H xNo (some (.int res)) (fun H1 => H1 = H) := by
  refine Met.ofW (cc := prog_8_method_34_code) (maxL := 2) (ret := (some .int)) (by decide) rfl ?_
  intro p e s m args below meth c s₁ B hml hv
  obtain ⟨ha, hH, hKK⟩ := hv
  subst hH
  have hx := B.exec
  have hb := B.bytes
  have hr := B.returns
  have ht : ∀ w ∈ xT, w.before args s = true := fun w h => atoms_spec (ws := (Cond.code y_MaskEdgesModel_moved prog_8_method_34_code 2 (some .int) :: xT)) B.pre w (List.mem_cons_of_mem _ h)
  have hown : s.vm.findClass "MaskEdgesModel" = some m.cls := findClass_of_methodNamed B.named
  have hlocks := B.notSynchronized
  have hK := hKK.1
  rw [show entryFrame m args 2 = entryFrame m ([.ref (ad 0), .int v1] : List Value).toArray 2 from by rw [ha]]
  clear ha
  have hl := lv_entry ([.ref (ad 0), .int v1]) (n := 2) (Nat.le_of_ble_eq_true rfl)
  rw [lg_entry_eq]
  generalize (lg_sl ([.ref (ad 0), .int v1]) ++ List.replicate (2 - (lg_sl ([.ref (ad 0), .int v1])).length) Slot.unset).toArray = ls at hl ⊢
  replace hl : lv_has ls 2 [(0, .ref (ad 0)), (1, .int v1)] := hl
  refine x_Q (fun Q hQ => ?_)
  unfold f_MaskEdgesModel_moved at hf
  refine lv_aload_n hx hb d_MaskEdgesModel_moved_0 rfl (lv_at hl 0 rfl) ?_
  refine lv_iload_n hx hb d_MaskEdgesModel_moved_1 rfl (lv_at hl 1 rfl) ?_
  obtain ⟨c2, e2, hf⟩ := x_b hf
  refine xcR (va_runV (As := [.int v1]) (rest := []) ⟨hx, hb, hml, hown, ht⟩ (c_MaskEdgesModel_isPiece l X ad ST v1 hP e2) (cwV 1 ht (xgV xw_588 xw_589 xw_28 xw_43 xw_590) rfl rfl rfl (by decide +kernel) ⟨Nat.le_of_ble_eq_true rfl, Nat.le_of_ble_eq_true rfl⟩) (xPV hKK (va_recv hK hP (ci := 6) (q0 := 0) rfl yg0)) rfl rfl hl.1 rfl (lv_room (Nat.le_of_ble_eq_true rfl)) d_MaskEdgesModel_moved_2 ⟨Nat.zero_le _, Nat.zero_le _⟩) ?_
  refine W.eq (g2 := F0 m 5 ls [.int c2]) rfl ?_
  refine lv_if_eq (tgt := 17) hx hb d_MaskEdgesModel_moved_5 (by decide) (fun hc => ?_) (fun hc => ?_)
  · replace hf := x_t hc hf
    refine lv_iconst (v := (0 : Int32)) hx hb d_MaskEdgesModel_moved_17 (by decide) ?_
    replace hf := x_s hf
    subst hf
    subst hQ
    exact W.iret (v := (0 : Int32)) hx hb hr (fun t ht hW => ⟨⟨rfl, ht⟩, x_F0 ht⟩) x_l0 d_MaskEdgesModel_moved_18
  · replace hf := x_f hc hf
    refine lv_aload_n hx hb d_MaskEdgesModel_moved_8 rfl (lv_at hl 0 rfl) ?_
    refine va_get (D := X.1) (ci := 6) (v := .ref (ad 14)) (C := "MaskEdgesModel") (T := F_MaskEdgesModel) (N := 28) hx hb ht in_MaskEdgesModel hown hK hP 0 yg0 rfl 17 (by decide) (ht _ xw_464) (fun _ h9 => h9) rfl d_MaskEdgesModel_moved_9 ?_
    refine lv_iload_n hx hb d_MaskEdgesModel_moved_12 rfl (lv_at hl 1 rfl) ?_
    obtain ⟨g13, hf⟩ := x_g hf
    refine va_iald hx hb hK hP 14 0 yg14 rfl (xin_in g13) d_MaskEdgesModel_moved_13 ?_
    refine lv_goto (tgt := 18) hx hb d_MaskEdgesModel_moved_14 (by decide) ?_
    replace hf := x_s hf
    subst hf
    subst hQ
    exact W.iret (v := (Y_moves ST v1.toNatClampNeg)) hx hb hr (fun t ht hW => ⟨⟨rfl, ht⟩, x_F0 ht⟩) x_l0 d_MaskEdgesModel_moved_18
def f_MaskEdgesModel_worst (ST : ySt) (v1 : Int32) : Option (Int32) :=
  (f_MaskEdgesModel_isBetween v1.toInt64 (0 : Int64) ((Y_kept ST).toInt64)).bind fun c8 =>
  if c8 = 0 then
  some (-1 : Int32)
else
  if xin v1 21 = true then
    some (Y_worsts ST v1.toNatClampNeg)
  else none
set_option maxHeartbeats 4000000 in
set_option maxRecDepth 100000 in
theorem c_MaskEdgesModel_worst (l : Launch) (X : xG) {H : Heap} (ad : Nat → Nat) (ST : ySt) (v1 : Int32) {res : Int32} (hP : va_P X.1 vwCl (wY X ad ST) H) (hf : f_MaskEdgesModel_worst ST v1 = some res) : xM l y_MaskEdgesModel_worst (Cond.code y_MaskEdgesModel_worst prog_8_method_35_code 2 (some .int) :: xT) ({ frames := 1, cells := 0, slots := 0, locals := 25 } : Room) (xK X) [.ref (ad 0), .int v1] H xNo (some (.int res)) (fun H1 => H1 = H) := by
  refine Met.ofW (cc := prog_8_method_35_code) (maxL := 2) (ret := (some .int)) (by decide) rfl ?_
  intro p e s m args below meth c s₁ B hml hv
  obtain ⟨ha, hH, hKK⟩ := hv
  subst hH
  have hx := B.exec
  have hb := B.bytes
  have hr := B.returns
  have ht : ∀ w ∈ xT, w.before args s = true := fun w h => atoms_spec (ws := (Cond.code y_MaskEdgesModel_worst prog_8_method_35_code 2 (some .int) :: xT)) B.pre w (List.mem_cons_of_mem _ h)
  have hown : s.vm.findClass "MaskEdgesModel" = some m.cls := findClass_of_methodNamed B.named
  have hlocks := B.notSynchronized
  have hK := hKK.1
  rw [show entryFrame m args 2 = entryFrame m ([.ref (ad 0), .int v1] : List Value).toArray 2 from by rw [ha]]
  clear ha
  have hl := lv_entry ([.ref (ad 0), .int v1]) (n := 2) (Nat.le_of_ble_eq_true rfl)
  rw [lg_entry_eq]
  generalize (lg_sl ([.ref (ad 0), .int v1]) ++ List.replicate (2 - (lg_sl ([.ref (ad 0), .int v1])).length) Slot.unset).toArray = ls at hl ⊢
  replace hl : lv_has ls 2 [(0, .ref (ad 0)), (1, .int v1)] := hl
  refine x_Q (fun Q hQ => ?_)
  unfold f_MaskEdgesModel_worst at hf
  refine lv_iload_n hx hb d_MaskEdgesModel_worst_0 rfl (lv_at hl 1 rfl) ?_
  refine lv_i2l hx hb d_MaskEdgesModel_worst_1 rfl ?_
  refine lv_lconst (v := (0 : Int64)) hx hb d_MaskEdgesModel_worst_2 (by decide) ?_
  refine lv_aload_n hx hb d_MaskEdgesModel_worst_3 rfl (lv_at hl 0 rfl) ?_
  refine va_get (D := X.1) (ci := 6) (v := .int (Y_kept ST)) (C := "MaskEdgesModel") (T := F_MaskEdgesModel) (N := 28) hx hb ht in_MaskEdgesModel hown hK hP 0 yg0 rfl 26 (by decide) (ht _ xw_473) (fun _ h9 => h9) rfl d_MaskEdgesModel_worst_4 ?_
  refine lv_i2l hx hb d_MaskEdgesModel_worst_7 rfl ?_
  obtain ⟨c8, e8, hf⟩ := x_b hf
  refine xcR (va_runS (As := [.long v1.toInt64, .long (0 : Int64), .long ((Y_kept ST).toInt64)]) (rest := []) ⟨hx, hb, hml, hown, ht⟩ (c_MaskEdgesModel_isBetween l X v1.toInt64 (0 : Int64) ((Y_kept ST).toInt64) e8) (cwS 3 ht (xgS xw_512 xw_513 xw_43 xw_514) rfl rfl rfl (by decide +kernel) ⟨Nat.le_of_ble_eq_true rfl, Nat.le_of_ble_eq_true rfl⟩) (xPS hKK) rfl rfl hl.1 rfl (lv_room (Nat.le_of_ble_eq_true rfl)) d_MaskEdgesModel_worst_8 ⟨Nat.zero_le _, Nat.zero_le _⟩) ?_
  refine W.eq (g2 := F0 m 11 ls [.int c8]) rfl ?_
  refine lv_if_eq (tgt := 23) hx hb d_MaskEdgesModel_worst_11 (by decide) (fun hc => ?_) (fun hc => ?_)
  · replace hf := x_t hc hf
    refine lv_iconst (v := (-1 : Int32)) hx hb d_MaskEdgesModel_worst_23 (by decide) ?_
    replace hf := x_s hf
    subst hf
    subst hQ
    exact W.iret (v := (-1 : Int32)) hx hb hr (fun t ht hW => ⟨⟨rfl, ht⟩, x_F0 ht⟩) x_l0 d_MaskEdgesModel_worst_24
  · replace hf := x_f hc hf
    refine lv_aload_n hx hb d_MaskEdgesModel_worst_14 rfl (lv_at hl 0 rfl) ?_
    refine va_get (D := X.1) (ci := 6) (v := .ref (ad 22)) (C := "MaskEdgesModel") (T := F_MaskEdgesModel) (N := 28) hx hb ht in_MaskEdgesModel hown hK hP 0 yg0 rfl 27 (by decide) (ht _ xw_474) (fun _ h9 => h9) rfl d_MaskEdgesModel_worst_15 ?_
    refine lv_iload_n hx hb d_MaskEdgesModel_worst_18 rfl (lv_at hl 1 rfl) ?_
    obtain ⟨g19, hf⟩ := x_g hf
    refine va_iald hx hb hK hP 22 0 yg22 rfl (xin_in g19) d_MaskEdgesModel_worst_19 ?_
    refine lv_goto (tgt := 24) hx hb d_MaskEdgesModel_worst_20 (by decide) ?_
    replace hf := x_s hf
    subst hf
    subst hQ
    exact W.iret (v := (Y_worsts ST v1.toNatClampNeg)) hx hb hr (fun t ht hW => ⟨⟨rfl, ht⟩, x_F0 ht⟩) x_l0 d_MaskEdgesModel_worst_24
def f_MaskEdgesModel_isFree_91 (ST : ySt) (r27 : Int32 → Int32 → Int32 → Int32 → Int32 → Int32 → Option (Int32)) (v1 : Int32) (v2 : Int32) (v3 : Int32) (v4 : Int32) (v6 : Int32) (s0 : Int32) : Option (Int32) :=
  r27 v1 v2 v3 v4 s0 (v6 + (1 : Int32))
def f_MaskEdgesModel_isFree_90 (ST : ySt) (r27 : Int32 → Int32 → Int32 → Int32 → Int32 → Int32 → Option (Int32)) (v1 : Int32) (v2 : Int32) (v3 : Int32) (v4 : Int32) (v6 : Int32) : Option (Int32) :=
  (f_MaskEdgesModel_isFree_91 ST r27) v1 v2 v3 v4 v6 (0 : Int32)
def f_MaskEdgesModel_isFree_86 (ST : ySt) (r27 : Int32 → Int32 → Int32 → Int32 → Int32 → Int32 → Option (Int32)) (v1 : Int32) (v2 : Int32) (v3 : Int32) (v4 : Int32) (v6 : Int32) : Option (Int32) :=
  (f_MaskEdgesModel_isFree_91 ST r27) v1 v2 v3 v4 v6 (1 : Int32)
def f_MaskEdgesModel_isFree_27 (ST : ySt) (r27 : Int32 → Int32 → Int32 → Int32 → Int32 → Int32 → Option (Int32)) (k99 : Int32 → Int32 → Int32 → Int32 → Int32 → Option (Int32)) (v1 : Int32) (v2 : Int32) (v3 : Int32) (v4 : Int32) (v5 : Int32) (v6 : Int32) : Option (Int32) :=
  if (Y_bars ST) ≤ v6 then
  k99 v1 v2 v3 v4 v5
else
  if v5 = 0 then
    (f_MaskEdgesModel_isFree_90 ST r27) v1 v2 v3 v4 v6
  else
    if xin v6 24 = true then
      if v3 < (Y_barX ST v6.toNatClampNeg) then
        (f_MaskEdgesModel_isFree_86 ST r27) v1 v2 v3 v4 v6
      else
        if xin v6 24 = true then
          if (Y_barFarX ST v6.toNatClampNeg) < v1 then
            (f_MaskEdgesModel_isFree_86 ST r27) v1 v2 v3 v4 v6
          else
            if xin v6 24 = true then
              if v4 < (Y_barY ST v6.toNatClampNeg) then
                (f_MaskEdgesModel_isFree_86 ST r27) v1 v2 v3 v4 v6
              else
                if xin v6 24 = true then
                  if v2 ≤ (Y_barFarY ST v6.toNatClampNeg) then
                    (f_MaskEdgesModel_isFree_90 ST r27) v1 v2 v3 v4 v6
                  else
                    (f_MaskEdgesModel_isFree_86 ST r27) v1 v2 v3 v4 v6
                else none
            else none
        else none
    else none
def f_MaskEdgesModel_isFree_144 (ST : ySt) (r117 : Int32 → Int32 → Int32 → Int32 → Int32 → Int32 → Option (Int32)) (v1 : Int32) (v3 : Int32) (v4 : Int32) (v6 : Int32) (v7 : Int32) (s0 : Int32) : Option (Int32) :=
  r117 v1 v3 v4 s0 v6 (v7 + (1 : Int32))
def f_MaskEdgesModel_isFree_143 (ST : ySt) (r117 : Int32 → Int32 → Int32 → Int32 → Int32 → Int32 → Option (Int32)) (v1 : Int32) (v3 : Int32) (v4 : Int32) (v6 : Int32) (v7 : Int32) : Option (Int32) :=
  (f_MaskEdgesModel_isFree_144 ST r117) v1 v3 v4 v6 v7 (0 : Int32)
def f_MaskEdgesModel_isFree_117 (ST : ySt) (r117 : Int32 → Int32 → Int32 → Int32 → Int32 → Int32 → Option (Int32)) (k152 : Int32 → Int32 → Int32 → Int32 → Int32 → Option (Int32)) (v1 : Int32) (v3 : Int32) (v4 : Int32) (v5 : Int32) (v6 : Int32) (v7 : Int32) : Option (Int32) :=
  if v3 < v7 then
  k152 v1 v3 v4 v5 v6
else
  if v5 = 0 then
    (f_MaskEdgesModel_isFree_143 ST r117) v1 v3 v4 v6 v7
  else
    (f_MaskEdgesModel_isTarget ST v7 v6).bind fun c133 =>
      if c133 = 0 then
      (f_MaskEdgesModel_isFree_144 ST r117) v1 v3 v4 v6 v7 (1 : Int32)
    else
      (f_MaskEdgesModel_isFree_143 ST r117) v1 v3 v4 v6 v7
def f_MaskEdgesModel_isFree_152 (ST : ySt) (r102 : Int32 → Int32 → Int32 → Int32 → Int32 → Option (Int32)) (v1 : Int32) (v3 : Int32) (v4 : Int32) (v5 : Int32) (v6 : Int32) : Option (Int32) :=
  r102 v1 v3 v4 v5 (v6 + (1 : Int32))
def f_MaskEdgesModel_isFree_102 (ST : ySt) (r102 : Int32 → Int32 → Int32 → Int32 → Int32 → Option (Int32)) (v1 : Int32) (v3 : Int32) (v4 : Int32) (v5 : Int32) (v6 : Int32) : Option (Int32) :=
  if v4 < v6 then
  if xz v5 = true then
    some v5
  else none
else
  if v5 = 0 then
    if xz v5 = true then
      some v5
    else none
  else
    (xloop (fun r => f_MaskEdgesModel_isFree_117 ST r (f_MaskEdgesModel_isFree_152 ST r102)) (fun _ _ _ _ _ _ => none) 100000) v1 v3 v4 v5 v6 v1
def f_MaskEdgesModel_isFree_99 (ST : ySt) (v1 : Int32) (v2 : Int32) (v3 : Int32) (v4 : Int32) (v5 : Int32) : Option (Int32) :=
  (xloop (fun r => f_MaskEdgesModel_isFree_102 ST r) (fun _ _ _ _ _ => none) 100000) v1 v3 v4 v5 v2
def f_MaskEdgesModel_isFree_22 (ST : ySt) (v1 : Int32) (v2 : Int32) (v3 : Int32) (v4 : Int32) (s0 : Int32) : Option (Int32) :=
  (xloop (fun r => f_MaskEdgesModel_isFree_27 ST r (f_MaskEdgesModel_isFree_99 ST)) (fun _ _ _ _ _ _ => none) 100000) v1 v2 v3 v4 s0 (0 : Int32)
def f_MaskEdgesModel_isFree_21 (ST : ySt) (v1 : Int32) (v2 : Int32) (v3 : Int32) (v4 : Int32) : Option (Int32) :=
  (f_MaskEdgesModel_isFree_22 ST) v1 v2 v3 v4 (0 : Int32)
def f_MaskEdgesModel_isFree (ST : ySt) (v1 : Int32) (v2 : Int32) (v3 : Int32) (v4 : Int32) : Option (Int32) :=
  (f_MaskEdgesModel_isCell v1 v2).bind fun c2 =>
  if c2 = 0 then
  (f_MaskEdgesModel_isFree_21 ST) v1 v2 v3 v4
else
  (f_MaskEdgesModel_isCell v3 v4).bind fun c11 =>
    if c11 = 0 then
    (f_MaskEdgesModel_isFree_21 ST) v1 v2 v3 v4
  else
    (f_MaskEdgesModel_isFree_22 ST) v1 v2 v3 v4 (1 : Int32)
set_option maxHeartbeats 4000000 in
set_option maxRecDepth 100000 in
theorem c_MaskEdgesModel_isFree (l : Launch) (X : xG) {H : Heap} (ad : Nat → Nat) (ST : ySt) (v1 : Int32) (v2 : Int32) (v3 : Int32) (v4 : Int32) {res : Int32} (hP : va_P X.1 vwCl (wY X ad ST) H) (hf : f_MaskEdgesModel_isFree ST v1 v2 v3 v4 = some res) : xM l y_MaskEdgesModel_isFree (Cond.code y_MaskEdgesModel_isFree prog_8_method_36_code 8 (some .boolean) :: xT) ({ frames := 4, cells := 0, slots := 0, locals := 99 } : Room) (xK X) [.ref (ad 0), .int v1, .int v2, .int v3, .int v4] H xNo (some (.int res)) (fun H1 => H1 = H) := by
  refine Met.ofW (cc := prog_8_method_36_code) (maxL := 8) (ret := (some .boolean)) (by decide) rfl ?_
  intro p e s m args below meth c s₁ B hml hv
  obtain ⟨ha, hH, hKK⟩ := hv
  subst hH
  have hx := B.exec
  have hb := B.bytes
  have hr := B.returns
  have ht : ∀ w ∈ xT, w.before args s = true := fun w h => atoms_spec (ws := (Cond.code y_MaskEdgesModel_isFree prog_8_method_36_code 8 (some .boolean) :: xT)) B.pre w (List.mem_cons_of_mem _ h)
  have hown : s.vm.findClass "MaskEdgesModel" = some m.cls := findClass_of_methodNamed B.named
  have hlocks := B.notSynchronized
  have hK := hKK.1
  rw [show entryFrame m args 8 = entryFrame m ([.ref (ad 0), .int v1, .int v2, .int v3, .int v4] : List Value).toArray 8 from by rw [ha]]
  clear ha
  have hl := lv_entry ([.ref (ad 0), .int v1, .int v2, .int v3, .int v4]) (n := 8) (Nat.le_of_ble_eq_true rfl)
  rw [lg_entry_eq]
  generalize (lg_sl ([.ref (ad 0), .int v1, .int v2, .int v3, .int v4]) ++ List.replicate (8 - (lg_sl ([.ref (ad 0), .int v1, .int v2, .int v3, .int v4])).length) Slot.unset).toArray = ls at hl ⊢
  replace hl : lv_has ls 8 [(0, .ref (ad 0)), (1, .int v1), (2, .int v2), (3, .int v3), (4, .int v4)] := hl
  refine x_Q (fun Q hQ => ?_)
  have hL91 : ∀ (r27 : Int32 → Int32 → Int32 → Int32 → Int32 → Int32 → Option (Int32)) (hr27 : ∀ (v1 : Int32) (v2 : Int32) (v3 : Int32) (v4 : Int32) (v5 : Int32) (v6 : Int32), ∀ (ls : Array Slot), lv_has ls 8 [(0, .ref (ad 0)), (1, .int v1), (2, .int v2), (3, .int v3), (4, .int v4), (5, .int v5), (6, .int v6)] → r27 v1 v2 v3 v4 v5 v6 = some res → W p l e (headSpec (Cond.code y_MaskEdgesModel_isFree prog_8_method_36_code 8 (some .boolean) :: xT) ({ frames := 4, cells := 0, slots := 0, locals := 99 } : Room)).room s m args below meth c s.heap [] 0 0 Q (F0 m 27 ls [])), ∀ (v1 : Int32) (v2 : Int32) (v3 : Int32) (v4 : Int32) (v6 : Int32) (s0 : Int32), ∀ (ls : Array Slot), lv_has ls 8 [(0, .ref (ad 0)), (1, .int v1), (2, .int v2), (3, .int v3), (4, .int v4), (6, .int v6)] → f_MaskEdgesModel_isFree_91 ST r27 v1 v2 v3 v4 v6 s0 = some res → W p l e (headSpec (Cond.code y_MaskEdgesModel_isFree prog_8_method_36_code 8 (some .boolean) :: xT) ({ frames := 4, cells := 0, slots := 0, locals := 99 } : Room)).room s m args below meth c s.heap [] 0 0 Q (F0 m 91 ls [.int s0]) := by
    intro r27 hr27 v1 v2 v3 v4 v6 s0 ls hl hf
    unfold f_MaskEdgesModel_isFree_91 at hf
    refine lv_istore (lv' := [(5, .int s0), (0, .ref (ad 0)), (1, .int v1), (2, .int v2), (3, .int v3), (4, .int v4), (6, .int v6)]) hx hb d_MaskEdgesModel_isFree_91 hl (by decide) rfl (fun ls hl => ?_)
    refine lv_iinc (v := (v6 + (1 : Int32))) (lv' := [(6, .int (v6 + (1 : Int32))), (5, .int s0), (0, .ref (ad 0)), (1, .int v1), (2, .int v2), (3, .int v3), (4, .int v4)]) hx hb d_MaskEdgesModel_isFree_93 hl (k := 6) rfl rfl (by decide) rfl (fun ls hl => ?_)
    refine lv_goto (tgt := 27) hx hb d_MaskEdgesModel_isFree_96 (by decide) ?_
    exact hr27 v1 v2 v3 v4 s0 (v6 + (1 : Int32))  ls (lv_sub hl [2, 3, 4, 5, 6, 1, 0] rfl) hf
  have hL90 : ∀ (r27 : Int32 → Int32 → Int32 → Int32 → Int32 → Int32 → Option (Int32)) (hr27 : ∀ (v1 : Int32) (v2 : Int32) (v3 : Int32) (v4 : Int32) (v5 : Int32) (v6 : Int32), ∀ (ls : Array Slot), lv_has ls 8 [(0, .ref (ad 0)), (1, .int v1), (2, .int v2), (3, .int v3), (4, .int v4), (5, .int v5), (6, .int v6)] → r27 v1 v2 v3 v4 v5 v6 = some res → W p l e (headSpec (Cond.code y_MaskEdgesModel_isFree prog_8_method_36_code 8 (some .boolean) :: xT) ({ frames := 4, cells := 0, slots := 0, locals := 99 } : Room)).room s m args below meth c s.heap [] 0 0 Q (F0 m 27 ls [])), ∀ (v1 : Int32) (v2 : Int32) (v3 : Int32) (v4 : Int32) (v6 : Int32), ∀ (ls : Array Slot), lv_has ls 8 [(0, .ref (ad 0)), (1, .int v1), (2, .int v2), (3, .int v3), (4, .int v4), (6, .int v6)] → f_MaskEdgesModel_isFree_90 ST r27 v1 v2 v3 v4 v6 = some res → W p l e (headSpec (Cond.code y_MaskEdgesModel_isFree prog_8_method_36_code 8 (some .boolean) :: xT) ({ frames := 4, cells := 0, slots := 0, locals := 99 } : Room)).room s m args below meth c s.heap [] 0 0 Q (F0 m 90 ls []) := by
    intro r27 hr27 v1 v2 v3 v4 v6 ls hl hf
    unfold f_MaskEdgesModel_isFree_90 at hf
    refine lv_iconst (v := (0 : Int32)) hx hb d_MaskEdgesModel_isFree_90 (by decide) ?_
    exact (hL91 _ hr27) v1 v2 v3 v4 v6 (0 : Int32)  ls (lv_sub hl [0, 1, 2, 3, 4, 5] rfl) hf
  have hL86 : ∀ (r27 : Int32 → Int32 → Int32 → Int32 → Int32 → Int32 → Option (Int32)) (hr27 : ∀ (v1 : Int32) (v2 : Int32) (v3 : Int32) (v4 : Int32) (v5 : Int32) (v6 : Int32), ∀ (ls : Array Slot), lv_has ls 8 [(0, .ref (ad 0)), (1, .int v1), (2, .int v2), (3, .int v3), (4, .int v4), (5, .int v5), (6, .int v6)] → r27 v1 v2 v3 v4 v5 v6 = some res → W p l e (headSpec (Cond.code y_MaskEdgesModel_isFree prog_8_method_36_code 8 (some .boolean) :: xT) ({ frames := 4, cells := 0, slots := 0, locals := 99 } : Room)).room s m args below meth c s.heap [] 0 0 Q (F0 m 27 ls [])), ∀ (v1 : Int32) (v2 : Int32) (v3 : Int32) (v4 : Int32) (v6 : Int32), ∀ (ls : Array Slot), lv_has ls 8 [(0, .ref (ad 0)), (1, .int v1), (2, .int v2), (3, .int v3), (4, .int v4), (6, .int v6)] → f_MaskEdgesModel_isFree_86 ST r27 v1 v2 v3 v4 v6 = some res → W p l e (headSpec (Cond.code y_MaskEdgesModel_isFree prog_8_method_36_code 8 (some .boolean) :: xT) ({ frames := 4, cells := 0, slots := 0, locals := 99 } : Room)).room s m args below meth c s.heap [] 0 0 Q (F0 m 86 ls []) := by
    intro r27 hr27 v1 v2 v3 v4 v6 ls hl hf
    unfold f_MaskEdgesModel_isFree_86 at hf
    refine lv_iconst (v := (1 : Int32)) hx hb d_MaskEdgesModel_isFree_86 (by decide) ?_
    refine lv_goto (tgt := 91) hx hb d_MaskEdgesModel_isFree_87 (by decide) ?_
    exact (hL91 _ hr27) v1 v2 v3 v4 v6 (1 : Int32)  ls (lv_sub hl [0, 1, 2, 3, 4, 5] rfl) hf
  have hL27 : ∀ (k99 : Int32 → Int32 → Int32 → Int32 → Int32 → Option (Int32)) (hk99 : ∀ (v1 : Int32) (v2 : Int32) (v3 : Int32) (v4 : Int32) (v5 : Int32), ∀ (ls : Array Slot), lv_has ls 8 [(0, .ref (ad 0)), (1, .int v1), (2, .int v2), (3, .int v3), (4, .int v4), (5, .int v5)] → k99 v1 v2 v3 v4 v5 = some res → W p l e (headSpec (Cond.code y_MaskEdgesModel_isFree prog_8_method_36_code 8 (some .boolean) :: xT) ({ frames := 4, cells := 0, slots := 0, locals := 99 } : Room)).room s m args below meth c s.heap [] 0 0 Q (F0 m 99 ls [])), ∀ (n : Nat), ∀ (v1 : Int32) (v2 : Int32) (v3 : Int32) (v4 : Int32) (v5 : Int32) (v6 : Int32), ∀ (ls : Array Slot), lv_has ls 8 [(0, .ref (ad 0)), (1, .int v1), (2, .int v2), (3, .int v3), (4, .int v4), (5, .int v5), (6, .int v6)] → (xloop (fun r => f_MaskEdgesModel_isFree_27 ST r k99) (fun _ _ _ _ _ _ => none) n) v1 v2 v3 v4 v5 v6 = some res → W p l e (headSpec (Cond.code y_MaskEdgesModel_isFree prog_8_method_36_code 8 (some .boolean) :: xT) ({ frames := 4, cells := 0, slots := 0, locals := 99 } : Room)).room s m args below meth c s.heap [] 0 0 Q (F0 m 27 ls []) := by
    intro k99 hk99
    intro n
    induction n with
    | zero => intro v1 v2 v3 v4 v5 v6 ls hl hf; cases hf
    | succ n ih =>
      intro v1 v2 v3 v4 v5 v6 ls hl hf
      replace hf : f_MaskEdgesModel_isFree_27 ST (xloop (fun r => f_MaskEdgesModel_isFree_27 ST r k99) (fun _ _ _ _ _ _ => none) n) k99 v1 v2 v3 v4 v5 v6 = some res := hf
      have hr27 := ih
      clear ih
      unfold f_MaskEdgesModel_isFree_27 at hf
      refine lv_iload hx hb d_MaskEdgesModel_isFree_27 (lv_at hl 6 rfl) ?_
      refine lv_aload_n hx hb d_MaskEdgesModel_isFree_29 rfl (lv_at hl 0 rfl) ?_
      refine va_get (D := X.1) (ci := 6) (v := .int (Y_bars ST)) (C := "MaskEdgesModel") (T := F_MaskEdgesModel) (N := 28) hx hb ht in_MaskEdgesModel hown hK hP 0 yg0 rfl 19 (by decide) (ht _ xw_466) (fun _ h9 => h9) rfl d_MaskEdgesModel_isFree_30 ?_
      refine lv_icmp_ge (tgt := 99) hx hb d_MaskEdgesModel_isFree_33 (by decide) (fun hc => ?_) (fun hc => ?_)
      · replace hf := x_t hc hf
        exact hk99 v1 v2 v3 v4 v5  ls (lv_sub hl [0, 1, 2, 3, 4, 5] rfl) hf
      · replace hf := x_f hc hf
        refine lv_iload hx hb d_MaskEdgesModel_isFree_36 (lv_at hl 5 rfl) ?_
        refine lv_if_eq (tgt := 90) hx hb d_MaskEdgesModel_isFree_38 (by decide) (fun hc => ?_) (fun hc => ?_)
        · replace hf := x_t hc hf
          exact (hL90 _ hr27) v1 v2 v3 v4 v6  ls (lv_sub hl [0, 1, 2, 3, 4, 6] rfl) hf
        · replace hf := x_f hc hf
          refine lv_aload_n hx hb d_MaskEdgesModel_isFree_41 rfl (lv_at hl 0 rfl) ?_
          refine va_get (D := X.1) (ci := 6) (v := .ref (ad 16)) (C := "MaskEdgesModel") (T := F_MaskEdgesModel) (N := 28) hx hb ht in_MaskEdgesModel hown hK hP 0 yg0 rfl 20 (by decide) (ht _ xw_467) (fun _ h9 => h9) rfl d_MaskEdgesModel_isFree_42 ?_
          refine lv_iload hx hb d_MaskEdgesModel_isFree_45 (lv_at hl 6 rfl) ?_
          obtain ⟨g47, hf⟩ := x_g hf
          refine va_iald hx hb hK hP 16 0 yg16 rfl (xin_in g47) d_MaskEdgesModel_isFree_47 ?_
          refine lv_iload_n hx hb d_MaskEdgesModel_isFree_48 rfl (lv_at hl 3 rfl) ?_
          refine lv_icmp_gt (tgt := 86) hx hb d_MaskEdgesModel_isFree_49 (by decide) (fun hc => ?_) (fun hc => ?_)
          · replace hf := x_t hc hf
            exact (hL86 _ hr27) v1 v2 v3 v4 v6  ls (lv_sub hl [0, 1, 2, 3, 4, 6] rfl) hf
          · replace hf := x_f hc hf
            refine lv_aload_n hx hb d_MaskEdgesModel_isFree_52 rfl (lv_at hl 0 rfl) ?_
            refine va_get (D := X.1) (ci := 6) (v := .ref (ad 18)) (C := "MaskEdgesModel") (T := F_MaskEdgesModel) (N := 28) hx hb ht in_MaskEdgesModel hown hK hP 0 yg0 rfl 22 (by decide) (ht _ xw_469) (fun _ h9 => h9) rfl d_MaskEdgesModel_isFree_53 ?_
            refine lv_iload hx hb d_MaskEdgesModel_isFree_56 (lv_at hl 6 rfl) ?_
            obtain ⟨g58, hf⟩ := x_g hf
            refine va_iald hx hb hK hP 18 0 yg18 rfl (xin_in g58) d_MaskEdgesModel_isFree_58 ?_
            refine lv_iload_n hx hb d_MaskEdgesModel_isFree_59 rfl (lv_at hl 1 rfl) ?_
            refine lv_icmp_lt (tgt := 86) hx hb d_MaskEdgesModel_isFree_60 (by decide) (fun hc => ?_) (fun hc => ?_)
            · replace hf := x_t hc hf
              exact (hL86 _ hr27) v1 v2 v3 v4 v6  ls (lv_sub hl [0, 1, 2, 3, 4, 6] rfl) hf
            · replace hf := x_f hc hf
              refine lv_aload_n hx hb d_MaskEdgesModel_isFree_63 rfl (lv_at hl 0 rfl) ?_
              refine va_get (D := X.1) (ci := 6) (v := .ref (ad 17)) (C := "MaskEdgesModel") (T := F_MaskEdgesModel) (N := 28) hx hb ht in_MaskEdgesModel hown hK hP 0 yg0 rfl 21 (by decide) (ht _ xw_468) (fun _ h9 => h9) rfl d_MaskEdgesModel_isFree_64 ?_
              refine lv_iload hx hb d_MaskEdgesModel_isFree_67 (lv_at hl 6 rfl) ?_
              obtain ⟨g69, hf⟩ := x_g hf
              refine va_iald hx hb hK hP 17 0 yg17 rfl (xin_in g69) d_MaskEdgesModel_isFree_69 ?_
              refine lv_iload hx hb d_MaskEdgesModel_isFree_70 (lv_at hl 4 rfl) ?_
              refine lv_icmp_gt (tgt := 86) hx hb d_MaskEdgesModel_isFree_72 (by decide) (fun hc => ?_) (fun hc => ?_)
              · replace hf := x_t hc hf
                exact (hL86 _ hr27) v1 v2 v3 v4 v6  ls (lv_sub hl [0, 1, 2, 3, 4, 6] rfl) hf
              · replace hf := x_f hc hf
                refine lv_aload_n hx hb d_MaskEdgesModel_isFree_75 rfl (lv_at hl 0 rfl) ?_
                refine va_get (D := X.1) (ci := 6) (v := .ref (ad 19)) (C := "MaskEdgesModel") (T := F_MaskEdgesModel) (N := 28) hx hb ht in_MaskEdgesModel hown hK hP 0 yg0 rfl 23 (by decide) (ht _ xw_470) (fun _ h9 => h9) rfl d_MaskEdgesModel_isFree_76 ?_
                refine lv_iload hx hb d_MaskEdgesModel_isFree_79 (lv_at hl 6 rfl) ?_
                obtain ⟨g81, hf⟩ := x_g hf
                refine va_iald hx hb hK hP 19 0 yg19 rfl (xin_in g81) d_MaskEdgesModel_isFree_81 ?_
                refine lv_iload_n hx hb d_MaskEdgesModel_isFree_82 rfl (lv_at hl 2 rfl) ?_
                refine lv_icmp_ge (tgt := 90) hx hb d_MaskEdgesModel_isFree_83 (by decide) (fun hc => ?_) (fun hc => ?_)
                · replace hf := x_t hc hf
                  exact (hL90 _ hr27) v1 v2 v3 v4 v6  ls (lv_sub hl [0, 1, 2, 3, 4, 6] rfl) hf
                · replace hf := x_f hc hf
                  exact (hL86 _ hr27) v1 v2 v3 v4 v6  ls (lv_sub hl [0, 1, 2, 3, 4, 6] rfl) hf
  have hL144 : ∀ (r117 : Int32 → Int32 → Int32 → Int32 → Int32 → Int32 → Option (Int32)) (hr117 : ∀ (v1 : Int32) (v3 : Int32) (v4 : Int32) (v5 : Int32) (v6 : Int32) (v7 : Int32), ∀ (ls : Array Slot), lv_has ls 8 [(0, .ref (ad 0)), (1, .int v1), (3, .int v3), (4, .int v4), (5, .int v5), (6, .int v6), (7, .int v7)] → r117 v1 v3 v4 v5 v6 v7 = some res → W p l e (headSpec (Cond.code y_MaskEdgesModel_isFree prog_8_method_36_code 8 (some .boolean) :: xT) ({ frames := 4, cells := 0, slots := 0, locals := 99 } : Room)).room s m args below meth c s.heap [] 0 0 Q (F0 m 117 ls [])), ∀ (v1 : Int32) (v3 : Int32) (v4 : Int32) (v6 : Int32) (v7 : Int32) (s0 : Int32), ∀ (ls : Array Slot), lv_has ls 8 [(0, .ref (ad 0)), (1, .int v1), (3, .int v3), (4, .int v4), (6, .int v6), (7, .int v7)] → f_MaskEdgesModel_isFree_144 ST r117 v1 v3 v4 v6 v7 s0 = some res → W p l e (headSpec (Cond.code y_MaskEdgesModel_isFree prog_8_method_36_code 8 (some .boolean) :: xT) ({ frames := 4, cells := 0, slots := 0, locals := 99 } : Room)).room s m args below meth c s.heap [] 0 0 Q (F0 m 144 ls [.int s0]) := by
    intro r117 hr117 v1 v3 v4 v6 v7 s0 ls hl hf
    unfold f_MaskEdgesModel_isFree_144 at hf
    refine lv_istore (lv' := [(5, .int s0), (0, .ref (ad 0)), (1, .int v1), (3, .int v3), (4, .int v4), (6, .int v6), (7, .int v7)]) hx hb d_MaskEdgesModel_isFree_144 hl (by decide) rfl (fun ls hl => ?_)
    refine lv_iinc (v := (v7 + (1 : Int32))) (lv' := [(7, .int (v7 + (1 : Int32))), (5, .int s0), (0, .ref (ad 0)), (1, .int v1), (3, .int v3), (4, .int v4), (6, .int v6)]) hx hb d_MaskEdgesModel_isFree_146 hl (k := 6) rfl rfl (by decide) rfl (fun ls hl => ?_)
    refine lv_goto (tgt := 117) hx hb d_MaskEdgesModel_isFree_149 (by decide) ?_
    exact hr117 v1 v3 v4 s0 v6 (v7 + (1 : Int32))  ls (lv_sub hl [2, 3, 4, 5, 1, 6, 0] rfl) hf
  have hL143 : ∀ (r117 : Int32 → Int32 → Int32 → Int32 → Int32 → Int32 → Option (Int32)) (hr117 : ∀ (v1 : Int32) (v3 : Int32) (v4 : Int32) (v5 : Int32) (v6 : Int32) (v7 : Int32), ∀ (ls : Array Slot), lv_has ls 8 [(0, .ref (ad 0)), (1, .int v1), (3, .int v3), (4, .int v4), (5, .int v5), (6, .int v6), (7, .int v7)] → r117 v1 v3 v4 v5 v6 v7 = some res → W p l e (headSpec (Cond.code y_MaskEdgesModel_isFree prog_8_method_36_code 8 (some .boolean) :: xT) ({ frames := 4, cells := 0, slots := 0, locals := 99 } : Room)).room s m args below meth c s.heap [] 0 0 Q (F0 m 117 ls [])), ∀ (v1 : Int32) (v3 : Int32) (v4 : Int32) (v6 : Int32) (v7 : Int32), ∀ (ls : Array Slot), lv_has ls 8 [(0, .ref (ad 0)), (1, .int v1), (3, .int v3), (4, .int v4), (6, .int v6), (7, .int v7)] → f_MaskEdgesModel_isFree_143 ST r117 v1 v3 v4 v6 v7 = some res → W p l e (headSpec (Cond.code y_MaskEdgesModel_isFree prog_8_method_36_code 8 (some .boolean) :: xT) ({ frames := 4, cells := 0, slots := 0, locals := 99 } : Room)).room s m args below meth c s.heap [] 0 0 Q (F0 m 143 ls []) := by
    intro r117 hr117 v1 v3 v4 v6 v7 ls hl hf
    unfold f_MaskEdgesModel_isFree_143 at hf
    refine lv_iconst (v := (0 : Int32)) hx hb d_MaskEdgesModel_isFree_143 (by decide) ?_
    exact (hL144 _ hr117) v1 v3 v4 v6 v7 (0 : Int32)  ls (lv_sub hl [0, 1, 2, 3, 4, 5] rfl) hf
  have hL117 : ∀ (k152 : Int32 → Int32 → Int32 → Int32 → Int32 → Option (Int32)) (hk152 : ∀ (v1 : Int32) (v3 : Int32) (v4 : Int32) (v5 : Int32) (v6 : Int32), ∀ (ls : Array Slot), lv_has ls 8 [(0, .ref (ad 0)), (1, .int v1), (3, .int v3), (4, .int v4), (5, .int v5), (6, .int v6)] → k152 v1 v3 v4 v5 v6 = some res → W p l e (headSpec (Cond.code y_MaskEdgesModel_isFree prog_8_method_36_code 8 (some .boolean) :: xT) ({ frames := 4, cells := 0, slots := 0, locals := 99 } : Room)).room s m args below meth c s.heap [] 0 0 Q (F0 m 152 ls [])), ∀ (n : Nat), ∀ (v1 : Int32) (v3 : Int32) (v4 : Int32) (v5 : Int32) (v6 : Int32) (v7 : Int32), ∀ (ls : Array Slot), lv_has ls 8 [(0, .ref (ad 0)), (1, .int v1), (3, .int v3), (4, .int v4), (5, .int v5), (6, .int v6), (7, .int v7)] → (xloop (fun r => f_MaskEdgesModel_isFree_117 ST r k152) (fun _ _ _ _ _ _ => none) n) v1 v3 v4 v5 v6 v7 = some res → W p l e (headSpec (Cond.code y_MaskEdgesModel_isFree prog_8_method_36_code 8 (some .boolean) :: xT) ({ frames := 4, cells := 0, slots := 0, locals := 99 } : Room)).room s m args below meth c s.heap [] 0 0 Q (F0 m 117 ls []) := by
    intro k152 hk152
    intro n
    induction n with
    | zero => intro v1 v3 v4 v5 v6 v7 ls hl hf; cases hf
    | succ n ih =>
      intro v1 v3 v4 v5 v6 v7 ls hl hf
      replace hf : f_MaskEdgesModel_isFree_117 ST (xloop (fun r => f_MaskEdgesModel_isFree_117 ST r k152) (fun _ _ _ _ _ _ => none) n) k152 v1 v3 v4 v5 v6 v7 = some res := hf
      have hr117 := ih
      clear ih
      unfold f_MaskEdgesModel_isFree_117 at hf
      refine lv_iload hx hb d_MaskEdgesModel_isFree_117 (lv_at hl 6 rfl) ?_
      refine lv_iload_n hx hb d_MaskEdgesModel_isFree_119 rfl (lv_at hl 2 rfl) ?_
      refine lv_icmp_gt (tgt := 152) hx hb d_MaskEdgesModel_isFree_120 (by decide) (fun hc => ?_) (fun hc => ?_)
      · replace hf := x_t hc hf
        exact hk152 v1 v3 v4 v5 v6  ls (lv_sub hl [0, 1, 2, 3, 4, 5] rfl) hf
      · replace hf := x_f hc hf
        refine lv_iload hx hb d_MaskEdgesModel_isFree_123 (lv_at hl 4 rfl) ?_
        refine lv_if_eq (tgt := 143) hx hb d_MaskEdgesModel_isFree_125 (by decide) (fun hc => ?_) (fun hc => ?_)
        · replace hf := x_t hc hf
          exact (hL143 _ hr117) v1 v3 v4 v6 v7  ls (lv_sub hl [0, 1, 2, 3, 5, 6] rfl) hf
        · replace hf := x_f hc hf
          refine lv_aload_n hx hb d_MaskEdgesModel_isFree_128 rfl (lv_at hl 0 rfl) ?_
          refine lv_iload hx hb d_MaskEdgesModel_isFree_129 (lv_at hl 6 rfl) ?_
          refine lv_iload hx hb d_MaskEdgesModel_isFree_131 (lv_at hl 5 rfl) ?_
          obtain ⟨c133, e133, hf⟩ := x_b hf
          refine xcR (va_runV (As := [.int v7, .int v6]) (rest := []) ⟨hx, hb, hml, hown, ht⟩ (c_MaskEdgesModel_isTarget l X ad ST v7 v6 hP e133) (cwV 2 ht (xgV xw_562 xw_563 xw_23 xw_43 xw_564) rfl rfl rfl (by decide +kernel) ⟨Nat.le_of_ble_eq_true rfl, Nat.le_of_ble_eq_true rfl⟩) (xPV hKK (va_recv hK hP (ci := 6) (q0 := 0) rfl yg0)) rfl rfl hl.1 rfl (lv_room (Nat.le_of_ble_eq_true rfl)) d_MaskEdgesModel_isFree_133 ⟨Nat.zero_le _, Nat.zero_le _⟩) ?_
          refine W.eq (g2 := F0 m 136 ls [.int c133]) rfl ?_
          refine lv_if_ne (tgt := 143) hx hb d_MaskEdgesModel_isFree_136 (by decide) (fun hc => ?_) (fun hc => ?_)
          · replace hf := x_f hc hf
            exact (hL143 _ hr117) v1 v3 v4 v6 v7  ls (lv_sub hl [0, 1, 2, 3, 5, 6] rfl) hf
          · replace hf := x_t hc hf
            refine lv_iconst (v := (1 : Int32)) hx hb d_MaskEdgesModel_isFree_139 (by decide) ?_
            refine lv_goto (tgt := 144) hx hb d_MaskEdgesModel_isFree_140 (by decide) ?_
            exact (hL144 _ hr117) v1 v3 v4 v6 v7 (1 : Int32)  ls (lv_sub hl [0, 1, 2, 3, 5, 6] rfl) hf
  have hL152 : ∀ (r102 : Int32 → Int32 → Int32 → Int32 → Int32 → Option (Int32)) (hr102 : ∀ (v1 : Int32) (v3 : Int32) (v4 : Int32) (v5 : Int32) (v6 : Int32), ∀ (ls : Array Slot), lv_has ls 8 [(0, .ref (ad 0)), (1, .int v1), (3, .int v3), (4, .int v4), (5, .int v5), (6, .int v6)] → r102 v1 v3 v4 v5 v6 = some res → W p l e (headSpec (Cond.code y_MaskEdgesModel_isFree prog_8_method_36_code 8 (some .boolean) :: xT) ({ frames := 4, cells := 0, slots := 0, locals := 99 } : Room)).room s m args below meth c s.heap [] 0 0 Q (F0 m 102 ls [])), ∀ (v1 : Int32) (v3 : Int32) (v4 : Int32) (v5 : Int32) (v6 : Int32), ∀ (ls : Array Slot), lv_has ls 8 [(0, .ref (ad 0)), (1, .int v1), (3, .int v3), (4, .int v4), (5, .int v5), (6, .int v6)] → f_MaskEdgesModel_isFree_152 ST r102 v1 v3 v4 v5 v6 = some res → W p l e (headSpec (Cond.code y_MaskEdgesModel_isFree prog_8_method_36_code 8 (some .boolean) :: xT) ({ frames := 4, cells := 0, slots := 0, locals := 99 } : Room)).room s m args below meth c s.heap [] 0 0 Q (F0 m 152 ls []) := by
    intro r102 hr102 v1 v3 v4 v5 v6 ls hl hf
    unfold f_MaskEdgesModel_isFree_152 at hf
    refine lv_iinc (v := (v6 + (1 : Int32))) (lv' := [(6, .int (v6 + (1 : Int32))), (0, .ref (ad 0)), (1, .int v1), (3, .int v3), (4, .int v4), (5, .int v5)]) hx hb d_MaskEdgesModel_isFree_152 hl (k := 5) rfl rfl (by decide) rfl (fun ls hl => ?_)
    refine lv_goto (tgt := 102) hx hb d_MaskEdgesModel_isFree_155 (by decide) ?_
    exact hr102 v1 v3 v4 v5 (v6 + (1 : Int32))  ls (lv_sub hl [1, 2, 3, 4, 5, 0] rfl) hf
  have hL102 : ∀ (n : Nat), ∀ (v1 : Int32) (v3 : Int32) (v4 : Int32) (v5 : Int32) (v6 : Int32), ∀ (ls : Array Slot), lv_has ls 8 [(0, .ref (ad 0)), (1, .int v1), (3, .int v3), (4, .int v4), (5, .int v5), (6, .int v6)] → (xloop (fun r => f_MaskEdgesModel_isFree_102 ST r) (fun _ _ _ _ _ => none) n) v1 v3 v4 v5 v6 = some res → W p l e (headSpec (Cond.code y_MaskEdgesModel_isFree prog_8_method_36_code 8 (some .boolean) :: xT) ({ frames := 4, cells := 0, slots := 0, locals := 99 } : Room)).room s m args below meth c s.heap [] 0 0 Q (F0 m 102 ls []) := by
    intro n
    induction n with
    | zero => intro v1 v3 v4 v5 v6 ls hl hf; cases hf
    | succ n ih =>
      intro v1 v3 v4 v5 v6 ls hl hf
      replace hf : f_MaskEdgesModel_isFree_102 ST (xloop (fun r => f_MaskEdgesModel_isFree_102 ST r) (fun _ _ _ _ _ => none) n) v1 v3 v4 v5 v6 = some res := hf
      have hr102 := ih
      clear ih
      unfold f_MaskEdgesModel_isFree_102 at hf
      refine lv_iload hx hb d_MaskEdgesModel_isFree_102 (lv_at hl 5 rfl) ?_
      refine lv_iload hx hb d_MaskEdgesModel_isFree_104 (lv_at hl 3 rfl) ?_
      refine lv_icmp_gt (tgt := 158) hx hb d_MaskEdgesModel_isFree_106 (by decide) (fun hc => ?_) (fun hc => ?_)
      · replace hf := x_t hc hf
        refine lv_iload hx hb d_MaskEdgesModel_isFree_158 (lv_at hl 4 rfl) ?_
        obtain ⟨zr, hf⟩ := x_g hf
        replace hf := x_s hf
        subst hf
        subst hQ
        exact W.zret (v := v5) hx hb hr (xz_n zr) (fun t ht hW => ⟨⟨rfl, ht⟩, x_F0 ht⟩) x_l0 d_MaskEdgesModel_isFree_160
      · replace hf := x_f hc hf
        refine lv_iload hx hb d_MaskEdgesModel_isFree_109 (lv_at hl 4 rfl) ?_
        refine lv_if_eq (tgt := 158) hx hb d_MaskEdgesModel_isFree_111 (by decide) (fun hc => ?_) (fun hc => ?_)
        · replace hf := x_t hc hf
          refine lv_iload hx hb d_MaskEdgesModel_isFree_158 (lv_at hl 4 rfl) ?_
          obtain ⟨zr, hf⟩ := x_g hf
          replace hf := x_s hf
          subst hf
          subst hQ
          exact W.zret (v := v5) hx hb hr (xz_n zr) (fun t ht hW => ⟨⟨rfl, ht⟩, x_F0 ht⟩) x_l0 d_MaskEdgesModel_isFree_160
        · replace hf := x_f hc hf
          refine lv_iload_n hx hb d_MaskEdgesModel_isFree_114 rfl (lv_at hl 1 rfl) ?_
          refine lv_istore (lv' := [(7, .int v1), (0, .ref (ad 0)), (1, .int v1), (3, .int v3), (4, .int v4), (5, .int v5), (6, .int v6)]) hx hb d_MaskEdgesModel_isFree_115 hl (by decide) rfl (fun ls hl => ?_)
          exact (hL117 _ (hL152 _ hr102) 100000) v1 v3 v4 v5 v6 v1  ls (lv_sub hl [1, 2, 3, 4, 5, 6, 0] rfl) hf
  have hL99 : ∀ (v1 : Int32) (v2 : Int32) (v3 : Int32) (v4 : Int32) (v5 : Int32), ∀ (ls : Array Slot), lv_has ls 8 [(0, .ref (ad 0)), (1, .int v1), (2, .int v2), (3, .int v3), (4, .int v4), (5, .int v5)] → f_MaskEdgesModel_isFree_99 ST v1 v2 v3 v4 v5 = some res → W p l e (headSpec (Cond.code y_MaskEdgesModel_isFree prog_8_method_36_code 8 (some .boolean) :: xT) ({ frames := 4, cells := 0, slots := 0, locals := 99 } : Room)).room s m args below meth c s.heap [] 0 0 Q (F0 m 99 ls []) := by
    intro v1 v2 v3 v4 v5 ls hl hf
    unfold f_MaskEdgesModel_isFree_99 at hf
    refine lv_iload_n hx hb d_MaskEdgesModel_isFree_99 rfl (lv_at hl 2 rfl) ?_
    refine lv_istore (lv' := [(6, .int v2), (0, .ref (ad 0)), (1, .int v1), (2, .int v2), (3, .int v3), (4, .int v4), (5, .int v5)]) hx hb d_MaskEdgesModel_isFree_100 hl (by decide) rfl (fun ls hl => ?_)
    exact (hL102 100000) v1 v3 v4 v5 v2  ls (lv_sub hl [1, 2, 4, 5, 6, 0] rfl) hf
  have hL22 : ∀ (v1 : Int32) (v2 : Int32) (v3 : Int32) (v4 : Int32) (s0 : Int32), ∀ (ls : Array Slot), lv_has ls 8 [(0, .ref (ad 0)), (1, .int v1), (2, .int v2), (3, .int v3), (4, .int v4)] → f_MaskEdgesModel_isFree_22 ST v1 v2 v3 v4 s0 = some res → W p l e (headSpec (Cond.code y_MaskEdgesModel_isFree prog_8_method_36_code 8 (some .boolean) :: xT) ({ frames := 4, cells := 0, slots := 0, locals := 99 } : Room)).room s m args below meth c s.heap [] 0 0 Q (F0 m 22 ls [.int s0]) := by
    intro v1 v2 v3 v4 s0 ls hl hf
    unfold f_MaskEdgesModel_isFree_22 at hf
    refine lv_istore (lv' := [(5, .int s0), (0, .ref (ad 0)), (1, .int v1), (2, .int v2), (3, .int v3), (4, .int v4)]) hx hb d_MaskEdgesModel_isFree_22 hl (by decide) rfl (fun ls hl => ?_)
    refine lv_iconst (v := (0 : Int32)) hx hb d_MaskEdgesModel_isFree_24 (by decide) ?_
    refine lv_istore (lv' := [(6, .int (0 : Int32)), (5, .int s0), (0, .ref (ad 0)), (1, .int v1), (2, .int v2), (3, .int v3), (4, .int v4)]) hx hb d_MaskEdgesModel_isFree_25 hl (by decide) rfl (fun ls hl => ?_)
    exact (hL27 _ hL99 100000) v1 v2 v3 v4 s0 (0 : Int32)  ls (lv_sub hl [2, 3, 4, 5, 6, 1, 0] rfl) hf
  have hL21 : ∀ (v1 : Int32) (v2 : Int32) (v3 : Int32) (v4 : Int32), ∀ (ls : Array Slot), lv_has ls 8 [(0, .ref (ad 0)), (1, .int v1), (2, .int v2), (3, .int v3), (4, .int v4)] → f_MaskEdgesModel_isFree_21 ST v1 v2 v3 v4 = some res → W p l e (headSpec (Cond.code y_MaskEdgesModel_isFree prog_8_method_36_code 8 (some .boolean) :: xT) ({ frames := 4, cells := 0, slots := 0, locals := 99 } : Room)).room s m args below meth c s.heap [] 0 0 Q (F0 m 21 ls []) := by
    intro v1 v2 v3 v4 ls hl hf
    unfold f_MaskEdgesModel_isFree_21 at hf
    refine lv_iconst (v := (0 : Int32)) hx hb d_MaskEdgesModel_isFree_21 (by decide) ?_
    exact hL22 v1 v2 v3 v4 (0 : Int32)  ls (lv_sub hl [0, 1, 2, 3, 4] rfl) hf
  unfold f_MaskEdgesModel_isFree at hf
  refine lv_iload_n hx hb d_MaskEdgesModel_isFree_0 rfl (lv_at hl 1 rfl) ?_
  refine lv_iload_n hx hb d_MaskEdgesModel_isFree_1 rfl (lv_at hl 2 rfl) ?_
  obtain ⟨c2, e2, hf⟩ := x_b hf
  refine xcR (va_runS (As := [.int v1, .int v2]) (rest := []) ⟨hx, hb, hml, hown, ht⟩ (c_MaskEdgesModel_isCell l X v1 v2 e2) (cwS 2 ht (xgS xw_551 xw_552 xw_43 xw_553) rfl rfl rfl (by decide +kernel) ⟨Nat.le_of_ble_eq_true rfl, Nat.le_of_ble_eq_true rfl⟩) (xPS hKK) rfl rfl hl.1 rfl (lv_room (Nat.le_of_ble_eq_true rfl)) d_MaskEdgesModel_isFree_2 ⟨Nat.zero_le _, Nat.zero_le _⟩) ?_
  refine W.eq (g2 := F0 m 5 ls [.int c2]) rfl ?_
  refine lv_if_eq (tgt := 21) hx hb d_MaskEdgesModel_isFree_5 (by decide) (fun hc => ?_) (fun hc => ?_)
  · replace hf := x_t hc hf
    exact hL21 v1 v2 v3 v4  ls (lv_sub hl [0, 1, 2, 3, 4] rfl) hf
  · replace hf := x_f hc hf
    refine lv_iload_n hx hb d_MaskEdgesModel_isFree_8 rfl (lv_at hl 3 rfl) ?_
    refine lv_iload hx hb d_MaskEdgesModel_isFree_9 (lv_at hl 4 rfl) ?_
    obtain ⟨c11, e11, hf⟩ := x_b hf
    refine xcR (va_runS (As := [.int v3, .int v4]) (rest := []) ⟨hx, hb, hml, hown, ht⟩ (c_MaskEdgesModel_isCell l X v3 v4 e11) (cwS 2 ht (xgS xw_551 xw_552 xw_43 xw_553) rfl rfl rfl (by decide +kernel) ⟨Nat.le_of_ble_eq_true rfl, Nat.le_of_ble_eq_true rfl⟩) (xPS hKK) rfl rfl hl.1 rfl (lv_room (Nat.le_of_ble_eq_true rfl)) d_MaskEdgesModel_isFree_11 ⟨Nat.zero_le _, Nat.zero_le _⟩) ?_
    refine W.eq (g2 := F0 m 14 ls [.int c11]) rfl ?_
    refine lv_if_eq (tgt := 21) hx hb d_MaskEdgesModel_isFree_14 (by decide) (fun hc => ?_) (fun hc => ?_)
    · replace hf := x_t hc hf
      exact hL21 v1 v2 v3 v4  ls (lv_sub hl [0, 1, 2, 3, 4] rfl) hf
    · replace hf := x_f hc hf
      refine lv_iconst (v := (1 : Int32)) hx hb d_MaskEdgesModel_isFree_17 (by decide) ?_
      refine lv_goto (tgt := 22) hx hb d_MaskEdgesModel_isFree_18 (by decide) ?_
      exact hL22 v1 v2 v3 v4 (1 : Int32)  ls (lv_sub hl [0, 1, 2, 3, 4] rfl) hf
def f_MaskEdgesModel_hasCome_3 (r3 : Int32 → Int32 → Int32 → Int32 → ySt → Option (Int32 × ySt)) (k19 : Int32 → Int32 → Int32 → Int32 → ySt → Option (Int32 × ySt)) (v1 : Int32) (v2 : Int32) (v3 : Int32) (v4 : Int32) (ST : ySt) : Option (Int32 × ySt) :=
  if xin v4 120 = true then
  if (Y_isLast ST v4.toNatClampNeg) = 0 then
    r3 v1 v2 v3 (v4 + (1 : Int32)) ST
  else
    k19 v1 v2 v3 v4 ST
else none
def f_MaskEdgesModel_hasCome_235 (v8 : Int32) (v9 : Int32) (v10 : Int32) (s0 : Int32) (ST : ySt) : Option (Int32 × ySt) :=
  (f_MaskEdgesModel_isFree ST v8 v9 v10 s0).bind fun c246 =>
  if c246 = 0 then
  some ((0 : Int32), ST)
else
  if xin (Y_bars ST) 24 = true then
    if xin (Y_bars (Y_u_barX ST (upd (Y_barX ST) (Y_bars ST).toNatClampNeg v8))) 24 = true then
      if xin (Y_bars (Y_u_barY (Y_u_barX ST (upd (Y_barX ST) (Y_bars ST).toNatClampNeg v8)) (upd (Y_barY (Y_u_barX ST (upd (Y_barX ST) (Y_bars ST).toNatClampNeg v8))) (Y_bars (Y_u_barX ST (upd (Y_barX ST) (Y_bars ST).toNatClampNeg v8))).toNatClampNeg v9))) 24 = true then
        if xin (Y_bars (Y_u_barFarX (Y_u_barY (Y_u_barX ST (upd (Y_barX ST) (Y_bars ST).toNatClampNeg v8)) (upd (Y_barY (Y_u_barX ST (upd (Y_barX ST) (Y_bars ST).toNatClampNeg v8))) (Y_bars (Y_u_barX ST (upd (Y_barX ST) (Y_bars ST).toNatClampNeg v8))).toNatClampNeg v9)) (upd (Y_barFarX (Y_u_barY (Y_u_barX ST (upd (Y_barX ST) (Y_bars ST).toNatClampNeg v8)) (upd (Y_barY (Y_u_barX ST (upd (Y_barX ST) (Y_bars ST).toNatClampNeg v8))) (Y_bars (Y_u_barX ST (upd (Y_barX ST) (Y_bars ST).toNatClampNeg v8))).toNatClampNeg v9))) (Y_bars (Y_u_barY (Y_u_barX ST (upd (Y_barX ST) (Y_bars ST).toNatClampNeg v8)) (upd (Y_barY (Y_u_barX ST (upd (Y_barX ST) (Y_bars ST).toNatClampNeg v8))) (Y_bars (Y_u_barX ST (upd (Y_barX ST) (Y_bars ST).toNatClampNeg v8))).toNatClampNeg v9))).toNatClampNeg v10))) 24 = true then
          some ((1 : Int32), (Y_u_bars (Y_u_barFarY (Y_u_barFarX (Y_u_barY (Y_u_barX ST (upd (Y_barX ST) (Y_bars ST).toNatClampNeg v8)) (upd (Y_barY (Y_u_barX ST (upd (Y_barX ST) (Y_bars ST).toNatClampNeg v8))) (Y_bars (Y_u_barX ST (upd (Y_barX ST) (Y_bars ST).toNatClampNeg v8))).toNatClampNeg v9)) (upd (Y_barFarX (Y_u_barY (Y_u_barX ST (upd (Y_barX ST) (Y_bars ST).toNatClampNeg v8)) (upd (Y_barY (Y_u_barX ST (upd (Y_barX ST) (Y_bars ST).toNatClampNeg v8))) (Y_bars (Y_u_barX ST (upd (Y_barX ST) (Y_bars ST).toNatClampNeg v8))).toNatClampNeg v9))) (Y_bars (Y_u_barY (Y_u_barX ST (upd (Y_barX ST) (Y_bars ST).toNatClampNeg v8)) (upd (Y_barY (Y_u_barX ST (upd (Y_barX ST) (Y_bars ST).toNatClampNeg v8))) (Y_bars (Y_u_barX ST (upd (Y_barX ST) (Y_bars ST).toNatClampNeg v8))).toNatClampNeg v9))).toNatClampNeg v10)) (upd (Y_barFarY (Y_u_barFarX (Y_u_barY (Y_u_barX ST (upd (Y_barX ST) (Y_bars ST).toNatClampNeg v8)) (upd (Y_barY (Y_u_barX ST (upd (Y_barX ST) (Y_bars ST).toNatClampNeg v8))) (Y_bars (Y_u_barX ST (upd (Y_barX ST) (Y_bars ST).toNatClampNeg v8))).toNatClampNeg v9)) (upd (Y_barFarX (Y_u_barY (Y_u_barX ST (upd (Y_barX ST) (Y_bars ST).toNatClampNeg v8)) (upd (Y_barY (Y_u_barX ST (upd (Y_barX ST) (Y_bars ST).toNatClampNeg v8))) (Y_bars (Y_u_barX ST (upd (Y_barX ST) (Y_bars ST).toNatClampNeg v8))).toNatClampNeg v9))) (Y_bars (Y_u_barY (Y_u_barX ST (upd (Y_barX ST) (Y_bars ST).toNatClampNeg v8)) (upd (Y_barY (Y_u_barX ST (upd (Y_barX ST) (Y_bars ST).toNatClampNeg v8))) (Y_bars (Y_u_barX ST (upd (Y_barX ST) (Y_bars ST).toNatClampNeg v8))).toNatClampNeg v9))).toNatClampNeg v10))) (Y_bars (Y_u_barFarX (Y_u_barY (Y_u_barX ST (upd (Y_barX ST) (Y_bars ST).toNatClampNeg v8)) (upd (Y_barY (Y_u_barX ST (upd (Y_barX ST) (Y_bars ST).toNatClampNeg v8))) (Y_bars (Y_u_barX ST (upd (Y_barX ST) (Y_bars ST).toNatClampNeg v8))).toNatClampNeg v9)) (upd (Y_barFarX (Y_u_barY (Y_u_barX ST (upd (Y_barX ST) (Y_bars ST).toNatClampNeg v8)) (upd (Y_barY (Y_u_barX ST (upd (Y_barX ST) (Y_bars ST).toNatClampNeg v8))) (Y_bars (Y_u_barX ST (upd (Y_barX ST) (Y_bars ST).toNatClampNeg v8))).toNatClampNeg v9))) (Y_bars (Y_u_barY (Y_u_barX ST (upd (Y_barX ST) (Y_bars ST).toNatClampNeg v8)) (upd (Y_barY (Y_u_barX ST (upd (Y_barX ST) (Y_bars ST).toNatClampNeg v8))) (Y_bars (Y_u_barX ST (upd (Y_barX ST) (Y_bars ST).toNatClampNeg v8))).toNatClampNeg v9))).toNatClampNeg v10))).toNatClampNeg s0)) ((Y_bars (Y_u_barFarY (Y_u_barFarX (Y_u_barY (Y_u_barX ST (upd (Y_barX ST) (Y_bars ST).toNatClampNeg v8)) (upd (Y_barY (Y_u_barX ST (upd (Y_barX ST) (Y_bars ST).toNatClampNeg v8))) (Y_bars (Y_u_barX ST (upd (Y_barX ST) (Y_bars ST).toNatClampNeg v8))).toNatClampNeg v9)) (upd (Y_barFarX (Y_u_barY (Y_u_barX ST (upd (Y_barX ST) (Y_bars ST).toNatClampNeg v8)) (upd (Y_barY (Y_u_barX ST (upd (Y_barX ST) (Y_bars ST).toNatClampNeg v8))) (Y_bars (Y_u_barX ST (upd (Y_barX ST) (Y_bars ST).toNatClampNeg v8))).toNatClampNeg v9))) (Y_bars (Y_u_barY (Y_u_barX ST (upd (Y_barX ST) (Y_bars ST).toNatClampNeg v8)) (upd (Y_barY (Y_u_barX ST (upd (Y_barX ST) (Y_bars ST).toNatClampNeg v8))) (Y_bars (Y_u_barX ST (upd (Y_barX ST) (Y_bars ST).toNatClampNeg v8))).toNatClampNeg v9))).toNatClampNeg v10)) (upd (Y_barFarY (Y_u_barFarX (Y_u_barY (Y_u_barX ST (upd (Y_barX ST) (Y_bars ST).toNatClampNeg v8)) (upd (Y_barY (Y_u_barX ST (upd (Y_barX ST) (Y_bars ST).toNatClampNeg v8))) (Y_bars (Y_u_barX ST (upd (Y_barX ST) (Y_bars ST).toNatClampNeg v8))).toNatClampNeg v9)) (upd (Y_barFarX (Y_u_barY (Y_u_barX ST (upd (Y_barX ST) (Y_bars ST).toNatClampNeg v8)) (upd (Y_barY (Y_u_barX ST (upd (Y_barX ST) (Y_bars ST).toNatClampNeg v8))) (Y_bars (Y_u_barX ST (upd (Y_barX ST) (Y_bars ST).toNatClampNeg v8))).toNatClampNeg v9))) (Y_bars (Y_u_barY (Y_u_barX ST (upd (Y_barX ST) (Y_bars ST).toNatClampNeg v8)) (upd (Y_barY (Y_u_barX ST (upd (Y_barX ST) (Y_bars ST).toNatClampNeg v8))) (Y_bars (Y_u_barX ST (upd (Y_barX ST) (Y_bars ST).toNatClampNeg v8))).toNatClampNeg v9))).toNatClampNeg v10))) (Y_bars (Y_u_barFarX (Y_u_barY (Y_u_barX ST (upd (Y_barX ST) (Y_bars ST).toNatClampNeg v8)) (upd (Y_barY (Y_u_barX ST (upd (Y_barX ST) (Y_bars ST).toNatClampNeg v8))) (Y_bars (Y_u_barX ST (upd (Y_barX ST) (Y_bars ST).toNatClampNeg v8))).toNatClampNeg v9)) (upd (Y_barFarX (Y_u_barY (Y_u_barX ST (upd (Y_barX ST) (Y_bars ST).toNatClampNeg v8)) (upd (Y_barY (Y_u_barX ST (upd (Y_barX ST) (Y_bars ST).toNatClampNeg v8))) (Y_bars (Y_u_barX ST (upd (Y_barX ST) (Y_bars ST).toNatClampNeg v8))).toNatClampNeg v9))) (Y_bars (Y_u_barY (Y_u_barX ST (upd (Y_barX ST) (Y_bars ST).toNatClampNeg v8)) (upd (Y_barY (Y_u_barX ST (upd (Y_barX ST) (Y_bars ST).toNatClampNeg v8))) (Y_bars (Y_u_barX ST (upd (Y_barX ST) (Y_bars ST).toNatClampNeg v8))).toNatClampNeg v9))).toNatClampNeg v10))).toNatClampNeg s0))) + (1 : Int32))))
        else none
      else none
    else none
  else none
def f_MaskEdgesModel_hasCome_211 (v1 : Int32) (v3 : Int32) (v6 : Int32) (v7 : Int32) (v8 : Int32) (v9 : Int32) (s0 : Int32) (ST : ySt) : Option (Int32 × ySt) :=
  if xin v1 120 = true then
  if (Y_isAlongX ST v1.toNatClampNeg) = 0 then
    f_MaskEdgesModel_hasCome_235 v8 v9 s0 (v6 - (2 : Int32)) ST
  else
    f_MaskEdgesModel_hasCome_235 v8 v9 s0 ((v7 + v3) - (1 : Int32)) ST
else none
def f_MaskEdgesModel_hasCome_187 (v1 : Int32) (v3 : Int32) (v6 : Int32) (v7 : Int32) (v8 : Int32) (s0 : Int32) (ST : ySt) : Option (Int32 × ySt) :=
  if xin v1 120 = true then
  if (Y_isAlongX ST v1.toNatClampNeg) = 0 then
    f_MaskEdgesModel_hasCome_211 v1 v3 v6 v7 v8 s0 ((v7 + v3) - (1 : Int32)) ST
  else
    f_MaskEdgesModel_hasCome_211 v1 v3 v6 v7 v8 s0 (v6 - (2 : Int32)) ST
else none
def f_MaskEdgesModel_hasCome_167 (v1 : Int32) (v3 : Int32) (v5 : Int32) (v6 : Int32) (v7 : Int32) (s0 : Int32) (ST : ySt) : Option (Int32 × ySt) :=
  if xin v1 120 = true then
  if (Y_isAlongX ST v1.toNatClampNeg) = 0 then
    f_MaskEdgesModel_hasCome_187 v1 v3 v6 v7 s0 (v5 + (1 : Int32)) ST
  else
    f_MaskEdgesModel_hasCome_187 v1 v3 v6 v7 s0 v7 ST
else none
def f_MaskEdgesModel_hasCome_147 (v1 : Int32) (v3 : Int32) (v5 : Int32) (v6 : Int32) (s0 : Int32) (ST : ySt) : Option (Int32 × ySt) :=
  if xin v1 120 = true then
  if (Y_isAlongX ST v1.toNatClampNeg) = 0 then
    f_MaskEdgesModel_hasCome_167 v1 v3 v5 v6 s0 s0 ST
  else
    f_MaskEdgesModel_hasCome_167 v1 v3 v5 v6 s0 (v5 + (1 : Int32)) ST
else none
def f_MaskEdgesModel_hasCome_85 (v1 : Int32) (v2 : Int32) (v3 : Int32) (v5 : Int32) (s0 : Int32) (ST : ySt) : Option (Int32 × ySt) :=
  if (s0 - v5) < (6 : Int32) then
  some ((0 : Int32), ST)
else
  if xin v1 120 = true then
    if (Y_out ST v1.toNatClampNeg) = 0 then
      some ((0 : Int32), ST)
    else
      if (Y_bars ST) = (24 : Int32) then
        some ((0 : Int32), ST)
      else
        if xin v1 120 = true then
          if (Y_out ST v1.toNatClampNeg) ≤ 0 then
            if xin v1 120 = true then
              f_MaskEdgesModel_hasCome_147 v1 v3 v5 s0 (((Y_across ST v1.toNatClampNeg) - v2) - v3) ST
            else none
          else
            if xin v1 120 = true then
              f_MaskEdgesModel_hasCome_147 v1 v3 v5 s0 ((Y_across ST v1.toNatClampNeg) + v2) ST
            else none
        else none
  else none
def f_MaskEdgesModel_hasCome_51 (v1 : Int32) (v2 : Int32) (v3 : Int32) (v4 : Int32) (s0 : Int32) (ST : ySt) : Option (Int32 × ySt) :=
  if xin v1 120 = true then
  if xin v4 120 = true then
    if (Y_to ST v1.toNatClampNeg) ≤ (Y_to ST v4.toNatClampNeg) then
      if xin v4 120 = true then
        f_MaskEdgesModel_hasCome_85 v1 v2 v3 s0 (Y_to ST v4.toNatClampNeg) ST
      else none
    else
      if xin v1 120 = true then
        f_MaskEdgesModel_hasCome_85 v1 v2 v3 s0 (Y_to ST v1.toNatClampNeg) ST
      else none
  else none
else none
def f_MaskEdgesModel_hasCome_19 (v1 : Int32) (v2 : Int32) (v3 : Int32) (v4 : Int32) (ST : ySt) : Option (Int32 × ySt) :=
  if xin v1 120 = true then
  if xin v4 120 = true then
    if (Y_from ST v4.toNatClampNeg) ≤ (Y_from ST v1.toNatClampNeg) then
      if xin v4 120 = true then
        f_MaskEdgesModel_hasCome_51 v1 v2 v3 v4 (Y_from ST v4.toNatClampNeg) ST
      else none
    else
      if xin v1 120 = true then
        f_MaskEdgesModel_hasCome_51 v1 v2 v3 v4 (Y_from ST v1.toNatClampNeg) ST
      else none
  else none
else none
def f_MaskEdgesModel_hasCome (v1 : Int32) (v2 : Int32) (v3 : Int32) (ST : ySt) : Option (Int32 × ySt) :=
  (xloop (fun r => f_MaskEdgesModel_hasCome_3 r f_MaskEdgesModel_hasCome_19) (fun _ _ _ _ _ => none) 100000) v1 v2 v3 v1 ST
set_option maxHeartbeats 4000000 in
set_option maxRecDepth 100000 in
theorem c_MaskEdgesModel_hasCome (l : Launch) (X : xG) {H : Heap} (ad : Nat → Nat) (ST : ySt) (v1 : Int32) (v2 : Int32) (v3 : Int32) {res : Int32 × ySt} (hP : va_P X.1 vwCl (wY X ad ST) H) (hA : okB ad) (hf : f_MaskEdgesModel_hasCome v1 v2 v3 ST = some res) : xM l y_MaskEdgesModel_hasCome (Cond.code y_MaskEdgesModel_hasCome prog_8_method_37_code 12 (some .boolean) :: xT) ({ frames := 5, cells := 0, slots := 0, locals := 126 } : Room) (xK X) [.ref (ad 0), .int v1, .int v2, .int v3] H (yA ad) (some (.int res.1)) (fun H1 => va_P X.1 vwCl (wY X ad res.2) H1) := by
  refine Met.ofW (cc := prog_8_method_37_code) (maxL := 12) (ret := (some .boolean)) (by decide) rfl ?_
  intro p e s m args below meth c s₁ B hml hv
  obtain ⟨ha, hH, hKK⟩ := hv
  subst hH
  have hx := B.exec
  have hb := B.bytes
  have hr := B.returns
  have ht : ∀ w ∈ xT, w.before args s = true := fun w h => atoms_spec (ws := (Cond.code y_MaskEdgesModel_hasCome prog_8_method_37_code 12 (some .boolean) :: xT)) B.pre w (List.mem_cons_of_mem _ h)
  have hown : s.vm.findClass "MaskEdgesModel" = some m.cls := findClass_of_methodNamed B.named
  have hlocks := B.notSynchronized
  have hK := hKK.1
  rw [show entryFrame m args 12 = entryFrame m ([.ref (ad 0), .int v1, .int v2, .int v3] : List Value).toArray 12 from by rw [ha]]
  clear ha
  have hS : va_S (yA ad) s.heap s.heap [] := va_S.rf
  have hl := lv_entry ([.ref (ad 0), .int v1, .int v2, .int v3]) (n := 12) (Nat.le_of_ble_eq_true rfl)
  rw [lg_entry_eq]
  generalize (lg_sl ([.ref (ad 0), .int v1, .int v2, .int v3]) ++ List.replicate (12 - (lg_sl ([.ref (ad 0), .int v1, .int v2, .int v3])).length) Slot.unset).toArray = ls at hl ⊢
  replace hl : lv_has ls 12 [(0, .ref (ad 0)), (1, .int v1), (2, .int v2), (3, .int v3)] := hl
  refine x_Q (fun Q hQ => ?_)
  have hL3 : ∀ (k19 : Int32 → Int32 → Int32 → Int32 → ySt → Option (Int32 × ySt)) (hk19 : ∀ (v1 : Int32) (v2 : Int32) (v3 : Int32) (v4 : Int32) (ST : ySt), ∀ (H : Heap) (locs : List Loc), va_P X.1 vwCl (wY X ad ST) H → va_S (yA ad) s.heap H locs → ∀ (ls : Array Slot), lv_has ls 12 [(0, .ref (ad 0)), (1, .int v1), (2, .int v2), (3, .int v3), (4, .int v4)] → k19 v1 v2 v3 v4 ST = some res → W p l e (headSpec (Cond.code y_MaskEdgesModel_hasCome prog_8_method_37_code 12 (some .boolean) :: xT) ({ frames := 5, cells := 0, slots := 0, locals := 126 } : Room)).room s m args below meth c H locs 0 0 Q (F0 m 19 ls [])), ∀ (n : Nat), ∀ (v1 : Int32) (v2 : Int32) (v3 : Int32) (v4 : Int32) (ST : ySt), ∀ (H : Heap) (locs : List Loc), va_P X.1 vwCl (wY X ad ST) H → va_S (yA ad) s.heap H locs → ∀ (ls : Array Slot), lv_has ls 12 [(0, .ref (ad 0)), (1, .int v1), (2, .int v2), (3, .int v3), (4, .int v4)] → (xloop (fun r => f_MaskEdgesModel_hasCome_3 r k19) (fun _ _ _ _ _ => none) n) v1 v2 v3 v4 ST = some res → W p l e (headSpec (Cond.code y_MaskEdgesModel_hasCome prog_8_method_37_code 12 (some .boolean) :: xT) ({ frames := 5, cells := 0, slots := 0, locals := 126 } : Room)).room s m args below meth c H locs 0 0 Q (F0 m 3 ls []) := by
    intro k19 hk19
    intro n
    induction n with
    | zero => intro v1 v2 v3 v4 ST H locs hP hS ls hl hf; cases hf
    | succ n ih =>
      intro v1 v2 v3 v4 ST H locs hP hS ls hl hf
      replace hf : f_MaskEdgesModel_hasCome_3 (xloop (fun r => f_MaskEdgesModel_hasCome_3 r k19) (fun _ _ _ _ _ => none) n) k19 v1 v2 v3 v4 ST = some res := hf
      have hr3 := ih
      clear ih
      unfold f_MaskEdgesModel_hasCome_3 at hf
      refine lv_aload_n hx hb d_MaskEdgesModel_hasCome_3 rfl (lv_at hl 0 rfl) ?_
      refine va_get (D := X.1) (ci := 6) (v := .ref (ad 12)) (C := "MaskEdgesModel") (T := F_MaskEdgesModel) (N := 28) hx hb ht in_MaskEdgesModel hown hK hP 0 yg0 rfl 15 (by decide) (ht _ xw_462) (fun _ h9 => h9) rfl d_MaskEdgesModel_hasCome_4 ?_
      refine lv_iload hx hb d_MaskEdgesModel_hasCome_7 (lv_at hl 4 rfl) ?_
      obtain ⟨g9, hf⟩ := x_g hf
      refine va_zald hx hb hK hP 12 5 yg12 rfl (xin_in g9) d_MaskEdgesModel_hasCome_9 ?_
      refine lv_if_ne (tgt := 19) hx hb d_MaskEdgesModel_hasCome_10 (by decide) (fun hc => ?_) (fun hc => ?_)
      · replace hf := x_f hc hf
        exact hk19 v1 v2 v3 v4 ST _ _ hP hS ls (lv_sub hl [0, 1, 2, 3, 4] rfl) hf
      · replace hf := x_t hc hf
        refine lv_iinc (v := (v4 + (1 : Int32))) (lv' := [(4, .int (v4 + (1 : Int32))), (0, .ref (ad 0)), (1, .int v1), (2, .int v2), (3, .int v3)]) hx hb d_MaskEdgesModel_hasCome_13 hl (k := 4) rfl rfl (by decide) rfl (fun ls hl => ?_)
        refine lv_goto (tgt := 3) hx hb d_MaskEdgesModel_hasCome_16 (by decide) ?_
        exact hr3 v1 v2 v3 (v4 + (1 : Int32)) ST _ _ hP hS ls (lv_sub hl [1, 2, 3, 4, 0] rfl) hf
  have hL235 : ∀ (v8 : Int32) (v9 : Int32) (v10 : Int32) (s0 : Int32) (ST : ySt), ∀ (H : Heap) (locs : List Loc), va_P X.1 vwCl (wY X ad ST) H → va_S (yA ad) s.heap H locs → ∀ (ls : Array Slot), lv_has ls 12 [(0, .ref (ad 0)), (8, .int v8), (9, .int v9), (10, .int v10)] → f_MaskEdgesModel_hasCome_235 v8 v9 v10 s0 ST = some res → W p l e (headSpec (Cond.code y_MaskEdgesModel_hasCome prog_8_method_37_code 12 (some .boolean) :: xT) ({ frames := 5, cells := 0, slots := 0, locals := 126 } : Room)).room s m args below meth c H locs 0 0 Q (F0 m 235 ls [.int s0]) := by
    intro v8 v9 v10 s0 ST H locs hP hS ls hl hf
    unfold f_MaskEdgesModel_hasCome_235 at hf
    refine lv_istore (lv' := [(11, .int s0), (0, .ref (ad 0)), (8, .int v8), (9, .int v9), (10, .int v10)]) hx hb d_MaskEdgesModel_hasCome_235 hl (by decide) rfl (fun ls hl => ?_)
    refine lv_aload_n hx hb d_MaskEdgesModel_hasCome_237 rfl (lv_at hl 1 rfl) ?_
    refine lv_iload hx hb d_MaskEdgesModel_hasCome_238 (lv_at hl 2 rfl) ?_
    refine lv_iload hx hb d_MaskEdgesModel_hasCome_240 (lv_at hl 3 rfl) ?_
    refine lv_iload hx hb d_MaskEdgesModel_hasCome_242 (lv_at hl 4 rfl) ?_
    refine lv_iload hx hb d_MaskEdgesModel_hasCome_244 (lv_at hl 0 rfl) ?_
    obtain ⟨c246, e246, hf⟩ := x_b hf
    refine xcR (va_runV (As := [.int v8, .int v9, .int v10, .int s0]) (rest := []) ⟨hx, hb, hml, hown, ht⟩ (c_MaskEdgesModel_isFree l X ad ST v8 v9 v10 s0 hP e246) (cwV 4 ht (xgV xw_634 xw_635 xw_35 xw_43 xw_636) rfl rfl rfl (by decide +kernel) ⟨Nat.le_of_ble_eq_true rfl, Nat.le_of_ble_eq_true rfl⟩) (xPV hKK (va_recv hK hP (ci := 6) (q0 := 0) rfl yg0)) rfl rfl hl.1 rfl (lv_room (Nat.le_of_ble_eq_true rfl)) d_MaskEdgesModel_hasCome_246 ⟨Nat.zero_le _, Nat.zero_le _⟩) ?_
    refine W.eq (g2 := F0 m 249 ls [.int c246]) rfl ?_
    refine lv_if_ne (tgt := 254) hx hb d_MaskEdgesModel_hasCome_249 (by decide) (fun hc => ?_) (fun hc => ?_)
    · replace hf := x_f hc hf
      refine lv_aload_n hx hb d_MaskEdgesModel_hasCome_254 rfl (lv_at hl 1 rfl) ?_
      refine va_get (D := X.1) (ci := 6) (v := .ref (ad 16)) (C := "MaskEdgesModel") (T := F_MaskEdgesModel) (N := 28) hx hb ht in_MaskEdgesModel hown hK hP 0 yg0 rfl 20 (by decide) (ht _ xw_467) (fun _ h9 => h9) rfl d_MaskEdgesModel_hasCome_255 ?_
      refine lv_aload_n hx hb d_MaskEdgesModel_hasCome_258 rfl (lv_at hl 1 rfl) ?_
      refine va_get (D := X.1) (ci := 6) (v := .int (Y_bars ST)) (C := "MaskEdgesModel") (T := F_MaskEdgesModel) (N := 28) hx hb ht in_MaskEdgesModel hown hK hP 0 yg0 rfl 19 (by decide) (ht _ xw_466) (fun _ h9 => h9) rfl d_MaskEdgesModel_hasCome_259 ?_
      refine lv_iload hx hb d_MaskEdgesModel_hasCome_262 (lv_at hl 2 rfl) ?_
      obtain ⟨g264, hf⟩ := x_g hf
      refine va_iast hx hb hK hP (yD hA) hS 16 0 yg16 rfl (xin_in g264) d_MaskEdgesModel_hasCome_264 (fun H locs hP _ hS => ?_)
      replace hP : va_P X.1 vwCl (wY X ad (Y_u_barX ST (upd (Y_barX ST) (Y_bars ST).toNatClampNeg v8))) H := xeq ym_barX hP
      refine lv_aload_n hx hb d_MaskEdgesModel_hasCome_265 rfl (lv_at hl 1 rfl) ?_
      refine va_get (D := X.1) (ci := 6) (v := .ref (ad 17)) (C := "MaskEdgesModel") (T := F_MaskEdgesModel) (N := 28) hx hb ht in_MaskEdgesModel hown hK hP 0 yg0 rfl 21 (by decide) (ht _ xw_468) (fun _ h9 => h9) rfl d_MaskEdgesModel_hasCome_266 ?_
      refine lv_aload_n hx hb d_MaskEdgesModel_hasCome_269 rfl (lv_at hl 1 rfl) ?_
      refine va_get (D := X.1) (ci := 6) (v := .int (Y_bars (Y_u_barX ST (upd (Y_barX ST) (Y_bars ST).toNatClampNeg v8)))) (C := "MaskEdgesModel") (T := F_MaskEdgesModel) (N := 28) hx hb ht in_MaskEdgesModel hown hK hP 0 yg0 rfl 19 (by decide) (ht _ xw_466) (fun _ h9 => h9) rfl d_MaskEdgesModel_hasCome_270 ?_
      refine lv_iload hx hb d_MaskEdgesModel_hasCome_273 (lv_at hl 3 rfl) ?_
      obtain ⟨g275, hf⟩ := x_g hf
      refine va_iast hx hb hK hP (yD hA) hS 17 0 yg17 rfl (xin_in g275) d_MaskEdgesModel_hasCome_275 (fun H locs hP _ hS => ?_)
      replace hP : va_P X.1 vwCl (wY X ad (Y_u_barY (Y_u_barX ST (upd (Y_barX ST) (Y_bars ST).toNatClampNeg v8)) (upd (Y_barY (Y_u_barX ST (upd (Y_barX ST) (Y_bars ST).toNatClampNeg v8))) (Y_bars (Y_u_barX ST (upd (Y_barX ST) (Y_bars ST).toNatClampNeg v8))).toNatClampNeg v9))) H := xeq ym_barY hP
      refine lv_aload_n hx hb d_MaskEdgesModel_hasCome_276 rfl (lv_at hl 1 rfl) ?_
      refine va_get (D := X.1) (ci := 6) (v := .ref (ad 18)) (C := "MaskEdgesModel") (T := F_MaskEdgesModel) (N := 28) hx hb ht in_MaskEdgesModel hown hK hP 0 yg0 rfl 22 (by decide) (ht _ xw_469) (fun _ h9 => h9) rfl d_MaskEdgesModel_hasCome_277 ?_
      refine lv_aload_n hx hb d_MaskEdgesModel_hasCome_280 rfl (lv_at hl 1 rfl) ?_
      refine va_get (D := X.1) (ci := 6) (v := .int (Y_bars (Y_u_barY (Y_u_barX ST (upd (Y_barX ST) (Y_bars ST).toNatClampNeg v8)) (upd (Y_barY (Y_u_barX ST (upd (Y_barX ST) (Y_bars ST).toNatClampNeg v8))) (Y_bars (Y_u_barX ST (upd (Y_barX ST) (Y_bars ST).toNatClampNeg v8))).toNatClampNeg v9)))) (C := "MaskEdgesModel") (T := F_MaskEdgesModel) (N := 28) hx hb ht in_MaskEdgesModel hown hK hP 0 yg0 rfl 19 (by decide) (ht _ xw_466) (fun _ h9 => h9) rfl d_MaskEdgesModel_hasCome_281 ?_
      refine lv_iload hx hb d_MaskEdgesModel_hasCome_284 (lv_at hl 4 rfl) ?_
      obtain ⟨g286, hf⟩ := x_g hf
      refine va_iast hx hb hK hP (yD hA) hS 18 0 yg18 rfl (xin_in g286) d_MaskEdgesModel_hasCome_286 (fun H locs hP _ hS => ?_)
      replace hP : va_P X.1 vwCl (wY X ad (Y_u_barFarX (Y_u_barY (Y_u_barX ST (upd (Y_barX ST) (Y_bars ST).toNatClampNeg v8)) (upd (Y_barY (Y_u_barX ST (upd (Y_barX ST) (Y_bars ST).toNatClampNeg v8))) (Y_bars (Y_u_barX ST (upd (Y_barX ST) (Y_bars ST).toNatClampNeg v8))).toNatClampNeg v9)) (upd (Y_barFarX (Y_u_barY (Y_u_barX ST (upd (Y_barX ST) (Y_bars ST).toNatClampNeg v8)) (upd (Y_barY (Y_u_barX ST (upd (Y_barX ST) (Y_bars ST).toNatClampNeg v8))) (Y_bars (Y_u_barX ST (upd (Y_barX ST) (Y_bars ST).toNatClampNeg v8))).toNatClampNeg v9))) (Y_bars (Y_u_barY (Y_u_barX ST (upd (Y_barX ST) (Y_bars ST).toNatClampNeg v8)) (upd (Y_barY (Y_u_barX ST (upd (Y_barX ST) (Y_bars ST).toNatClampNeg v8))) (Y_bars (Y_u_barX ST (upd (Y_barX ST) (Y_bars ST).toNatClampNeg v8))).toNatClampNeg v9))).toNatClampNeg v10))) H := xeq ym_barFarX hP
      refine lv_aload_n hx hb d_MaskEdgesModel_hasCome_287 rfl (lv_at hl 1 rfl) ?_
      refine va_get (D := X.1) (ci := 6) (v := .ref (ad 19)) (C := "MaskEdgesModel") (T := F_MaskEdgesModel) (N := 28) hx hb ht in_MaskEdgesModel hown hK hP 0 yg0 rfl 23 (by decide) (ht _ xw_470) (fun _ h9 => h9) rfl d_MaskEdgesModel_hasCome_288 ?_
      refine lv_aload_n hx hb d_MaskEdgesModel_hasCome_291 rfl (lv_at hl 1 rfl) ?_
      refine va_get (D := X.1) (ci := 6) (v := .int (Y_bars (Y_u_barFarX (Y_u_barY (Y_u_barX ST (upd (Y_barX ST) (Y_bars ST).toNatClampNeg v8)) (upd (Y_barY (Y_u_barX ST (upd (Y_barX ST) (Y_bars ST).toNatClampNeg v8))) (Y_bars (Y_u_barX ST (upd (Y_barX ST) (Y_bars ST).toNatClampNeg v8))).toNatClampNeg v9)) (upd (Y_barFarX (Y_u_barY (Y_u_barX ST (upd (Y_barX ST) (Y_bars ST).toNatClampNeg v8)) (upd (Y_barY (Y_u_barX ST (upd (Y_barX ST) (Y_bars ST).toNatClampNeg v8))) (Y_bars (Y_u_barX ST (upd (Y_barX ST) (Y_bars ST).toNatClampNeg v8))).toNatClampNeg v9))) (Y_bars (Y_u_barY (Y_u_barX ST (upd (Y_barX ST) (Y_bars ST).toNatClampNeg v8)) (upd (Y_barY (Y_u_barX ST (upd (Y_barX ST) (Y_bars ST).toNatClampNeg v8))) (Y_bars (Y_u_barX ST (upd (Y_barX ST) (Y_bars ST).toNatClampNeg v8))).toNatClampNeg v9))).toNatClampNeg v10)))) (C := "MaskEdgesModel") (T := F_MaskEdgesModel) (N := 28) hx hb ht in_MaskEdgesModel hown hK hP 0 yg0 rfl 19 (by decide) (ht _ xw_466) (fun _ h9 => h9) rfl d_MaskEdgesModel_hasCome_292 ?_
      refine lv_iload hx hb d_MaskEdgesModel_hasCome_295 (lv_at hl 0 rfl) ?_
      obtain ⟨g297, hf⟩ := x_g hf
      refine va_iast hx hb hK hP (yD hA) hS 19 0 yg19 rfl (xin_in g297) d_MaskEdgesModel_hasCome_297 (fun H locs hP _ hS => ?_)
      replace hP : va_P X.1 vwCl (wY X ad (Y_u_barFarY (Y_u_barFarX (Y_u_barY (Y_u_barX ST (upd (Y_barX ST) (Y_bars ST).toNatClampNeg v8)) (upd (Y_barY (Y_u_barX ST (upd (Y_barX ST) (Y_bars ST).toNatClampNeg v8))) (Y_bars (Y_u_barX ST (upd (Y_barX ST) (Y_bars ST).toNatClampNeg v8))).toNatClampNeg v9)) (upd (Y_barFarX (Y_u_barY (Y_u_barX ST (upd (Y_barX ST) (Y_bars ST).toNatClampNeg v8)) (upd (Y_barY (Y_u_barX ST (upd (Y_barX ST) (Y_bars ST).toNatClampNeg v8))) (Y_bars (Y_u_barX ST (upd (Y_barX ST) (Y_bars ST).toNatClampNeg v8))).toNatClampNeg v9))) (Y_bars (Y_u_barY (Y_u_barX ST (upd (Y_barX ST) (Y_bars ST).toNatClampNeg v8)) (upd (Y_barY (Y_u_barX ST (upd (Y_barX ST) (Y_bars ST).toNatClampNeg v8))) (Y_bars (Y_u_barX ST (upd (Y_barX ST) (Y_bars ST).toNatClampNeg v8))).toNatClampNeg v9))).toNatClampNeg v10)) (upd (Y_barFarY (Y_u_barFarX (Y_u_barY (Y_u_barX ST (upd (Y_barX ST) (Y_bars ST).toNatClampNeg v8)) (upd (Y_barY (Y_u_barX ST (upd (Y_barX ST) (Y_bars ST).toNatClampNeg v8))) (Y_bars (Y_u_barX ST (upd (Y_barX ST) (Y_bars ST).toNatClampNeg v8))).toNatClampNeg v9)) (upd (Y_barFarX (Y_u_barY (Y_u_barX ST (upd (Y_barX ST) (Y_bars ST).toNatClampNeg v8)) (upd (Y_barY (Y_u_barX ST (upd (Y_barX ST) (Y_bars ST).toNatClampNeg v8))) (Y_bars (Y_u_barX ST (upd (Y_barX ST) (Y_bars ST).toNatClampNeg v8))).toNatClampNeg v9))) (Y_bars (Y_u_barY (Y_u_barX ST (upd (Y_barX ST) (Y_bars ST).toNatClampNeg v8)) (upd (Y_barY (Y_u_barX ST (upd (Y_barX ST) (Y_bars ST).toNatClampNeg v8))) (Y_bars (Y_u_barX ST (upd (Y_barX ST) (Y_bars ST).toNatClampNeg v8))).toNatClampNeg v9))).toNatClampNeg v10))) (Y_bars (Y_u_barFarX (Y_u_barY (Y_u_barX ST (upd (Y_barX ST) (Y_bars ST).toNatClampNeg v8)) (upd (Y_barY (Y_u_barX ST (upd (Y_barX ST) (Y_bars ST).toNatClampNeg v8))) (Y_bars (Y_u_barX ST (upd (Y_barX ST) (Y_bars ST).toNatClampNeg v8))).toNatClampNeg v9)) (upd (Y_barFarX (Y_u_barY (Y_u_barX ST (upd (Y_barX ST) (Y_bars ST).toNatClampNeg v8)) (upd (Y_barY (Y_u_barX ST (upd (Y_barX ST) (Y_bars ST).toNatClampNeg v8))) (Y_bars (Y_u_barX ST (upd (Y_barX ST) (Y_bars ST).toNatClampNeg v8))).toNatClampNeg v9))) (Y_bars (Y_u_barY (Y_u_barX ST (upd (Y_barX ST) (Y_bars ST).toNatClampNeg v8)) (upd (Y_barY (Y_u_barX ST (upd (Y_barX ST) (Y_bars ST).toNatClampNeg v8))) (Y_bars (Y_u_barX ST (upd (Y_barX ST) (Y_bars ST).toNatClampNeg v8))).toNatClampNeg v9))).toNatClampNeg v10))).toNatClampNeg s0))) H := xeq ym_barFarY hP
      refine lv_aload_n hx hb d_MaskEdgesModel_hasCome_298 rfl (lv_at hl 1 rfl) ?_
      refine lv_dup hx hb d_MaskEdgesModel_hasCome_299 rfl ?_
      refine va_get (D := X.1) (ci := 6) (v := .int (Y_bars (Y_u_barFarY (Y_u_barFarX (Y_u_barY (Y_u_barX ST (upd (Y_barX ST) (Y_bars ST).toNatClampNeg v8)) (upd (Y_barY (Y_u_barX ST (upd (Y_barX ST) (Y_bars ST).toNatClampNeg v8))) (Y_bars (Y_u_barX ST (upd (Y_barX ST) (Y_bars ST).toNatClampNeg v8))).toNatClampNeg v9)) (upd (Y_barFarX (Y_u_barY (Y_u_barX ST (upd (Y_barX ST) (Y_bars ST).toNatClampNeg v8)) (upd (Y_barY (Y_u_barX ST (upd (Y_barX ST) (Y_bars ST).toNatClampNeg v8))) (Y_bars (Y_u_barX ST (upd (Y_barX ST) (Y_bars ST).toNatClampNeg v8))).toNatClampNeg v9))) (Y_bars (Y_u_barY (Y_u_barX ST (upd (Y_barX ST) (Y_bars ST).toNatClampNeg v8)) (upd (Y_barY (Y_u_barX ST (upd (Y_barX ST) (Y_bars ST).toNatClampNeg v8))) (Y_bars (Y_u_barX ST (upd (Y_barX ST) (Y_bars ST).toNatClampNeg v8))).toNatClampNeg v9))).toNatClampNeg v10)) (upd (Y_barFarY (Y_u_barFarX (Y_u_barY (Y_u_barX ST (upd (Y_barX ST) (Y_bars ST).toNatClampNeg v8)) (upd (Y_barY (Y_u_barX ST (upd (Y_barX ST) (Y_bars ST).toNatClampNeg v8))) (Y_bars (Y_u_barX ST (upd (Y_barX ST) (Y_bars ST).toNatClampNeg v8))).toNatClampNeg v9)) (upd (Y_barFarX (Y_u_barY (Y_u_barX ST (upd (Y_barX ST) (Y_bars ST).toNatClampNeg v8)) (upd (Y_barY (Y_u_barX ST (upd (Y_barX ST) (Y_bars ST).toNatClampNeg v8))) (Y_bars (Y_u_barX ST (upd (Y_barX ST) (Y_bars ST).toNatClampNeg v8))).toNatClampNeg v9))) (Y_bars (Y_u_barY (Y_u_barX ST (upd (Y_barX ST) (Y_bars ST).toNatClampNeg v8)) (upd (Y_barY (Y_u_barX ST (upd (Y_barX ST) (Y_bars ST).toNatClampNeg v8))) (Y_bars (Y_u_barX ST (upd (Y_barX ST) (Y_bars ST).toNatClampNeg v8))).toNatClampNeg v9))).toNatClampNeg v10))) (Y_bars (Y_u_barFarX (Y_u_barY (Y_u_barX ST (upd (Y_barX ST) (Y_bars ST).toNatClampNeg v8)) (upd (Y_barY (Y_u_barX ST (upd (Y_barX ST) (Y_bars ST).toNatClampNeg v8))) (Y_bars (Y_u_barX ST (upd (Y_barX ST) (Y_bars ST).toNatClampNeg v8))).toNatClampNeg v9)) (upd (Y_barFarX (Y_u_barY (Y_u_barX ST (upd (Y_barX ST) (Y_bars ST).toNatClampNeg v8)) (upd (Y_barY (Y_u_barX ST (upd (Y_barX ST) (Y_bars ST).toNatClampNeg v8))) (Y_bars (Y_u_barX ST (upd (Y_barX ST) (Y_bars ST).toNatClampNeg v8))).toNatClampNeg v9))) (Y_bars (Y_u_barY (Y_u_barX ST (upd (Y_barX ST) (Y_bars ST).toNatClampNeg v8)) (upd (Y_barY (Y_u_barX ST (upd (Y_barX ST) (Y_bars ST).toNatClampNeg v8))) (Y_bars (Y_u_barX ST (upd (Y_barX ST) (Y_bars ST).toNatClampNeg v8))).toNatClampNeg v9))).toNatClampNeg v10))).toNatClampNeg s0)))) (C := "MaskEdgesModel") (T := F_MaskEdgesModel) (N := 28) hx hb ht in_MaskEdgesModel hown hK hP 0 yg0 rfl 19 (by decide) (ht _ xw_466) (fun _ h9 => h9) rfl d_MaskEdgesModel_hasCome_300 ?_
      refine lv_iconst (v := (1 : Int32)) hx hb d_MaskEdgesModel_hasCome_303 (by decide) ?_
      refine lv_iadd hx hb d_MaskEdgesModel_hasCome_304 ?_
      refine va_put (D := X.1) (ci := 6) (v := .int ((Y_bars (Y_u_barFarY (Y_u_barFarX (Y_u_barY (Y_u_barX ST (upd (Y_barX ST) (Y_bars ST).toNatClampNeg v8)) (upd (Y_barY (Y_u_barX ST (upd (Y_barX ST) (Y_bars ST).toNatClampNeg v8))) (Y_bars (Y_u_barX ST (upd (Y_barX ST) (Y_bars ST).toNatClampNeg v8))).toNatClampNeg v9)) (upd (Y_barFarX (Y_u_barY (Y_u_barX ST (upd (Y_barX ST) (Y_bars ST).toNatClampNeg v8)) (upd (Y_barY (Y_u_barX ST (upd (Y_barX ST) (Y_bars ST).toNatClampNeg v8))) (Y_bars (Y_u_barX ST (upd (Y_barX ST) (Y_bars ST).toNatClampNeg v8))).toNatClampNeg v9))) (Y_bars (Y_u_barY (Y_u_barX ST (upd (Y_barX ST) (Y_bars ST).toNatClampNeg v8)) (upd (Y_barY (Y_u_barX ST (upd (Y_barX ST) (Y_bars ST).toNatClampNeg v8))) (Y_bars (Y_u_barX ST (upd (Y_barX ST) (Y_bars ST).toNatClampNeg v8))).toNatClampNeg v9))).toNatClampNeg v10)) (upd (Y_barFarY (Y_u_barFarX (Y_u_barY (Y_u_barX ST (upd (Y_barX ST) (Y_bars ST).toNatClampNeg v8)) (upd (Y_barY (Y_u_barX ST (upd (Y_barX ST) (Y_bars ST).toNatClampNeg v8))) (Y_bars (Y_u_barX ST (upd (Y_barX ST) (Y_bars ST).toNatClampNeg v8))).toNatClampNeg v9)) (upd (Y_barFarX (Y_u_barY (Y_u_barX ST (upd (Y_barX ST) (Y_bars ST).toNatClampNeg v8)) (upd (Y_barY (Y_u_barX ST (upd (Y_barX ST) (Y_bars ST).toNatClampNeg v8))) (Y_bars (Y_u_barX ST (upd (Y_barX ST) (Y_bars ST).toNatClampNeg v8))).toNatClampNeg v9))) (Y_bars (Y_u_barY (Y_u_barX ST (upd (Y_barX ST) (Y_bars ST).toNatClampNeg v8)) (upd (Y_barY (Y_u_barX ST (upd (Y_barX ST) (Y_bars ST).toNatClampNeg v8))) (Y_bars (Y_u_barX ST (upd (Y_barX ST) (Y_bars ST).toNatClampNeg v8))).toNatClampNeg v9))).toNatClampNeg v10))) (Y_bars (Y_u_barFarX (Y_u_barY (Y_u_barX ST (upd (Y_barX ST) (Y_bars ST).toNatClampNeg v8)) (upd (Y_barY (Y_u_barX ST (upd (Y_barX ST) (Y_bars ST).toNatClampNeg v8))) (Y_bars (Y_u_barX ST (upd (Y_barX ST) (Y_bars ST).toNatClampNeg v8))).toNatClampNeg v9)) (upd (Y_barFarX (Y_u_barY (Y_u_barX ST (upd (Y_barX ST) (Y_bars ST).toNatClampNeg v8)) (upd (Y_barY (Y_u_barX ST (upd (Y_barX ST) (Y_bars ST).toNatClampNeg v8))) (Y_bars (Y_u_barX ST (upd (Y_barX ST) (Y_bars ST).toNatClampNeg v8))).toNatClampNeg v9))) (Y_bars (Y_u_barY (Y_u_barX ST (upd (Y_barX ST) (Y_bars ST).toNatClampNeg v8)) (upd (Y_barY (Y_u_barX ST (upd (Y_barX ST) (Y_bars ST).toNatClampNeg v8))) (Y_bars (Y_u_barX ST (upd (Y_barX ST) (Y_bars ST).toNatClampNeg v8))).toNatClampNeg v9))).toNatClampNeg v10))).toNatClampNeg s0))) + (1 : Int32))) (ty := .int) (C := "MaskEdgesModel") (T := F_MaskEdgesModel) (N := 28) hx hb ht in_MaskEdgesModel ty_MaskEdgesModel tyk_MaskEdgesModel nm_MaskEdgesModel hown hK hP (yD hA) hS 0 yg0 rfl 19 (by decide) (ht _ xw_466) (fun _ h9 => h9) rfl (by decide +kernel) rfl rfl (Nat.le_of_ble_eq_true rfl) d_MaskEdgesModel_hasCome_305 (fun H locs hP _ hS => ?_)
      replace hP : va_P X.1 vwCl (wY X ad (Y_u_bars (Y_u_barFarY (Y_u_barFarX (Y_u_barY (Y_u_barX ST (upd (Y_barX ST) (Y_bars ST).toNatClampNeg v8)) (upd (Y_barY (Y_u_barX ST (upd (Y_barX ST) (Y_bars ST).toNatClampNeg v8))) (Y_bars (Y_u_barX ST (upd (Y_barX ST) (Y_bars ST).toNatClampNeg v8))).toNatClampNeg v9)) (upd (Y_barFarX (Y_u_barY (Y_u_barX ST (upd (Y_barX ST) (Y_bars ST).toNatClampNeg v8)) (upd (Y_barY (Y_u_barX ST (upd (Y_barX ST) (Y_bars ST).toNatClampNeg v8))) (Y_bars (Y_u_barX ST (upd (Y_barX ST) (Y_bars ST).toNatClampNeg v8))).toNatClampNeg v9))) (Y_bars (Y_u_barY (Y_u_barX ST (upd (Y_barX ST) (Y_bars ST).toNatClampNeg v8)) (upd (Y_barY (Y_u_barX ST (upd (Y_barX ST) (Y_bars ST).toNatClampNeg v8))) (Y_bars (Y_u_barX ST (upd (Y_barX ST) (Y_bars ST).toNatClampNeg v8))).toNatClampNeg v9))).toNatClampNeg v10)) (upd (Y_barFarY (Y_u_barFarX (Y_u_barY (Y_u_barX ST (upd (Y_barX ST) (Y_bars ST).toNatClampNeg v8)) (upd (Y_barY (Y_u_barX ST (upd (Y_barX ST) (Y_bars ST).toNatClampNeg v8))) (Y_bars (Y_u_barX ST (upd (Y_barX ST) (Y_bars ST).toNatClampNeg v8))).toNatClampNeg v9)) (upd (Y_barFarX (Y_u_barY (Y_u_barX ST (upd (Y_barX ST) (Y_bars ST).toNatClampNeg v8)) (upd (Y_barY (Y_u_barX ST (upd (Y_barX ST) (Y_bars ST).toNatClampNeg v8))) (Y_bars (Y_u_barX ST (upd (Y_barX ST) (Y_bars ST).toNatClampNeg v8))).toNatClampNeg v9))) (Y_bars (Y_u_barY (Y_u_barX ST (upd (Y_barX ST) (Y_bars ST).toNatClampNeg v8)) (upd (Y_barY (Y_u_barX ST (upd (Y_barX ST) (Y_bars ST).toNatClampNeg v8))) (Y_bars (Y_u_barX ST (upd (Y_barX ST) (Y_bars ST).toNatClampNeg v8))).toNatClampNeg v9))).toNatClampNeg v10))) (Y_bars (Y_u_barFarX (Y_u_barY (Y_u_barX ST (upd (Y_barX ST) (Y_bars ST).toNatClampNeg v8)) (upd (Y_barY (Y_u_barX ST (upd (Y_barX ST) (Y_bars ST).toNatClampNeg v8))) (Y_bars (Y_u_barX ST (upd (Y_barX ST) (Y_bars ST).toNatClampNeg v8))).toNatClampNeg v9)) (upd (Y_barFarX (Y_u_barY (Y_u_barX ST (upd (Y_barX ST) (Y_bars ST).toNatClampNeg v8)) (upd (Y_barY (Y_u_barX ST (upd (Y_barX ST) (Y_bars ST).toNatClampNeg v8))) (Y_bars (Y_u_barX ST (upd (Y_barX ST) (Y_bars ST).toNatClampNeg v8))).toNatClampNeg v9))) (Y_bars (Y_u_barY (Y_u_barX ST (upd (Y_barX ST) (Y_bars ST).toNatClampNeg v8)) (upd (Y_barY (Y_u_barX ST (upd (Y_barX ST) (Y_bars ST).toNatClampNeg v8))) (Y_bars (Y_u_barX ST (upd (Y_barX ST) (Y_bars ST).toNatClampNeg v8))).toNatClampNeg v9))).toNatClampNeg v10))).toNatClampNeg s0)) ((Y_bars (Y_u_barFarY (Y_u_barFarX (Y_u_barY (Y_u_barX ST (upd (Y_barX ST) (Y_bars ST).toNatClampNeg v8)) (upd (Y_barY (Y_u_barX ST (upd (Y_barX ST) (Y_bars ST).toNatClampNeg v8))) (Y_bars (Y_u_barX ST (upd (Y_barX ST) (Y_bars ST).toNatClampNeg v8))).toNatClampNeg v9)) (upd (Y_barFarX (Y_u_barY (Y_u_barX ST (upd (Y_barX ST) (Y_bars ST).toNatClampNeg v8)) (upd (Y_barY (Y_u_barX ST (upd (Y_barX ST) (Y_bars ST).toNatClampNeg v8))) (Y_bars (Y_u_barX ST (upd (Y_barX ST) (Y_bars ST).toNatClampNeg v8))).toNatClampNeg v9))) (Y_bars (Y_u_barY (Y_u_barX ST (upd (Y_barX ST) (Y_bars ST).toNatClampNeg v8)) (upd (Y_barY (Y_u_barX ST (upd (Y_barX ST) (Y_bars ST).toNatClampNeg v8))) (Y_bars (Y_u_barX ST (upd (Y_barX ST) (Y_bars ST).toNatClampNeg v8))).toNatClampNeg v9))).toNatClampNeg v10)) (upd (Y_barFarY (Y_u_barFarX (Y_u_barY (Y_u_barX ST (upd (Y_barX ST) (Y_bars ST).toNatClampNeg v8)) (upd (Y_barY (Y_u_barX ST (upd (Y_barX ST) (Y_bars ST).toNatClampNeg v8))) (Y_bars (Y_u_barX ST (upd (Y_barX ST) (Y_bars ST).toNatClampNeg v8))).toNatClampNeg v9)) (upd (Y_barFarX (Y_u_barY (Y_u_barX ST (upd (Y_barX ST) (Y_bars ST).toNatClampNeg v8)) (upd (Y_barY (Y_u_barX ST (upd (Y_barX ST) (Y_bars ST).toNatClampNeg v8))) (Y_bars (Y_u_barX ST (upd (Y_barX ST) (Y_bars ST).toNatClampNeg v8))).toNatClampNeg v9))) (Y_bars (Y_u_barY (Y_u_barX ST (upd (Y_barX ST) (Y_bars ST).toNatClampNeg v8)) (upd (Y_barY (Y_u_barX ST (upd (Y_barX ST) (Y_bars ST).toNatClampNeg v8))) (Y_bars (Y_u_barX ST (upd (Y_barX ST) (Y_bars ST).toNatClampNeg v8))).toNatClampNeg v9))).toNatClampNeg v10))) (Y_bars (Y_u_barFarX (Y_u_barY (Y_u_barX ST (upd (Y_barX ST) (Y_bars ST).toNatClampNeg v8)) (upd (Y_barY (Y_u_barX ST (upd (Y_barX ST) (Y_bars ST).toNatClampNeg v8))) (Y_bars (Y_u_barX ST (upd (Y_barX ST) (Y_bars ST).toNatClampNeg v8))).toNatClampNeg v9)) (upd (Y_barFarX (Y_u_barY (Y_u_barX ST (upd (Y_barX ST) (Y_bars ST).toNatClampNeg v8)) (upd (Y_barY (Y_u_barX ST (upd (Y_barX ST) (Y_bars ST).toNatClampNeg v8))) (Y_bars (Y_u_barX ST (upd (Y_barX ST) (Y_bars ST).toNatClampNeg v8))).toNatClampNeg v9))) (Y_bars (Y_u_barY (Y_u_barX ST (upd (Y_barX ST) (Y_bars ST).toNatClampNeg v8)) (upd (Y_barY (Y_u_barX ST (upd (Y_barX ST) (Y_bars ST).toNatClampNeg v8))) (Y_bars (Y_u_barX ST (upd (Y_barX ST) (Y_bars ST).toNatClampNeg v8))).toNatClampNeg v9))).toNatClampNeg v10))).toNatClampNeg s0))) + (1 : Int32)))) H := xeq ym_bars hP
      refine lv_iconst (v := (1 : Int32)) hx hb d_MaskEdgesModel_hasCome_308 (by decide) ?_
      replace hf := x_s hf
      subst hf
      subst hQ
      exact W.zret (v := (1 : Int32)) hx hb hr (xz_n (by decide)) (fun t ht hW => ⟨⟨rfl, by rw [ht]; exact hP⟩, hS.F ht⟩) hS.2.2 d_MaskEdgesModel_hasCome_309
    · replace hf := x_t hc hf
      refine lv_iconst (v := (0 : Int32)) hx hb d_MaskEdgesModel_hasCome_252 (by decide) ?_
      replace hf := x_s hf
      subst hf
      subst hQ
      exact W.zret (v := (0 : Int32)) hx hb hr (xz_n (by decide)) (fun t ht hW => ⟨⟨rfl, by rw [ht]; exact hP⟩, hS.F ht⟩) hS.2.2 d_MaskEdgesModel_hasCome_253
  have hL211 : ∀ (v1 : Int32) (v3 : Int32) (v6 : Int32) (v7 : Int32) (v8 : Int32) (v9 : Int32) (s0 : Int32) (ST : ySt), ∀ (H : Heap) (locs : List Loc), va_P X.1 vwCl (wY X ad ST) H → va_S (yA ad) s.heap H locs → ∀ (ls : Array Slot), lv_has ls 12 [(0, .ref (ad 0)), (1, .int v1), (3, .int v3), (6, .int v6), (7, .int v7), (8, .int v8), (9, .int v9)] → f_MaskEdgesModel_hasCome_211 v1 v3 v6 v7 v8 v9 s0 ST = some res → W p l e (headSpec (Cond.code y_MaskEdgesModel_hasCome prog_8_method_37_code 12 (some .boolean) :: xT) ({ frames := 5, cells := 0, slots := 0, locals := 126 } : Room)).room s m args below meth c H locs 0 0 Q (F0 m 211 ls [.int s0]) := by
    intro v1 v3 v6 v7 v8 v9 s0 ST H locs hP hS ls hl hf
    unfold f_MaskEdgesModel_hasCome_211 at hf
    refine lv_istore (lv' := [(10, .int s0), (0, .ref (ad 0)), (1, .int v1), (3, .int v3), (6, .int v6), (7, .int v7), (8, .int v8), (9, .int v9)]) hx hb d_MaskEdgesModel_hasCome_211 hl (by decide) rfl (fun ls hl => ?_)
    refine lv_aload_n hx hb d_MaskEdgesModel_hasCome_213 rfl (lv_at hl 1 rfl) ?_
    refine va_get (D := X.1) (ci := 6) (v := .ref (ad 10)) (C := "MaskEdgesModel") (T := F_MaskEdgesModel) (N := 28) hx hb ht in_MaskEdgesModel hown hK hP 0 yg0 rfl 13 (by decide) (ht _ xw_460) (fun _ h9 => h9) rfl d_MaskEdgesModel_hasCome_214 ?_
    refine lv_iload_n hx hb d_MaskEdgesModel_hasCome_217 rfl (lv_at hl 2 rfl) ?_
    obtain ⟨g218, hf⟩ := x_g hf
    refine va_zald hx hb hK hP 10 5 yg10 rfl (xin_in g218) d_MaskEdgesModel_hasCome_218 ?_
    refine lv_if_eq (tgt := 231) hx hb d_MaskEdgesModel_hasCome_219 (by decide) (fun hc => ?_) (fun hc => ?_)
    · replace hf := x_t hc hf
      refine lv_iload hx hb d_MaskEdgesModel_hasCome_231 (lv_at hl 4 rfl) ?_
      refine lv_iconst (v := (2 : Int32)) hx hb d_MaskEdgesModel_hasCome_233 (by decide) ?_
      refine lv_isub hx hb d_MaskEdgesModel_hasCome_234 ?_
      exact hL235 v8 v9 s0 (v6 - (2 : Int32)) ST _ _ hP hS ls (lv_sub hl [1, 6, 7, 0] rfl) hf
    · replace hf := x_f hc hf
      refine lv_iload hx hb d_MaskEdgesModel_hasCome_222 (lv_at hl 5 rfl) ?_
      refine lv_iload_n hx hb d_MaskEdgesModel_hasCome_224 rfl (lv_at hl 3 rfl) ?_
      refine lv_iadd hx hb d_MaskEdgesModel_hasCome_225 ?_
      refine lv_iconst (v := (1 : Int32)) hx hb d_MaskEdgesModel_hasCome_226 (by decide) ?_
      refine lv_isub hx hb d_MaskEdgesModel_hasCome_227 ?_
      refine lv_goto (tgt := 235) hx hb d_MaskEdgesModel_hasCome_228 (by decide) ?_
      exact hL235 v8 v9 s0 ((v7 + v3) - (1 : Int32)) ST _ _ hP hS ls (lv_sub hl [1, 6, 7, 0] rfl) hf
  have hL187 : ∀ (v1 : Int32) (v3 : Int32) (v6 : Int32) (v7 : Int32) (v8 : Int32) (s0 : Int32) (ST : ySt), ∀ (H : Heap) (locs : List Loc), va_P X.1 vwCl (wY X ad ST) H → va_S (yA ad) s.heap H locs → ∀ (ls : Array Slot), lv_has ls 12 [(0, .ref (ad 0)), (1, .int v1), (3, .int v3), (6, .int v6), (7, .int v7), (8, .int v8)] → f_MaskEdgesModel_hasCome_187 v1 v3 v6 v7 v8 s0 ST = some res → W p l e (headSpec (Cond.code y_MaskEdgesModel_hasCome prog_8_method_37_code 12 (some .boolean) :: xT) ({ frames := 5, cells := 0, slots := 0, locals := 126 } : Room)).room s m args below meth c H locs 0 0 Q (F0 m 187 ls [.int s0]) := by
    intro v1 v3 v6 v7 v8 s0 ST H locs hP hS ls hl hf
    unfold f_MaskEdgesModel_hasCome_187 at hf
    refine lv_istore (lv' := [(9, .int s0), (0, .ref (ad 0)), (1, .int v1), (3, .int v3), (6, .int v6), (7, .int v7), (8, .int v8)]) hx hb d_MaskEdgesModel_hasCome_187 hl (by decide) rfl (fun ls hl => ?_)
    refine lv_aload_n hx hb d_MaskEdgesModel_hasCome_189 rfl (lv_at hl 1 rfl) ?_
    refine va_get (D := X.1) (ci := 6) (v := .ref (ad 10)) (C := "MaskEdgesModel") (T := F_MaskEdgesModel) (N := 28) hx hb ht in_MaskEdgesModel hown hK hP 0 yg0 rfl 13 (by decide) (ht _ xw_460) (fun _ h9 => h9) rfl d_MaskEdgesModel_hasCome_190 ?_
    refine lv_iload_n hx hb d_MaskEdgesModel_hasCome_193 rfl (lv_at hl 2 rfl) ?_
    obtain ⟨g194, hf⟩ := x_g hf
    refine va_zald hx hb hK hP 10 5 yg10 rfl (xin_in g194) d_MaskEdgesModel_hasCome_194 ?_
    refine lv_if_eq (tgt := 205) hx hb d_MaskEdgesModel_hasCome_195 (by decide) (fun hc => ?_) (fun hc => ?_)
    · replace hf := x_t hc hf
      refine lv_iload hx hb d_MaskEdgesModel_hasCome_205 (lv_at hl 5 rfl) ?_
      refine lv_iload_n hx hb d_MaskEdgesModel_hasCome_207 rfl (lv_at hl 3 rfl) ?_
      refine lv_iadd hx hb d_MaskEdgesModel_hasCome_208 ?_
      refine lv_iconst (v := (1 : Int32)) hx hb d_MaskEdgesModel_hasCome_209 (by decide) ?_
      refine lv_isub hx hb d_MaskEdgesModel_hasCome_210 ?_
      exact hL211 v1 v3 v6 v7 v8 s0 ((v7 + v3) - (1 : Int32)) ST _ _ hP hS ls (lv_sub hl [1, 2, 3, 4, 5, 6, 0] rfl) hf
    · replace hf := x_f hc hf
      refine lv_iload hx hb d_MaskEdgesModel_hasCome_198 (lv_at hl 4 rfl) ?_
      refine lv_iconst (v := (2 : Int32)) hx hb d_MaskEdgesModel_hasCome_200 (by decide) ?_
      refine lv_isub hx hb d_MaskEdgesModel_hasCome_201 ?_
      refine lv_goto (tgt := 211) hx hb d_MaskEdgesModel_hasCome_202 (by decide) ?_
      exact hL211 v1 v3 v6 v7 v8 s0 (v6 - (2 : Int32)) ST _ _ hP hS ls (lv_sub hl [1, 2, 3, 4, 5, 6, 0] rfl) hf
  have hL167 : ∀ (v1 : Int32) (v3 : Int32) (v5 : Int32) (v6 : Int32) (v7 : Int32) (s0 : Int32) (ST : ySt), ∀ (H : Heap) (locs : List Loc), va_P X.1 vwCl (wY X ad ST) H → va_S (yA ad) s.heap H locs → ∀ (ls : Array Slot), lv_has ls 12 [(0, .ref (ad 0)), (1, .int v1), (3, .int v3), (5, .int v5), (6, .int v6), (7, .int v7)] → f_MaskEdgesModel_hasCome_167 v1 v3 v5 v6 v7 s0 ST = some res → W p l e (headSpec (Cond.code y_MaskEdgesModel_hasCome prog_8_method_37_code 12 (some .boolean) :: xT) ({ frames := 5, cells := 0, slots := 0, locals := 126 } : Room)).room s m args below meth c H locs 0 0 Q (F0 m 167 ls [.int s0]) := by
    intro v1 v3 v5 v6 v7 s0 ST H locs hP hS ls hl hf
    unfold f_MaskEdgesModel_hasCome_167 at hf
    refine lv_istore (lv' := [(8, .int s0), (0, .ref (ad 0)), (1, .int v1), (3, .int v3), (5, .int v5), (6, .int v6), (7, .int v7)]) hx hb d_MaskEdgesModel_hasCome_167 hl (by decide) rfl (fun ls hl => ?_)
    refine lv_aload_n hx hb d_MaskEdgesModel_hasCome_169 rfl (lv_at hl 1 rfl) ?_
    refine va_get (D := X.1) (ci := 6) (v := .ref (ad 10)) (C := "MaskEdgesModel") (T := F_MaskEdgesModel) (N := 28) hx hb ht in_MaskEdgesModel hown hK hP 0 yg0 rfl 13 (by decide) (ht _ xw_460) (fun _ h9 => h9) rfl d_MaskEdgesModel_hasCome_170 ?_
    refine lv_iload_n hx hb d_MaskEdgesModel_hasCome_173 rfl (lv_at hl 2 rfl) ?_
    obtain ⟨g174, hf⟩ := x_g hf
    refine va_zald hx hb hK hP 10 5 yg10 rfl (xin_in g174) d_MaskEdgesModel_hasCome_174 ?_
    refine lv_if_eq (tgt := 183) hx hb d_MaskEdgesModel_hasCome_175 (by decide) (fun hc => ?_) (fun hc => ?_)
    · replace hf := x_t hc hf
      refine lv_iload hx hb d_MaskEdgesModel_hasCome_183 (lv_at hl 4 rfl) ?_
      refine lv_iconst (v := (1 : Int32)) hx hb d_MaskEdgesModel_hasCome_185 (by decide) ?_
      refine lv_iadd hx hb d_MaskEdgesModel_hasCome_186 ?_
      exact hL187 v1 v3 v6 v7 s0 (v5 + (1 : Int32)) ST _ _ hP hS ls (lv_sub hl [1, 2, 3, 5, 6, 0] rfl) hf
    · replace hf := x_f hc hf
      refine lv_iload hx hb d_MaskEdgesModel_hasCome_178 (lv_at hl 6 rfl) ?_
      refine lv_goto (tgt := 187) hx hb d_MaskEdgesModel_hasCome_180 (by decide) ?_
      exact hL187 v1 v3 v6 v7 s0 v7 ST _ _ hP hS ls (lv_sub hl [1, 2, 3, 5, 6, 0] rfl) hf
  have hL147 : ∀ (v1 : Int32) (v3 : Int32) (v5 : Int32) (v6 : Int32) (s0 : Int32) (ST : ySt), ∀ (H : Heap) (locs : List Loc), va_P X.1 vwCl (wY X ad ST) H → va_S (yA ad) s.heap H locs → ∀ (ls : Array Slot), lv_has ls 12 [(0, .ref (ad 0)), (1, .int v1), (3, .int v3), (5, .int v5), (6, .int v6)] → f_MaskEdgesModel_hasCome_147 v1 v3 v5 v6 s0 ST = some res → W p l e (headSpec (Cond.code y_MaskEdgesModel_hasCome prog_8_method_37_code 12 (some .boolean) :: xT) ({ frames := 5, cells := 0, slots := 0, locals := 126 } : Room)).room s m args below meth c H locs 0 0 Q (F0 m 147 ls [.int s0]) := by
    intro v1 v3 v5 v6 s0 ST H locs hP hS ls hl hf
    unfold f_MaskEdgesModel_hasCome_147 at hf
    refine lv_istore (lv' := [(7, .int s0), (0, .ref (ad 0)), (1, .int v1), (3, .int v3), (5, .int v5), (6, .int v6)]) hx hb d_MaskEdgesModel_hasCome_147 hl (by decide) rfl (fun ls hl => ?_)
    refine lv_aload_n hx hb d_MaskEdgesModel_hasCome_149 rfl (lv_at hl 1 rfl) ?_
    refine va_get (D := X.1) (ci := 6) (v := .ref (ad 10)) (C := "MaskEdgesModel") (T := F_MaskEdgesModel) (N := 28) hx hb ht in_MaskEdgesModel hown hK hP 0 yg0 rfl 13 (by decide) (ht _ xw_460) (fun _ h9 => h9) rfl d_MaskEdgesModel_hasCome_150 ?_
    refine lv_iload_n hx hb d_MaskEdgesModel_hasCome_153 rfl (lv_at hl 2 rfl) ?_
    obtain ⟨g154, hf⟩ := x_g hf
    refine va_zald hx hb hK hP 10 5 yg10 rfl (xin_in g154) d_MaskEdgesModel_hasCome_154 ?_
    refine lv_if_eq (tgt := 165) hx hb d_MaskEdgesModel_hasCome_155 (by decide) (fun hc => ?_) (fun hc => ?_)
    · replace hf := x_t hc hf
      refine lv_iload hx hb d_MaskEdgesModel_hasCome_165 (lv_at hl 0 rfl) ?_
      exact hL167 v1 v3 v5 v6 s0 s0 ST _ _ hP hS ls (lv_sub hl [1, 2, 3, 4, 5, 0] rfl) hf
    · replace hf := x_f hc hf
      refine lv_iload hx hb d_MaskEdgesModel_hasCome_158 (lv_at hl 4 rfl) ?_
      refine lv_iconst (v := (1 : Int32)) hx hb d_MaskEdgesModel_hasCome_160 (by decide) ?_
      refine lv_iadd hx hb d_MaskEdgesModel_hasCome_161 ?_
      refine lv_goto (tgt := 167) hx hb d_MaskEdgesModel_hasCome_162 (by decide) ?_
      exact hL167 v1 v3 v5 v6 s0 (v5 + (1 : Int32)) ST _ _ hP hS ls (lv_sub hl [1, 2, 3, 4, 5, 0] rfl) hf
  have hL85 : ∀ (v1 : Int32) (v2 : Int32) (v3 : Int32) (v5 : Int32) (s0 : Int32) (ST : ySt), ∀ (H : Heap) (locs : List Loc), va_P X.1 vwCl (wY X ad ST) H → va_S (yA ad) s.heap H locs → ∀ (ls : Array Slot), lv_has ls 12 [(0, .ref (ad 0)), (1, .int v1), (2, .int v2), (3, .int v3), (5, .int v5)] → f_MaskEdgesModel_hasCome_85 v1 v2 v3 v5 s0 ST = some res → W p l e (headSpec (Cond.code y_MaskEdgesModel_hasCome prog_8_method_37_code 12 (some .boolean) :: xT) ({ frames := 5, cells := 0, slots := 0, locals := 126 } : Room)).room s m args below meth c H locs 0 0 Q (F0 m 85 ls [.int s0]) := by
    intro v1 v2 v3 v5 s0 ST H locs hP hS ls hl hf
    unfold f_MaskEdgesModel_hasCome_85 at hf
    refine lv_istore (lv' := [(6, .int s0), (0, .ref (ad 0)), (1, .int v1), (2, .int v2), (3, .int v3), (5, .int v5)]) hx hb d_MaskEdgesModel_hasCome_85 hl (by decide) rfl (fun ls hl => ?_)
    refine lv_iload hx hb d_MaskEdgesModel_hasCome_87 (lv_at hl 0 rfl) ?_
    refine lv_iload hx hb d_MaskEdgesModel_hasCome_89 (lv_at hl 5 rfl) ?_
    refine lv_isub hx hb d_MaskEdgesModel_hasCome_91 ?_
    refine lv_bipush (v := (6 : Int32)) hx hb d_MaskEdgesModel_hasCome_92 (by decide) ?_
    refine lv_icmp_lt (tgt := 115) hx hb d_MaskEdgesModel_hasCome_94 (by decide) (fun hc => ?_) (fun hc => ?_)
    · replace hf := x_t hc hf
      refine lv_iconst (v := (0 : Int32)) hx hb d_MaskEdgesModel_hasCome_115 (by decide) ?_
      replace hf := x_s hf
      subst hf
      subst hQ
      exact W.zret (v := (0 : Int32)) hx hb hr (xz_n (by decide)) (fun t ht hW => ⟨⟨rfl, by rw [ht]; exact hP⟩, hS.F ht⟩) hS.2.2 d_MaskEdgesModel_hasCome_116
    · replace hf := x_f hc hf
      refine lv_aload_n hx hb d_MaskEdgesModel_hasCome_97 rfl (lv_at hl 1 rfl) ?_
      refine va_get (D := X.1) (ci := 6) (v := .ref (ad 13)) (C := "MaskEdgesModel") (T := F_MaskEdgesModel) (N := 28) hx hb ht in_MaskEdgesModel hown hK hP 0 yg0 rfl 16 (by decide) (ht _ xw_463) (fun _ h9 => h9) rfl d_MaskEdgesModel_hasCome_98 ?_
      refine lv_iload_n hx hb d_MaskEdgesModel_hasCome_101 rfl (lv_at hl 2 rfl) ?_
      obtain ⟨g102, hf⟩ := x_g hf
      refine va_iald hx hb hK hP 13 0 yg13 rfl (xin_in g102) d_MaskEdgesModel_hasCome_102 ?_
      refine lv_if_eq (tgt := 115) hx hb d_MaskEdgesModel_hasCome_103 (by decide) (fun hc => ?_) (fun hc => ?_)
      · replace hf := x_t hc hf
        refine lv_iconst (v := (0 : Int32)) hx hb d_MaskEdgesModel_hasCome_115 (by decide) ?_
        replace hf := x_s hf
        subst hf
        subst hQ
        exact W.zret (v := (0 : Int32)) hx hb hr (xz_n (by decide)) (fun t ht hW => ⟨⟨rfl, by rw [ht]; exact hP⟩, hS.F ht⟩) hS.2.2 d_MaskEdgesModel_hasCome_116
      · replace hf := x_f hc hf
        refine lv_aload_n hx hb d_MaskEdgesModel_hasCome_106 rfl (lv_at hl 1 rfl) ?_
        refine va_get (D := X.1) (ci := 6) (v := .int (Y_bars ST)) (C := "MaskEdgesModel") (T := F_MaskEdgesModel) (N := 28) hx hb ht in_MaskEdgesModel hown hK hP 0 yg0 rfl 19 (by decide) (ht _ xw_466) (fun _ h9 => h9) rfl d_MaskEdgesModel_hasCome_107 ?_
        refine lv_bipush (v := (24 : Int32)) hx hb d_MaskEdgesModel_hasCome_110 (by decide) ?_
        refine lv_icmp_ne (tgt := 117) hx hb d_MaskEdgesModel_hasCome_112 (by decide) (fun hc => ?_) (fun hc => ?_)
        · replace hf := x_f hc hf
          refine lv_aload_n hx hb d_MaskEdgesModel_hasCome_117 rfl (lv_at hl 1 rfl) ?_
          refine va_get (D := X.1) (ci := 6) (v := .ref (ad 13)) (C := "MaskEdgesModel") (T := F_MaskEdgesModel) (N := 28) hx hb ht in_MaskEdgesModel hown hK hP 0 yg0 rfl 16 (by decide) (ht _ xw_463) (fun _ h9 => h9) rfl d_MaskEdgesModel_hasCome_118 ?_
          refine lv_iload_n hx hb d_MaskEdgesModel_hasCome_121 rfl (lv_at hl 2 rfl) ?_
          obtain ⟨g122, hf⟩ := x_g hf
          refine va_iald hx hb hK hP 13 0 yg13 rfl (xin_in g122) d_MaskEdgesModel_hasCome_122 ?_
          refine lv_if_le (tgt := 137) hx hb d_MaskEdgesModel_hasCome_123 (by decide) (fun hc => ?_) (fun hc => ?_)
          · replace hf := x_t hc hf
            refine lv_aload_n hx hb d_MaskEdgesModel_hasCome_137 rfl (lv_at hl 1 rfl) ?_
            refine va_get (D := X.1) (ci := 6) (v := .ref (ad 7)) (C := "MaskEdgesModel") (T := F_MaskEdgesModel) (N := 28) hx hb ht in_MaskEdgesModel hown hK hP 0 yg0 rfl 10 (by decide) (ht _ xw_457) (fun _ h9 => h9) rfl d_MaskEdgesModel_hasCome_138 ?_
            refine lv_iload_n hx hb d_MaskEdgesModel_hasCome_141 rfl (lv_at hl 2 rfl) ?_
            obtain ⟨g142, hf⟩ := x_g hf
            refine va_iald hx hb hK hP 7 0 yg7 rfl (xin_in g142) d_MaskEdgesModel_hasCome_142 ?_
            refine lv_iload_n hx hb d_MaskEdgesModel_hasCome_143 rfl (lv_at hl 3 rfl) ?_
            refine lv_isub hx hb d_MaskEdgesModel_hasCome_144 ?_
            refine lv_iload_n hx hb d_MaskEdgesModel_hasCome_145 rfl (lv_at hl 4 rfl) ?_
            refine lv_isub hx hb d_MaskEdgesModel_hasCome_146 ?_
            exact hL147 v1 v3 v5 s0 (((Y_across ST v1.toNatClampNeg) - v2) - v3) ST _ _ hP hS ls (lv_sub hl [1, 2, 4, 5, 0] rfl) hf
          · replace hf := x_f hc hf
            refine lv_aload_n hx hb d_MaskEdgesModel_hasCome_126 rfl (lv_at hl 1 rfl) ?_
            refine va_get (D := X.1) (ci := 6) (v := .ref (ad 7)) (C := "MaskEdgesModel") (T := F_MaskEdgesModel) (N := 28) hx hb ht in_MaskEdgesModel hown hK hP 0 yg0 rfl 10 (by decide) (ht _ xw_457) (fun _ h9 => h9) rfl d_MaskEdgesModel_hasCome_127 ?_
            refine lv_iload_n hx hb d_MaskEdgesModel_hasCome_130 rfl (lv_at hl 2 rfl) ?_
            obtain ⟨g131, hf⟩ := x_g hf
            refine va_iald hx hb hK hP 7 0 yg7 rfl (xin_in g131) d_MaskEdgesModel_hasCome_131 ?_
            refine lv_iload_n hx hb d_MaskEdgesModel_hasCome_132 rfl (lv_at hl 3 rfl) ?_
            refine lv_iadd hx hb d_MaskEdgesModel_hasCome_133 ?_
            refine lv_goto (tgt := 147) hx hb d_MaskEdgesModel_hasCome_134 (by decide) ?_
            exact hL147 v1 v3 v5 s0 ((Y_across ST v1.toNatClampNeg) + v2) ST _ _ hP hS ls (lv_sub hl [1, 2, 4, 5, 0] rfl) hf
        · replace hf := x_t hc hf
          refine lv_iconst (v := (0 : Int32)) hx hb d_MaskEdgesModel_hasCome_115 (by decide) ?_
          replace hf := x_s hf
          subst hf
          subst hQ
          exact W.zret (v := (0 : Int32)) hx hb hr (xz_n (by decide)) (fun t ht hW => ⟨⟨rfl, by rw [ht]; exact hP⟩, hS.F ht⟩) hS.2.2 d_MaskEdgesModel_hasCome_116
  have hL51 : ∀ (v1 : Int32) (v2 : Int32) (v3 : Int32) (v4 : Int32) (s0 : Int32) (ST : ySt), ∀ (H : Heap) (locs : List Loc), va_P X.1 vwCl (wY X ad ST) H → va_S (yA ad) s.heap H locs → ∀ (ls : Array Slot), lv_has ls 12 [(0, .ref (ad 0)), (1, .int v1), (2, .int v2), (3, .int v3), (4, .int v4)] → f_MaskEdgesModel_hasCome_51 v1 v2 v3 v4 s0 ST = some res → W p l e (headSpec (Cond.code y_MaskEdgesModel_hasCome prog_8_method_37_code 12 (some .boolean) :: xT) ({ frames := 5, cells := 0, slots := 0, locals := 126 } : Room)).room s m args below meth c H locs 0 0 Q (F0 m 51 ls [.int s0]) := by
    intro v1 v2 v3 v4 s0 ST H locs hP hS ls hl hf
    unfold f_MaskEdgesModel_hasCome_51 at hf
    refine lv_istore (lv' := [(5, .int s0), (0, .ref (ad 0)), (1, .int v1), (2, .int v2), (3, .int v3), (4, .int v4)]) hx hb d_MaskEdgesModel_hasCome_51 hl (by decide) rfl (fun ls hl => ?_)
    refine lv_aload_n hx hb d_MaskEdgesModel_hasCome_53 rfl (lv_at hl 1 rfl) ?_
    refine va_get (D := X.1) (ci := 6) (v := .ref (ad 9)) (C := "MaskEdgesModel") (T := F_MaskEdgesModel) (N := 28) hx hb ht in_MaskEdgesModel hown hK hP 0 yg0 rfl 12 (by decide) (ht _ xw_459) (fun _ h9 => h9) rfl d_MaskEdgesModel_hasCome_54 ?_
    refine lv_iload_n hx hb d_MaskEdgesModel_hasCome_57 rfl (lv_at hl 2 rfl) ?_
    obtain ⟨g58, hf⟩ := x_g hf
    refine va_iald hx hb hK hP 9 0 yg9 rfl (xin_in g58) d_MaskEdgesModel_hasCome_58 ?_
    refine lv_aload_n hx hb d_MaskEdgesModel_hasCome_59 rfl (lv_at hl 1 rfl) ?_
    refine va_get (D := X.1) (ci := 6) (v := .ref (ad 9)) (C := "MaskEdgesModel") (T := F_MaskEdgesModel) (N := 28) hx hb ht in_MaskEdgesModel hown hK hP 0 yg0 rfl 12 (by decide) (ht _ xw_459) (fun _ h9 => h9) rfl d_MaskEdgesModel_hasCome_60 ?_
    refine lv_iload hx hb d_MaskEdgesModel_hasCome_63 (lv_at hl 5 rfl) ?_
    obtain ⟨g65, hf⟩ := x_g hf
    refine va_iald hx hb hK hP 9 0 yg9 rfl (xin_in g65) d_MaskEdgesModel_hasCome_65 ?_
    refine lv_icmp_le (tgt := 78) hx hb d_MaskEdgesModel_hasCome_66 (by decide) (fun hc => ?_) (fun hc => ?_)
    · replace hf := x_t hc hf
      refine lv_aload_n hx hb d_MaskEdgesModel_hasCome_78 rfl (lv_at hl 1 rfl) ?_
      refine va_get (D := X.1) (ci := 6) (v := .ref (ad 9)) (C := "MaskEdgesModel") (T := F_MaskEdgesModel) (N := 28) hx hb ht in_MaskEdgesModel hown hK hP 0 yg0 rfl 12 (by decide) (ht _ xw_459) (fun _ h9 => h9) rfl d_MaskEdgesModel_hasCome_79 ?_
      refine lv_iload hx hb d_MaskEdgesModel_hasCome_82 (lv_at hl 5 rfl) ?_
      obtain ⟨g84, hf⟩ := x_g hf
      refine va_iald hx hb hK hP 9 0 yg9 rfl (xin_in g84) d_MaskEdgesModel_hasCome_84 ?_
      exact hL85 v1 v2 v3 s0 (Y_to ST v4.toNatClampNeg) ST _ _ hP hS ls (lv_sub hl [1, 2, 3, 4, 0] rfl) hf
    · replace hf := x_f hc hf
      refine lv_aload_n hx hb d_MaskEdgesModel_hasCome_69 rfl (lv_at hl 1 rfl) ?_
      refine va_get (D := X.1) (ci := 6) (v := .ref (ad 9)) (C := "MaskEdgesModel") (T := F_MaskEdgesModel) (N := 28) hx hb ht in_MaskEdgesModel hown hK hP 0 yg0 rfl 12 (by decide) (ht _ xw_459) (fun _ h9 => h9) rfl d_MaskEdgesModel_hasCome_70 ?_
      refine lv_iload_n hx hb d_MaskEdgesModel_hasCome_73 rfl (lv_at hl 2 rfl) ?_
      obtain ⟨g74, hf⟩ := x_g hf
      refine va_iald hx hb hK hP 9 0 yg9 rfl (xin_in g74) d_MaskEdgesModel_hasCome_74 ?_
      refine lv_goto (tgt := 85) hx hb d_MaskEdgesModel_hasCome_75 (by decide) ?_
      exact hL85 v1 v2 v3 s0 (Y_to ST v1.toNatClampNeg) ST _ _ hP hS ls (lv_sub hl [1, 2, 3, 4, 0] rfl) hf
  have hL19 : ∀ (v1 : Int32) (v2 : Int32) (v3 : Int32) (v4 : Int32) (ST : ySt), ∀ (H : Heap) (locs : List Loc), va_P X.1 vwCl (wY X ad ST) H → va_S (yA ad) s.heap H locs → ∀ (ls : Array Slot), lv_has ls 12 [(0, .ref (ad 0)), (1, .int v1), (2, .int v2), (3, .int v3), (4, .int v4)] → f_MaskEdgesModel_hasCome_19 v1 v2 v3 v4 ST = some res → W p l e (headSpec (Cond.code y_MaskEdgesModel_hasCome prog_8_method_37_code 12 (some .boolean) :: xT) ({ frames := 5, cells := 0, slots := 0, locals := 126 } : Room)).room s m args below meth c H locs 0 0 Q (F0 m 19 ls []) := by
    intro v1 v2 v3 v4 ST H locs hP hS ls hl hf
    unfold f_MaskEdgesModel_hasCome_19 at hf
    refine lv_aload_n hx hb d_MaskEdgesModel_hasCome_19 rfl (lv_at hl 0 rfl) ?_
    refine va_get (D := X.1) (ci := 6) (v := .ref (ad 8)) (C := "MaskEdgesModel") (T := F_MaskEdgesModel) (N := 28) hx hb ht in_MaskEdgesModel hown hK hP 0 yg0 rfl 11 (by decide) (ht _ xw_458) (fun _ h9 => h9) rfl d_MaskEdgesModel_hasCome_20 ?_
    refine lv_iload_n hx hb d_MaskEdgesModel_hasCome_23 rfl (lv_at hl 1 rfl) ?_
    obtain ⟨g24, hf⟩ := x_g hf
    refine va_iald hx hb hK hP 8 0 yg8 rfl (xin_in g24) d_MaskEdgesModel_hasCome_24 ?_
    refine lv_aload_n hx hb d_MaskEdgesModel_hasCome_25 rfl (lv_at hl 0 rfl) ?_
    refine va_get (D := X.1) (ci := 6) (v := .ref (ad 8)) (C := "MaskEdgesModel") (T := F_MaskEdgesModel) (N := 28) hx hb ht in_MaskEdgesModel hown hK hP 0 yg0 rfl 11 (by decide) (ht _ xw_458) (fun _ h9 => h9) rfl d_MaskEdgesModel_hasCome_26 ?_
    refine lv_iload hx hb d_MaskEdgesModel_hasCome_29 (lv_at hl 4 rfl) ?_
    obtain ⟨g31, hf⟩ := x_g hf
    refine va_iald hx hb hK hP 8 0 yg8 rfl (xin_in g31) d_MaskEdgesModel_hasCome_31 ?_
    refine lv_icmp_ge (tgt := 44) hx hb d_MaskEdgesModel_hasCome_32 (by decide) (fun hc => ?_) (fun hc => ?_)
    · replace hf := x_t hc hf
      refine lv_aload_n hx hb d_MaskEdgesModel_hasCome_44 rfl (lv_at hl 0 rfl) ?_
      refine va_get (D := X.1) (ci := 6) (v := .ref (ad 8)) (C := "MaskEdgesModel") (T := F_MaskEdgesModel) (N := 28) hx hb ht in_MaskEdgesModel hown hK hP 0 yg0 rfl 11 (by decide) (ht _ xw_458) (fun _ h9 => h9) rfl d_MaskEdgesModel_hasCome_45 ?_
      refine lv_iload hx hb d_MaskEdgesModel_hasCome_48 (lv_at hl 4 rfl) ?_
      obtain ⟨g50, hf⟩ := x_g hf
      refine va_iald hx hb hK hP 8 0 yg8 rfl (xin_in g50) d_MaskEdgesModel_hasCome_50 ?_
      exact hL51 v1 v2 v3 v4 (Y_from ST v4.toNatClampNeg) ST _ _ hP hS ls (lv_sub hl [0, 1, 2, 3, 4] rfl) hf
    · replace hf := x_f hc hf
      refine lv_aload_n hx hb d_MaskEdgesModel_hasCome_35 rfl (lv_at hl 0 rfl) ?_
      refine va_get (D := X.1) (ci := 6) (v := .ref (ad 8)) (C := "MaskEdgesModel") (T := F_MaskEdgesModel) (N := 28) hx hb ht in_MaskEdgesModel hown hK hP 0 yg0 rfl 11 (by decide) (ht _ xw_458) (fun _ h9 => h9) rfl d_MaskEdgesModel_hasCome_36 ?_
      refine lv_iload_n hx hb d_MaskEdgesModel_hasCome_39 rfl (lv_at hl 1 rfl) ?_
      obtain ⟨g40, hf⟩ := x_g hf
      refine va_iald hx hb hK hP 8 0 yg8 rfl (xin_in g40) d_MaskEdgesModel_hasCome_40 ?_
      refine lv_goto (tgt := 51) hx hb d_MaskEdgesModel_hasCome_41 (by decide) ?_
      exact hL51 v1 v2 v3 v4 (Y_from ST v1.toNatClampNeg) ST _ _ hP hS ls (lv_sub hl [0, 1, 2, 3, 4] rfl) hf
  unfold f_MaskEdgesModel_hasCome at hf
  refine lv_iload_n hx hb d_MaskEdgesModel_hasCome_0 rfl (lv_at hl 1 rfl) ?_
  refine lv_istore (lv' := [(4, .int v1), (0, .ref (ad 0)), (1, .int v1), (2, .int v2), (3, .int v3)]) hx hb d_MaskEdgesModel_hasCome_1 hl (by decide) rfl (fun ls hl => ?_)
  exact (hL3 _ hL19 100000) v1 v2 v3 v1 ST _ _ hP hS ls (lv_sub hl [1, 2, 3, 4, 0] rfl) hf
def f_MaskEdgesModel_helper_79 (r42 : Int32 → Int32 → Int32 → Int32 → ySt → Option (Int32 × ySt)) (v1 : Int32) (v2 : Int32) (v4 : Int32) (s0 : Int32) (ST : ySt) : Option (Int32 × ySt) :=
  r42 v1 v2 s0 (v4 + (1 : Int32)) ST
def f_MaskEdgesModel_helper_78 (r42 : Int32 → Int32 → Int32 → Int32 → ySt → Option (Int32 × ySt)) (v1 : Int32) (v2 : Int32) (v3 : Int32) (v4 : Int32) (ST : ySt) : Option (Int32 × ySt) :=
  (f_MaskEdgesModel_helper_79 r42) v1 v2 v4 v3 ST
def f_MaskEdgesModel_helper_42 (r42 : Int32 → Int32 → Int32 → Int32 → ySt → Option (Int32 × ySt)) (v1 : Int32) (v2 : Int32) (v3 : Int32) (v4 : Int32) (ST : ySt) : Option (Int32 × ySt) :=
  if (Y_pieces ST) ≤ v4 then
  some (v3, ST)
else
  if xin v4 120 = true then
    if (Y_isFirst ST v4.toNatClampNeg) = 0 then
      (f_MaskEdgesModel_helper_78 r42) v1 v2 v3 v4 ST
    else
      (f_MaskEdgesModel_hasCome v4 v1 v2 ST).bind fun c66 =>
        if c66.1 = 0 then
        (f_MaskEdgesModel_helper_78 r42) v1 v2 v3 v4 c66.2
      else
        (f_MaskEdgesModel_helper_79 r42) v1 v2 v4 (v3 + (1 : Int32)) c66.2
  else none
def f_MaskEdgesModel_helper (v1 : Int32) (v2 : Int32) (ST : ySt) : Option (Int32 × ySt) :=
  (f_MaskEdgesModel_isBetween v1.toInt64 (1 : Int64) (8 : Int64)).bind fun c6 =>
  if c6 = 0 then
  some ((-2 : Int32), ST)
else
  (f_MaskEdgesModel_isBetween v2.toInt64 (1 : Int64) (4 : Int64)).bind fun c18 =>
    if c18 = 0 then
    some ((-2 : Int32), ST)
  else
    if (Y_pieces ST) = 0 then
      some ((-3 : Int32), ST)
    else
      (xloop (fun r => f_MaskEdgesModel_helper_42 r) (fun _ _ _ _ _ => none) 100000) v1 v2 (0 : Int32) (0 : Int32) ST
set_option maxHeartbeats 4000000 in
set_option maxRecDepth 100000 in
theorem c_MaskEdgesModel_helper (l : Launch) (X : xG) {H : Heap} (ad : Nat → Nat) (ST : ySt) (v1 : Int32) (v2 : Int32) {res : Int32 × ySt} (hP : va_P X.1 vwCl (wY X ad ST) H) (hA : okB ad) (hf : f_MaskEdgesModel_helper v1 v2 ST = some res) : xM l y_MaskEdgesModel_helper (Cond.code y_MaskEdgesModel_helper prog_8_method_38_code 5 (some .int) :: xT) ({ frames := 6, cells := 0, slots := 0, locals := 157 } : Room) (xK X) [.ref (ad 0), .int v1, .int v2] H (yA ad) (some (.int res.1)) (fun H1 => va_P X.1 vwCl (wY X ad res.2) H1) := by
  refine Met.ofW (cc := prog_8_method_38_code) (maxL := 5) (ret := (some .int)) (by decide) rfl ?_
  intro p e s m args below meth c s₁ B hml hv
  obtain ⟨ha, hH, hKK⟩ := hv
  subst hH
  have hx := B.exec
  have hb := B.bytes
  have hr := B.returns
  have ht : ∀ w ∈ xT, w.before args s = true := fun w h => atoms_spec (ws := (Cond.code y_MaskEdgesModel_helper prog_8_method_38_code 5 (some .int) :: xT)) B.pre w (List.mem_cons_of_mem _ h)
  have hown : s.vm.findClass "MaskEdgesModel" = some m.cls := findClass_of_methodNamed B.named
  have hlocks := B.notSynchronized
  have hK := hKK.1
  rw [show entryFrame m args 5 = entryFrame m ([.ref (ad 0), .int v1, .int v2] : List Value).toArray 5 from by rw [ha]]
  clear ha
  have hS : va_S (yA ad) s.heap s.heap [] := va_S.rf
  have hl := lv_entry ([.ref (ad 0), .int v1, .int v2]) (n := 5) (Nat.le_of_ble_eq_true rfl)
  rw [lg_entry_eq]
  generalize (lg_sl ([.ref (ad 0), .int v1, .int v2]) ++ List.replicate (5 - (lg_sl ([.ref (ad 0), .int v1, .int v2])).length) Slot.unset).toArray = ls at hl ⊢
  replace hl : lv_has ls 5 [(0, .ref (ad 0)), (1, .int v1), (2, .int v2)] := hl
  refine x_Q (fun Q hQ => ?_)
  have hL79 : ∀ (r42 : Int32 → Int32 → Int32 → Int32 → ySt → Option (Int32 × ySt)) (hr42 : ∀ (v1 : Int32) (v2 : Int32) (v3 : Int32) (v4 : Int32) (ST : ySt), ∀ (H : Heap) (locs : List Loc), va_P X.1 vwCl (wY X ad ST) H → va_S (yA ad) s.heap H locs → ∀ (ls : Array Slot), lv_has ls 5 [(0, .ref (ad 0)), (1, .int v1), (2, .int v2), (3, .int v3), (4, .int v4)] → r42 v1 v2 v3 v4 ST = some res → W p l e (headSpec (Cond.code y_MaskEdgesModel_helper prog_8_method_38_code 5 (some .int) :: xT) ({ frames := 6, cells := 0, slots := 0, locals := 157 } : Room)).room s m args below meth c H locs 0 0 Q (F0 m 42 ls [])), ∀ (v1 : Int32) (v2 : Int32) (v4 : Int32) (s0 : Int32) (ST : ySt), ∀ (H : Heap) (locs : List Loc), va_P X.1 vwCl (wY X ad ST) H → va_S (yA ad) s.heap H locs → ∀ (ls : Array Slot), lv_has ls 5 [(0, .ref (ad 0)), (1, .int v1), (2, .int v2), (4, .int v4)] → f_MaskEdgesModel_helper_79 r42 v1 v2 v4 s0 ST = some res → W p l e (headSpec (Cond.code y_MaskEdgesModel_helper prog_8_method_38_code 5 (some .int) :: xT) ({ frames := 6, cells := 0, slots := 0, locals := 157 } : Room)).room s m args below meth c H locs 0 0 Q (F0 m 79 ls [.int s0]) := by
    intro r42 hr42 v1 v2 v4 s0 ST H locs hP hS ls hl hf
    unfold f_MaskEdgesModel_helper_79 at hf
    refine lv_istore_n (lv' := [(3, .int s0), (0, .ref (ad 0)), (1, .int v1), (2, .int v2), (4, .int v4)]) hx hb d_MaskEdgesModel_helper_79 rfl hl (by decide) rfl (fun ls hl => ?_)
    refine lv_iinc (v := (v4 + (1 : Int32))) (lv' := [(4, .int (v4 + (1 : Int32))), (3, .int s0), (0, .ref (ad 0)), (1, .int v1), (2, .int v2)]) hx hb d_MaskEdgesModel_helper_80 hl (k := 4) rfl rfl (by decide) rfl (fun ls hl => ?_)
    refine lv_goto (tgt := 42) hx hb d_MaskEdgesModel_helper_83 (by decide) ?_
    exact hr42 v1 v2 s0 (v4 + (1 : Int32)) ST _ _ hP hS ls (lv_sub hl [2, 3, 4, 1, 0] rfl) hf
  have hL78 : ∀ (r42 : Int32 → Int32 → Int32 → Int32 → ySt → Option (Int32 × ySt)) (hr42 : ∀ (v1 : Int32) (v2 : Int32) (v3 : Int32) (v4 : Int32) (ST : ySt), ∀ (H : Heap) (locs : List Loc), va_P X.1 vwCl (wY X ad ST) H → va_S (yA ad) s.heap H locs → ∀ (ls : Array Slot), lv_has ls 5 [(0, .ref (ad 0)), (1, .int v1), (2, .int v2), (3, .int v3), (4, .int v4)] → r42 v1 v2 v3 v4 ST = some res → W p l e (headSpec (Cond.code y_MaskEdgesModel_helper prog_8_method_38_code 5 (some .int) :: xT) ({ frames := 6, cells := 0, slots := 0, locals := 157 } : Room)).room s m args below meth c H locs 0 0 Q (F0 m 42 ls [])), ∀ (v1 : Int32) (v2 : Int32) (v3 : Int32) (v4 : Int32) (ST : ySt), ∀ (H : Heap) (locs : List Loc), va_P X.1 vwCl (wY X ad ST) H → va_S (yA ad) s.heap H locs → ∀ (ls : Array Slot), lv_has ls 5 [(0, .ref (ad 0)), (1, .int v1), (2, .int v2), (3, .int v3), (4, .int v4)] → f_MaskEdgesModel_helper_78 r42 v1 v2 v3 v4 ST = some res → W p l e (headSpec (Cond.code y_MaskEdgesModel_helper prog_8_method_38_code 5 (some .int) :: xT) ({ frames := 6, cells := 0, slots := 0, locals := 157 } : Room)).room s m args below meth c H locs 0 0 Q (F0 m 78 ls []) := by
    intro r42 hr42 v1 v2 v3 v4 ST H locs hP hS ls hl hf
    unfold f_MaskEdgesModel_helper_78 at hf
    refine lv_iload_n hx hb d_MaskEdgesModel_helper_78 rfl (lv_at hl 3 rfl) ?_
    exact (hL79 _ hr42) v1 v2 v4 v3 ST _ _ hP hS ls (lv_sub hl [0, 1, 2, 4] rfl) hf
  have hL42 : ∀ (n : Nat), ∀ (v1 : Int32) (v2 : Int32) (v3 : Int32) (v4 : Int32) (ST : ySt), ∀ (H : Heap) (locs : List Loc), va_P X.1 vwCl (wY X ad ST) H → va_S (yA ad) s.heap H locs → ∀ (ls : Array Slot), lv_has ls 5 [(0, .ref (ad 0)), (1, .int v1), (2, .int v2), (3, .int v3), (4, .int v4)] → (xloop (fun r => f_MaskEdgesModel_helper_42 r) (fun _ _ _ _ _ => none) n) v1 v2 v3 v4 ST = some res → W p l e (headSpec (Cond.code y_MaskEdgesModel_helper prog_8_method_38_code 5 (some .int) :: xT) ({ frames := 6, cells := 0, slots := 0, locals := 157 } : Room)).room s m args below meth c H locs 0 0 Q (F0 m 42 ls []) := by
    intro n
    induction n with
    | zero => intro v1 v2 v3 v4 ST H locs hP hS ls hl hf; cases hf
    | succ n ih =>
      intro v1 v2 v3 v4 ST H locs hP hS ls hl hf
      replace hf : f_MaskEdgesModel_helper_42 (xloop (fun r => f_MaskEdgesModel_helper_42 r) (fun _ _ _ _ _ => none) n) v1 v2 v3 v4 ST = some res := hf
      have hr42 := ih
      clear ih
      unfold f_MaskEdgesModel_helper_42 at hf
      refine lv_iload hx hb d_MaskEdgesModel_helper_42 (lv_at hl 4 rfl) ?_
      refine lv_aload_n hx hb d_MaskEdgesModel_helper_44 rfl (lv_at hl 0 rfl) ?_
      refine va_get (D := X.1) (ci := 6) (v := .int (Y_pieces ST)) (C := "MaskEdgesModel") (T := F_MaskEdgesModel) (N := 28) hx hb ht in_MaskEdgesModel hown hK hP 0 yg0 rfl 9 (by decide) (ht _ xw_456) (fun _ h9 => h9) rfl d_MaskEdgesModel_helper_45 ?_
      refine lv_icmp_ge (tgt := 86) hx hb d_MaskEdgesModel_helper_48 (by decide) (fun hc => ?_) (fun hc => ?_)
      · replace hf := x_t hc hf
        refine lv_iload_n hx hb d_MaskEdgesModel_helper_86 rfl (lv_at hl 3 rfl) ?_
        replace hf := x_s hf
        subst hf
        subst hQ
        exact W.iret (v := v3) hx hb hr (fun t ht hW => ⟨⟨rfl, by rw [ht]; exact hP⟩, hS.F ht⟩) hS.2.2 d_MaskEdgesModel_helper_87
      · replace hf := x_f hc hf
        refine lv_aload_n hx hb d_MaskEdgesModel_helper_51 rfl (lv_at hl 0 rfl) ?_
        refine va_get (D := X.1) (ci := 6) (v := .ref (ad 11)) (C := "MaskEdgesModel") (T := F_MaskEdgesModel) (N := 28) hx hb ht in_MaskEdgesModel hown hK hP 0 yg0 rfl 14 (by decide) (ht _ xw_461) (fun _ h9 => h9) rfl d_MaskEdgesModel_helper_52 ?_
        refine lv_iload hx hb d_MaskEdgesModel_helper_55 (lv_at hl 4 rfl) ?_
        obtain ⟨g57, hf⟩ := x_g hf
        refine va_zald hx hb hK hP 11 5 yg11 rfl (xin_in g57) d_MaskEdgesModel_helper_57 ?_
        refine lv_if_eq (tgt := 78) hx hb d_MaskEdgesModel_helper_58 (by decide) (fun hc => ?_) (fun hc => ?_)
        · replace hf := x_t hc hf
          exact (hL78 _ hr42) v1 v2 v3 v4 ST _ _ hP hS ls (lv_sub hl [0, 1, 2, 3, 4] rfl) hf
        · replace hf := x_f hc hf
          refine lv_aload_n hx hb d_MaskEdgesModel_helper_61 rfl (lv_at hl 0 rfl) ?_
          refine lv_iload hx hb d_MaskEdgesModel_helper_62 (lv_at hl 4 rfl) ?_
          refine lv_iload_n hx hb d_MaskEdgesModel_helper_64 rfl (lv_at hl 1 rfl) ?_
          refine lv_iload_n hx hb d_MaskEdgesModel_helper_65 rfl (lv_at hl 2 rfl) ?_
          obtain ⟨c66, e66, hf⟩ := x_b hf
          refine xc (va_runV (As := [.int v4, .int v1, .int v2]) (rest := []) ⟨hx, hb, hml, hown, ht⟩ (c_MaskEdgesModel_hasCome l X ad ST v4 v1 v2 hP hA e66) (cwV 3 ht (xgV xw_631 xw_632 xw_34 xw_43 xw_633) rfl rfl rfl (by decide +kernel) ⟨Nat.le_of_ble_eq_true rfl, Nat.le_of_ble_eq_true rfl⟩) (xPV hKK (va_recv hK hP (ci := 6) (q0 := 0) rfl yg0)) rfl rfl hl.1 rfl (lv_room (Nat.le_of_ble_eq_true rfl)) d_MaskEdgesModel_helper_66 ⟨Nat.zero_le _, Nat.zero_le _⟩) (fun H1 L hq hz => ?_)
          replace hS := xS_call hS hz (fun _ h => h)
          replace hP : va_P X.1 vwCl (wY X ad c66.2) H1 := hq
          clear hq hz
          refine W.eq (g2 := F0 m 69 ls [.int c66.1]) rfl ?_
          refine lv_if_eq (tgt := 78) hx hb d_MaskEdgesModel_helper_69 (by decide) (fun hc => ?_) (fun hc => ?_)
          · replace hf := x_t hc hf
            exact (hL78 _ hr42) v1 v2 v3 v4 c66.2 _ _ hP hS ls (lv_sub hl [0, 1, 2, 3, 4] rfl) hf
          · replace hf := x_f hc hf
            refine lv_iload_n hx hb d_MaskEdgesModel_helper_72 rfl (lv_at hl 3 rfl) ?_
            refine lv_iconst (v := (1 : Int32)) hx hb d_MaskEdgesModel_helper_73 (by decide) ?_
            refine lv_iadd hx hb d_MaskEdgesModel_helper_74 ?_
            refine lv_goto (tgt := 79) hx hb d_MaskEdgesModel_helper_75 (by decide) ?_
            exact (hL79 _ hr42) v1 v2 v4 (v3 + (1 : Int32)) c66.2 _ _ hP hS ls (lv_sub hl [0, 1, 2, 4] rfl) hf
  unfold f_MaskEdgesModel_helper at hf
  refine lv_iload_n hx hb d_MaskEdgesModel_helper_0 rfl (lv_at hl 1 rfl) ?_
  refine lv_i2l hx hb d_MaskEdgesModel_helper_1 rfl ?_
  refine lv_lconst (v := (1 : Int64)) hx hb d_MaskEdgesModel_helper_2 (by decide) ?_
  refine lv_ldc2 (v := (8 : Int64)) hx hb hown (ht _ xw_630) d_MaskEdgesModel_helper_3 ?_
  obtain ⟨c6, e6, hf⟩ := x_b hf
  refine xcR (va_runS (As := [.long v1.toInt64, .long (1 : Int64), .long (8 : Int64)]) (rest := []) ⟨hx, hb, hml, hown, ht⟩ (c_MaskEdgesModel_isBetween l X v1.toInt64 (1 : Int64) (8 : Int64) e6) (cwS 3 ht (xgS xw_512 xw_513 xw_43 xw_514) rfl rfl rfl (by decide +kernel) ⟨Nat.le_of_ble_eq_true rfl, Nat.le_of_ble_eq_true rfl⟩) (xPS hKK) rfl rfl hl.1 rfl (lv_room (Nat.le_of_ble_eq_true rfl)) d_MaskEdgesModel_helper_6 ⟨Nat.zero_le _, Nat.zero_le _⟩) ?_
  refine W.eq (g2 := F0 m 9 ls [.int c6]) rfl ?_
  refine lv_if_eq (tgt := 24) hx hb d_MaskEdgesModel_helper_9 (by decide) (fun hc => ?_) (fun hc => ?_)
  · replace hf := x_t hc hf
    refine lv_bipush (v := (-2 : Int32)) hx hb d_MaskEdgesModel_helper_24 (by decide) ?_
    replace hf := x_s hf
    subst hf
    subst hQ
    exact W.iret (v := (-2 : Int32)) hx hb hr (fun t ht hW => ⟨⟨rfl, by rw [ht]; exact hP⟩, hS.F ht⟩) hS.2.2 d_MaskEdgesModel_helper_26
  · replace hf := x_f hc hf
    refine lv_iload_n hx hb d_MaskEdgesModel_helper_12 rfl (lv_at hl 2 rfl) ?_
    refine lv_i2l hx hb d_MaskEdgesModel_helper_13 rfl ?_
    refine lv_lconst (v := (1 : Int64)) hx hb d_MaskEdgesModel_helper_14 (by decide) ?_
    refine lv_ldc2 (v := (4 : Int64)) hx hb hown (ht _ xw_605) d_MaskEdgesModel_helper_15 ?_
    obtain ⟨c18, e18, hf⟩ := x_b hf
    refine xcR (va_runS (As := [.long v2.toInt64, .long (1 : Int64), .long (4 : Int64)]) (rest := []) ⟨hx, hb, hml, hown, ht⟩ (c_MaskEdgesModel_isBetween l X v2.toInt64 (1 : Int64) (4 : Int64) e18) (cwS 3 ht (xgS xw_512 xw_513 xw_43 xw_514) rfl rfl rfl (by decide +kernel) ⟨Nat.le_of_ble_eq_true rfl, Nat.le_of_ble_eq_true rfl⟩) (xPS hKK) rfl rfl hl.1 rfl (lv_room (Nat.le_of_ble_eq_true rfl)) d_MaskEdgesModel_helper_18 ⟨Nat.zero_le _, Nat.zero_le _⟩) ?_
    refine W.eq (g2 := F0 m 21 ls [.int c18]) rfl ?_
    refine lv_if_ne (tgt := 27) hx hb d_MaskEdgesModel_helper_21 (by decide) (fun hc => ?_) (fun hc => ?_)
    · replace hf := x_f hc hf
      refine lv_aload_n hx hb d_MaskEdgesModel_helper_27 rfl (lv_at hl 0 rfl) ?_
      refine va_get (D := X.1) (ci := 6) (v := .int (Y_pieces ST)) (C := "MaskEdgesModel") (T := F_MaskEdgesModel) (N := 28) hx hb ht in_MaskEdgesModel hown hK hP 0 yg0 rfl 9 (by decide) (ht _ xw_456) (fun _ h9 => h9) rfl d_MaskEdgesModel_helper_28 ?_
      refine lv_if_ne (tgt := 37) hx hb d_MaskEdgesModel_helper_31 (by decide) (fun hc => ?_) (fun hc => ?_)
      · replace hf := x_f hc hf
        refine lv_iconst (v := (0 : Int32)) hx hb d_MaskEdgesModel_helper_37 (by decide) ?_
        refine lv_istore_n (lv' := [(3, .int (0 : Int32)), (0, .ref (ad 0)), (1, .int v1), (2, .int v2)]) hx hb d_MaskEdgesModel_helper_38 rfl hl (by decide) rfl (fun ls hl => ?_)
        refine lv_iconst (v := (0 : Int32)) hx hb d_MaskEdgesModel_helper_39 (by decide) ?_
        refine lv_istore (lv' := [(4, .int (0 : Int32)), (3, .int (0 : Int32)), (0, .ref (ad 0)), (1, .int v1), (2, .int v2)]) hx hb d_MaskEdgesModel_helper_40 hl (by decide) rfl (fun ls hl => ?_)
        exact (hL42 100000) v1 v2 (0 : Int32) (0 : Int32) ST _ _ hP hS ls (lv_sub hl [2, 3, 4, 1, 0] rfl) hf
      · replace hf := x_t hc hf
        refine lv_bipush (v := (-3 : Int32)) hx hb d_MaskEdgesModel_helper_34 (by decide) ?_
        replace hf := x_s hf
        subst hf
        subst hQ
        exact W.iret (v := (-3 : Int32)) hx hb hr (fun t ht hW => ⟨⟨rfl, by rw [ht]; exact hP⟩, hS.F ht⟩) hS.2.2 d_MaskEdgesModel_helper_36
    · replace hf := x_t hc hf
      refine lv_bipush (v := (-2 : Int32)) hx hb d_MaskEdgesModel_helper_24 (by decide) ?_
      replace hf := x_s hf
      subst hf
      subst hQ
      exact W.iret (v := (-2 : Int32)) hx hb hr (fun t ht hW => ⟨⟨rfl, by rw [ht]; exact hP⟩, hS.F ht⟩) hS.2.2 d_MaskEdgesModel_helper_26
def f_MaskEdgesModel_prints_95 (r63 : Int32 → Int32 → Int32 → Int32 → Int32 → ySt → Option (Int32 × ySt)) (v1 : Int32) (v2 : Int32) (v4 : Int32) (v5 : Int32) (s0 : Int32) (ST : ySt) : Option (Int32 × ySt) :=
  r63 v1 v2 s0 v4 (v5 + (1 : Int32)) ST
def f_MaskEdgesModel_prints_90 (r63 : Int32 → Int32 → Int32 → Int32 → Int32 → ySt → Option (Int32 × ySt)) (v1 : Int32) (v2 : Int32) (v4 : Int32) (v5 : Int32) (ST : ySt) : Option (Int32 × ySt) :=
  (f_MaskEdgesModel_prints_95 r63) v1 v2 v4 v5 (1 : Int32) ST
def f_MaskEdgesModel_prints_63 (r63 : Int32 → Int32 → Int32 → Int32 → Int32 → ySt → Option (Int32 × ySt)) (k102 : Int32 → Int32 → Int32 → Int32 → ySt → Option (Int32 × ySt)) (v1 : Int32) (v2 : Int32) (v3 : Int32) (v4 : Int32) (v5 : Int32) (ST : ySt) : Option (Int32 × ySt) :=
  if xin v1 24 = true then
  if (Y_barFarX ST v1.toNatClampNeg) < v5 then
    k102 v1 v2 v3 v4 ST
  else
    if v3 = 0 then
      (f_MaskEdgesModel_doesPrint ST v5 v4 v2).bind fun c84 =>
        if c84 = 0 then
        (f_MaskEdgesModel_prints_95 r63) v1 v2 v4 v5 (0 : Int32) ST
      else
        (f_MaskEdgesModel_prints_90 r63) v1 v2 v4 v5 ST
    else
      (f_MaskEdgesModel_prints_90 r63) v1 v2 v4 v5 ST
else none
def f_MaskEdgesModel_prints_102 (r44 : Int32 → Int32 → Int32 → Int32 → ySt → Option (Int32 × ySt)) (v1 : Int32) (v2 : Int32) (v3 : Int32) (v4 : Int32) (ST : ySt) : Option (Int32 × ySt) :=
  r44 v1 v2 v3 (v4 + (1 : Int32)) ST
def f_MaskEdgesModel_prints_44 (r44 : Int32 → Int32 → Int32 → Int32 → ySt → Option (Int32 × ySt)) (v1 : Int32) (v2 : Int32) (v3 : Int32) (v4 : Int32) (ST : ySt) : Option (Int32 × ySt) :=
  if xin v1 24 = true then
  if (Y_barFarY ST v1.toNatClampNeg) < v4 then
    if xz v3 = true then
      some (v3, ST)
    else none
  else
    if xin v1 24 = true then
      (xloop (fun r => f_MaskEdgesModel_prints_63 r (f_MaskEdgesModel_prints_102 r44)) (fun _ _ _ _ _ _ => none) 100000) v1 v2 v3 v4 (Y_barX ST v1.toNatClampNeg) ST
    else none
else none
def f_MaskEdgesModel_prints (v1 : Int32) (v2 : Int32) (ST : ySt) : Option (Int32 × ySt) :=
  (f_MaskEdgesModel_isBetween v1.toInt64 (0 : Int64) (((Y_bars ST) - (1 : Int32)).toInt64)).bind fun c10 =>
  if c10 = 0 then
  some ((0 : Int32), ST)
else
  (f_MaskEdgesModel_isBetween v2.toInt64 (1 : Int64) (1000 : Int64)).bind fun c22 =>
    if c22 = 0 then
    some ((0 : Int32), ST)
  else
    (f_MaskEdgesModel_make ST).bind fun c31 =>
      if xin v1 24 = true then
      (xloop (fun r => f_MaskEdgesModel_prints_44 r) (fun _ _ _ _ _ => none) 100000) v1 v2 (0 : Int32) (Y_barY c31 v1.toNatClampNeg) c31
    else none
set_option maxHeartbeats 4000000 in
set_option maxRecDepth 100000 in
theorem c_MaskEdgesModel_prints (l : Launch) (X : xG) {H : Heap} (ad : Nat → Nat) (ST : ySt) (v1 : Int32) (v2 : Int32) {res : Int32 × ySt} (hP : va_P X.1 vwCl (wY X ad ST) H) (hA : okB ad) (hf : f_MaskEdgesModel_prints v1 v2 ST = some res) : xM l y_MaskEdgesModel_prints (Cond.code y_MaskEdgesModel_prints prog_8_method_39_code 6 (some .boolean) :: xT) ({ frames := 5, cells := 0, slots := 0, locals := 122 } : Room) (xK X) [.ref (ad 0), .int v1, .int v2] H (yA ad) (some (.int res.1)) (fun H1 => va_P X.1 vwCl (wY X ad res.2) H1) := by
  refine Met.ofW (cc := prog_8_method_39_code) (maxL := 6) (ret := (some .boolean)) (by decide) rfl ?_
  intro p e s m args below meth c s₁ B hml hv
  obtain ⟨ha, hH, hKK⟩ := hv
  subst hH
  have hx := B.exec
  have hb := B.bytes
  have hr := B.returns
  have ht : ∀ w ∈ xT, w.before args s = true := fun w h => atoms_spec (ws := (Cond.code y_MaskEdgesModel_prints prog_8_method_39_code 6 (some .boolean) :: xT)) B.pre w (List.mem_cons_of_mem _ h)
  have hown : s.vm.findClass "MaskEdgesModel" = some m.cls := findClass_of_methodNamed B.named
  have hlocks := B.notSynchronized
  have hK := hKK.1
  rw [show entryFrame m args 6 = entryFrame m ([.ref (ad 0), .int v1, .int v2] : List Value).toArray 6 from by rw [ha]]
  clear ha
  have hS : va_S (yA ad) s.heap s.heap [] := va_S.rf
  have hl := lv_entry ([.ref (ad 0), .int v1, .int v2]) (n := 6) (Nat.le_of_ble_eq_true rfl)
  rw [lg_entry_eq]
  generalize (lg_sl ([.ref (ad 0), .int v1, .int v2]) ++ List.replicate (6 - (lg_sl ([.ref (ad 0), .int v1, .int v2])).length) Slot.unset).toArray = ls at hl ⊢
  replace hl : lv_has ls 6 [(0, .ref (ad 0)), (1, .int v1), (2, .int v2)] := hl
  refine x_Q (fun Q hQ => ?_)
  have hL95 : ∀ (r63 : Int32 → Int32 → Int32 → Int32 → Int32 → ySt → Option (Int32 × ySt)) (hr63 : ∀ (v1 : Int32) (v2 : Int32) (v3 : Int32) (v4 : Int32) (v5 : Int32) (ST : ySt), ∀ (H : Heap) (locs : List Loc), va_P X.1 vwCl (wY X ad ST) H → va_S (yA ad) s.heap H locs → ∀ (ls : Array Slot), lv_has ls 6 [(0, .ref (ad 0)), (1, .int v1), (2, .int v2), (3, .int v3), (4, .int v4), (5, .int v5)] → r63 v1 v2 v3 v4 v5 ST = some res → W p l e (headSpec (Cond.code y_MaskEdgesModel_prints prog_8_method_39_code 6 (some .boolean) :: xT) ({ frames := 5, cells := 0, slots := 0, locals := 122 } : Room)).room s m args below meth c H locs 0 0 Q (F0 m 63 ls [])), ∀ (v1 : Int32) (v2 : Int32) (v4 : Int32) (v5 : Int32) (s0 : Int32) (ST : ySt), ∀ (H : Heap) (locs : List Loc), va_P X.1 vwCl (wY X ad ST) H → va_S (yA ad) s.heap H locs → ∀ (ls : Array Slot), lv_has ls 6 [(0, .ref (ad 0)), (1, .int v1), (2, .int v2), (4, .int v4), (5, .int v5)] → f_MaskEdgesModel_prints_95 r63 v1 v2 v4 v5 s0 ST = some res → W p l e (headSpec (Cond.code y_MaskEdgesModel_prints prog_8_method_39_code 6 (some .boolean) :: xT) ({ frames := 5, cells := 0, slots := 0, locals := 122 } : Room)).room s m args below meth c H locs 0 0 Q (F0 m 95 ls [.int s0]) := by
    intro r63 hr63 v1 v2 v4 v5 s0 ST H locs hP hS ls hl hf
    unfold f_MaskEdgesModel_prints_95 at hf
    refine lv_istore_n (lv' := [(3, .int s0), (0, .ref (ad 0)), (1, .int v1), (2, .int v2), (4, .int v4), (5, .int v5)]) hx hb d_MaskEdgesModel_prints_95 rfl hl (by decide) rfl (fun ls hl => ?_)
    refine lv_iinc (v := (v5 + (1 : Int32))) (lv' := [(5, .int (v5 + (1 : Int32))), (3, .int s0), (0, .ref (ad 0)), (1, .int v1), (2, .int v2), (4, .int v4)]) hx hb d_MaskEdgesModel_prints_96 hl (k := 5) rfl rfl (by decide) rfl (fun ls hl => ?_)
    refine lv_goto (tgt := 63) hx hb d_MaskEdgesModel_prints_99 (by decide) ?_
    exact hr63 v1 v2 s0 v4 (v5 + (1 : Int32)) ST _ _ hP hS ls (lv_sub hl [2, 3, 4, 1, 5, 0] rfl) hf
  have hL90 : ∀ (r63 : Int32 → Int32 → Int32 → Int32 → Int32 → ySt → Option (Int32 × ySt)) (hr63 : ∀ (v1 : Int32) (v2 : Int32) (v3 : Int32) (v4 : Int32) (v5 : Int32) (ST : ySt), ∀ (H : Heap) (locs : List Loc), va_P X.1 vwCl (wY X ad ST) H → va_S (yA ad) s.heap H locs → ∀ (ls : Array Slot), lv_has ls 6 [(0, .ref (ad 0)), (1, .int v1), (2, .int v2), (3, .int v3), (4, .int v4), (5, .int v5)] → r63 v1 v2 v3 v4 v5 ST = some res → W p l e (headSpec (Cond.code y_MaskEdgesModel_prints prog_8_method_39_code 6 (some .boolean) :: xT) ({ frames := 5, cells := 0, slots := 0, locals := 122 } : Room)).room s m args below meth c H locs 0 0 Q (F0 m 63 ls [])), ∀ (v1 : Int32) (v2 : Int32) (v4 : Int32) (v5 : Int32) (ST : ySt), ∀ (H : Heap) (locs : List Loc), va_P X.1 vwCl (wY X ad ST) H → va_S (yA ad) s.heap H locs → ∀ (ls : Array Slot), lv_has ls 6 [(0, .ref (ad 0)), (1, .int v1), (2, .int v2), (4, .int v4), (5, .int v5)] → f_MaskEdgesModel_prints_90 r63 v1 v2 v4 v5 ST = some res → W p l e (headSpec (Cond.code y_MaskEdgesModel_prints prog_8_method_39_code 6 (some .boolean) :: xT) ({ frames := 5, cells := 0, slots := 0, locals := 122 } : Room)).room s m args below meth c H locs 0 0 Q (F0 m 90 ls []) := by
    intro r63 hr63 v1 v2 v4 v5 ST H locs hP hS ls hl hf
    unfold f_MaskEdgesModel_prints_90 at hf
    refine lv_iconst (v := (1 : Int32)) hx hb d_MaskEdgesModel_prints_90 (by decide) ?_
    refine lv_goto (tgt := 95) hx hb d_MaskEdgesModel_prints_91 (by decide) ?_
    exact (hL95 _ hr63) v1 v2 v4 v5 (1 : Int32) ST _ _ hP hS ls (lv_sub hl [0, 1, 2, 3, 4] rfl) hf
  have hL63 : ∀ (k102 : Int32 → Int32 → Int32 → Int32 → ySt → Option (Int32 × ySt)) (hk102 : ∀ (v1 : Int32) (v2 : Int32) (v3 : Int32) (v4 : Int32) (ST : ySt), ∀ (H : Heap) (locs : List Loc), va_P X.1 vwCl (wY X ad ST) H → va_S (yA ad) s.heap H locs → ∀ (ls : Array Slot), lv_has ls 6 [(0, .ref (ad 0)), (1, .int v1), (2, .int v2), (3, .int v3), (4, .int v4)] → k102 v1 v2 v3 v4 ST = some res → W p l e (headSpec (Cond.code y_MaskEdgesModel_prints prog_8_method_39_code 6 (some .boolean) :: xT) ({ frames := 5, cells := 0, slots := 0, locals := 122 } : Room)).room s m args below meth c H locs 0 0 Q (F0 m 102 ls [])), ∀ (n : Nat), ∀ (v1 : Int32) (v2 : Int32) (v3 : Int32) (v4 : Int32) (v5 : Int32) (ST : ySt), ∀ (H : Heap) (locs : List Loc), va_P X.1 vwCl (wY X ad ST) H → va_S (yA ad) s.heap H locs → ∀ (ls : Array Slot), lv_has ls 6 [(0, .ref (ad 0)), (1, .int v1), (2, .int v2), (3, .int v3), (4, .int v4), (5, .int v5)] → (xloop (fun r => f_MaskEdgesModel_prints_63 r k102) (fun _ _ _ _ _ _ => none) n) v1 v2 v3 v4 v5 ST = some res → W p l e (headSpec (Cond.code y_MaskEdgesModel_prints prog_8_method_39_code 6 (some .boolean) :: xT) ({ frames := 5, cells := 0, slots := 0, locals := 122 } : Room)).room s m args below meth c H locs 0 0 Q (F0 m 63 ls []) := by
    intro k102 hk102
    intro n
    induction n with
    | zero => intro v1 v2 v3 v4 v5 ST H locs hP hS ls hl hf; cases hf
    | succ n ih =>
      intro v1 v2 v3 v4 v5 ST H locs hP hS ls hl hf
      replace hf : f_MaskEdgesModel_prints_63 (xloop (fun r => f_MaskEdgesModel_prints_63 r k102) (fun _ _ _ _ _ _ => none) n) k102 v1 v2 v3 v4 v5 ST = some res := hf
      have hr63 := ih
      clear ih
      unfold f_MaskEdgesModel_prints_63 at hf
      refine lv_iload hx hb d_MaskEdgesModel_prints_63 (lv_at hl 5 rfl) ?_
      refine lv_aload_n hx hb d_MaskEdgesModel_prints_65 rfl (lv_at hl 0 rfl) ?_
      refine va_get (D := X.1) (ci := 6) (v := .ref (ad 18)) (C := "MaskEdgesModel") (T := F_MaskEdgesModel) (N := 28) hx hb ht in_MaskEdgesModel hown hK hP 0 yg0 rfl 22 (by decide) (ht _ xw_469) (fun _ h9 => h9) rfl d_MaskEdgesModel_prints_66 ?_
      refine lv_iload_n hx hb d_MaskEdgesModel_prints_69 rfl (lv_at hl 1 rfl) ?_
      obtain ⟨g70, hf⟩ := x_g hf
      refine va_iald hx hb hK hP 18 0 yg18 rfl (xin_in g70) d_MaskEdgesModel_prints_70 ?_
      refine lv_icmp_gt (tgt := 102) hx hb d_MaskEdgesModel_prints_71 (by decide) (fun hc => ?_) (fun hc => ?_)
      · replace hf := x_t hc hf
        exact hk102 v1 v2 v3 v4 ST _ _ hP hS ls (lv_sub hl [0, 1, 2, 3, 4] rfl) hf
      · replace hf := x_f hc hf
        refine lv_iload_n hx hb d_MaskEdgesModel_prints_74 rfl (lv_at hl 3 rfl) ?_
        refine lv_if_ne (tgt := 90) hx hb d_MaskEdgesModel_prints_75 (by decide) (fun hc => ?_) (fun hc => ?_)
        · replace hf := x_f hc hf
          exact (hL90 _ hr63) v1 v2 v4 v5 ST _ _ hP hS ls (lv_sub hl [0, 1, 2, 4, 5] rfl) hf
        · replace hf := x_t hc hf
          refine lv_aload_n hx hb d_MaskEdgesModel_prints_78 rfl (lv_at hl 0 rfl) ?_
          refine lv_iload hx hb d_MaskEdgesModel_prints_79 (lv_at hl 5 rfl) ?_
          refine lv_iload hx hb d_MaskEdgesModel_prints_81 (lv_at hl 4 rfl) ?_
          refine lv_iload_n hx hb d_MaskEdgesModel_prints_83 rfl (lv_at hl 2 rfl) ?_
          obtain ⟨c84, e84, hf⟩ := x_b hf
          refine xcR (va_runV (As := [.int v5, .int v4, .int v2]) (rest := []) ⟨hx, hb, hml, hown, ht⟩ (c_MaskEdgesModel_doesPrint l X ad ST v5 v4 v2 hP e84) (cwV 3 ht (xgV xw_595 xw_596 xw_30 xw_43 xw_597) rfl rfl rfl (by decide +kernel) ⟨Nat.le_of_ble_eq_true rfl, Nat.le_of_ble_eq_true rfl⟩) (xPV hKK (va_recv hK hP (ci := 6) (q0 := 0) rfl yg0)) rfl rfl hl.1 rfl (lv_room (Nat.le_of_ble_eq_true rfl)) d_MaskEdgesModel_prints_84 ⟨Nat.zero_le _, Nat.zero_le _⟩) ?_
          refine W.eq (g2 := F0 m 87 ls [.int c84]) rfl ?_
          refine lv_if_eq (tgt := 94) hx hb d_MaskEdgesModel_prints_87 (by decide) (fun hc => ?_) (fun hc => ?_)
          · replace hf := x_t hc hf
            refine lv_iconst (v := (0 : Int32)) hx hb d_MaskEdgesModel_prints_94 (by decide) ?_
            exact (hL95 _ hr63) v1 v2 v4 v5 (0 : Int32) ST _ _ hP hS ls (lv_sub hl [0, 1, 2, 4, 5] rfl) hf
          · replace hf := x_f hc hf
            exact (hL90 _ hr63) v1 v2 v4 v5 ST _ _ hP hS ls (lv_sub hl [0, 1, 2, 4, 5] rfl) hf
  have hL102 : ∀ (r44 : Int32 → Int32 → Int32 → Int32 → ySt → Option (Int32 × ySt)) (hr44 : ∀ (v1 : Int32) (v2 : Int32) (v3 : Int32) (v4 : Int32) (ST : ySt), ∀ (H : Heap) (locs : List Loc), va_P X.1 vwCl (wY X ad ST) H → va_S (yA ad) s.heap H locs → ∀ (ls : Array Slot), lv_has ls 6 [(0, .ref (ad 0)), (1, .int v1), (2, .int v2), (3, .int v3), (4, .int v4)] → r44 v1 v2 v3 v4 ST = some res → W p l e (headSpec (Cond.code y_MaskEdgesModel_prints prog_8_method_39_code 6 (some .boolean) :: xT) ({ frames := 5, cells := 0, slots := 0, locals := 122 } : Room)).room s m args below meth c H locs 0 0 Q (F0 m 44 ls [])), ∀ (v1 : Int32) (v2 : Int32) (v3 : Int32) (v4 : Int32) (ST : ySt), ∀ (H : Heap) (locs : List Loc), va_P X.1 vwCl (wY X ad ST) H → va_S (yA ad) s.heap H locs → ∀ (ls : Array Slot), lv_has ls 6 [(0, .ref (ad 0)), (1, .int v1), (2, .int v2), (3, .int v3), (4, .int v4)] → f_MaskEdgesModel_prints_102 r44 v1 v2 v3 v4 ST = some res → W p l e (headSpec (Cond.code y_MaskEdgesModel_prints prog_8_method_39_code 6 (some .boolean) :: xT) ({ frames := 5, cells := 0, slots := 0, locals := 122 } : Room)).room s m args below meth c H locs 0 0 Q (F0 m 102 ls []) := by
    intro r44 hr44 v1 v2 v3 v4 ST H locs hP hS ls hl hf
    unfold f_MaskEdgesModel_prints_102 at hf
    refine lv_iinc (v := (v4 + (1 : Int32))) (lv' := [(4, .int (v4 + (1 : Int32))), (0, .ref (ad 0)), (1, .int v1), (2, .int v2), (3, .int v3)]) hx hb d_MaskEdgesModel_prints_102 hl (k := 4) rfl rfl (by decide) rfl (fun ls hl => ?_)
    refine lv_goto (tgt := 44) hx hb d_MaskEdgesModel_prints_105 (by decide) ?_
    exact hr44 v1 v2 v3 (v4 + (1 : Int32)) ST _ _ hP hS ls (lv_sub hl [1, 2, 3, 4, 0] rfl) hf
  have hL44 : ∀ (n : Nat), ∀ (v1 : Int32) (v2 : Int32) (v3 : Int32) (v4 : Int32) (ST : ySt), ∀ (H : Heap) (locs : List Loc), va_P X.1 vwCl (wY X ad ST) H → va_S (yA ad) s.heap H locs → ∀ (ls : Array Slot), lv_has ls 6 [(0, .ref (ad 0)), (1, .int v1), (2, .int v2), (3, .int v3), (4, .int v4)] → (xloop (fun r => f_MaskEdgesModel_prints_44 r) (fun _ _ _ _ _ => none) n) v1 v2 v3 v4 ST = some res → W p l e (headSpec (Cond.code y_MaskEdgesModel_prints prog_8_method_39_code 6 (some .boolean) :: xT) ({ frames := 5, cells := 0, slots := 0, locals := 122 } : Room)).room s m args below meth c H locs 0 0 Q (F0 m 44 ls []) := by
    intro n
    induction n with
    | zero => intro v1 v2 v3 v4 ST H locs hP hS ls hl hf; cases hf
    | succ n ih =>
      intro v1 v2 v3 v4 ST H locs hP hS ls hl hf
      replace hf : f_MaskEdgesModel_prints_44 (xloop (fun r => f_MaskEdgesModel_prints_44 r) (fun _ _ _ _ _ => none) n) v1 v2 v3 v4 ST = some res := hf
      have hr44 := ih
      clear ih
      unfold f_MaskEdgesModel_prints_44 at hf
      refine lv_iload hx hb d_MaskEdgesModel_prints_44 (lv_at hl 4 rfl) ?_
      refine lv_aload_n hx hb d_MaskEdgesModel_prints_46 rfl (lv_at hl 0 rfl) ?_
      refine va_get (D := X.1) (ci := 6) (v := .ref (ad 19)) (C := "MaskEdgesModel") (T := F_MaskEdgesModel) (N := 28) hx hb ht in_MaskEdgesModel hown hK hP 0 yg0 rfl 23 (by decide) (ht _ xw_470) (fun _ h9 => h9) rfl d_MaskEdgesModel_prints_47 ?_
      refine lv_iload_n hx hb d_MaskEdgesModel_prints_50 rfl (lv_at hl 1 rfl) ?_
      obtain ⟨g51, hf⟩ := x_g hf
      refine va_iald hx hb hK hP 19 0 yg19 rfl (xin_in g51) d_MaskEdgesModel_prints_51 ?_
      refine lv_icmp_gt (tgt := 108) hx hb d_MaskEdgesModel_prints_52 (by decide) (fun hc => ?_) (fun hc => ?_)
      · replace hf := x_t hc hf
        refine lv_iload_n hx hb d_MaskEdgesModel_prints_108 rfl (lv_at hl 3 rfl) ?_
        obtain ⟨zr, hf⟩ := x_g hf
        replace hf := x_s hf
        subst hf
        subst hQ
        exact W.zret (v := v3) hx hb hr (xz_n zr) (fun t ht hW => ⟨⟨rfl, by rw [ht]; exact hP⟩, hS.F ht⟩) hS.2.2 d_MaskEdgesModel_prints_109
      · replace hf := x_f hc hf
        refine lv_aload_n hx hb d_MaskEdgesModel_prints_55 rfl (lv_at hl 0 rfl) ?_
        refine va_get (D := X.1) (ci := 6) (v := .ref (ad 16)) (C := "MaskEdgesModel") (T := F_MaskEdgesModel) (N := 28) hx hb ht in_MaskEdgesModel hown hK hP 0 yg0 rfl 20 (by decide) (ht _ xw_467) (fun _ h9 => h9) rfl d_MaskEdgesModel_prints_56 ?_
        refine lv_iload_n hx hb d_MaskEdgesModel_prints_59 rfl (lv_at hl 1 rfl) ?_
        obtain ⟨g60, hf⟩ := x_g hf
        refine va_iald hx hb hK hP 16 0 yg16 rfl (xin_in g60) d_MaskEdgesModel_prints_60 ?_
        refine lv_istore (lv' := [(5, .int (Y_barX ST v1.toNatClampNeg)), (0, .ref (ad 0)), (1, .int v1), (2, .int v2), (3, .int v3), (4, .int v4)]) hx hb d_MaskEdgesModel_prints_61 hl (by decide) rfl (fun ls hl => ?_)
        exact (hL63 _ (hL102 _ hr44) 100000) v1 v2 v3 v4 (Y_barX ST v1.toNatClampNeg) ST _ _ hP hS ls (lv_sub hl [1, 2, 3, 4, 5, 0] rfl) hf
  unfold f_MaskEdgesModel_prints at hf
  refine lv_iload_n hx hb d_MaskEdgesModel_prints_0 rfl (lv_at hl 1 rfl) ?_
  refine lv_i2l hx hb d_MaskEdgesModel_prints_1 rfl ?_
  refine lv_lconst (v := (0 : Int64)) hx hb d_MaskEdgesModel_prints_2 (by decide) ?_
  refine lv_aload_n hx hb d_MaskEdgesModel_prints_3 rfl (lv_at hl 0 rfl) ?_
  refine va_get (D := X.1) (ci := 6) (v := .int (Y_bars ST)) (C := "MaskEdgesModel") (T := F_MaskEdgesModel) (N := 28) hx hb ht in_MaskEdgesModel hown hK hP 0 yg0 rfl 19 (by decide) (ht _ xw_466) (fun _ h9 => h9) rfl d_MaskEdgesModel_prints_4 ?_
  refine lv_iconst (v := (1 : Int32)) hx hb d_MaskEdgesModel_prints_7 (by decide) ?_
  refine lv_isub hx hb d_MaskEdgesModel_prints_8 ?_
  refine lv_i2l hx hb d_MaskEdgesModel_prints_9 rfl ?_
  obtain ⟨c10, e10, hf⟩ := x_b hf
  refine xcR (va_runS (As := [.long v1.toInt64, .long (0 : Int64), .long (((Y_bars ST) - (1 : Int32)).toInt64)]) (rest := []) ⟨hx, hb, hml, hown, ht⟩ (c_MaskEdgesModel_isBetween l X v1.toInt64 (0 : Int64) (((Y_bars ST) - (1 : Int32)).toInt64) e10) (cwS 3 ht (xgS xw_512 xw_513 xw_43 xw_514) rfl rfl rfl (by decide +kernel) ⟨Nat.le_of_ble_eq_true rfl, Nat.le_of_ble_eq_true rfl⟩) (xPS hKK) rfl rfl hl.1 rfl (lv_room (Nat.le_of_ble_eq_true rfl)) d_MaskEdgesModel_prints_10 ⟨Nat.zero_le _, Nat.zero_le _⟩) ?_
  refine W.eq (g2 := F0 m 13 ls [.int c10]) rfl ?_
  refine lv_if_eq (tgt := 28) hx hb d_MaskEdgesModel_prints_13 (by decide) (fun hc => ?_) (fun hc => ?_)
  · replace hf := x_t hc hf
    refine lv_iconst (v := (0 : Int32)) hx hb d_MaskEdgesModel_prints_28 (by decide) ?_
    replace hf := x_s hf
    subst hf
    subst hQ
    exact W.zret (v := (0 : Int32)) hx hb hr (xz_n (by decide)) (fun t ht hW => ⟨⟨rfl, by rw [ht]; exact hP⟩, hS.F ht⟩) hS.2.2 d_MaskEdgesModel_prints_29
  · replace hf := x_f hc hf
    refine lv_iload_n hx hb d_MaskEdgesModel_prints_16 rfl (lv_at hl 2 rfl) ?_
    refine lv_i2l hx hb d_MaskEdgesModel_prints_17 rfl ?_
    refine lv_lconst (v := (1 : Int64)) hx hb d_MaskEdgesModel_prints_18 (by decide) ?_
    refine lv_ldc2 (v := (1000 : Int64)) hx hb hown (ht _ xw_591) d_MaskEdgesModel_prints_19 ?_
    obtain ⟨c22, e22, hf⟩ := x_b hf
    refine xcR (va_runS (As := [.long v2.toInt64, .long (1 : Int64), .long (1000 : Int64)]) (rest := []) ⟨hx, hb, hml, hown, ht⟩ (c_MaskEdgesModel_isBetween l X v2.toInt64 (1 : Int64) (1000 : Int64) e22) (cwS 3 ht (xgS xw_512 xw_513 xw_43 xw_514) rfl rfl rfl (by decide +kernel) ⟨Nat.le_of_ble_eq_true rfl, Nat.le_of_ble_eq_true rfl⟩) (xPS hKK) rfl rfl hl.1 rfl (lv_room (Nat.le_of_ble_eq_true rfl)) d_MaskEdgesModel_prints_22 ⟨Nat.zero_le _, Nat.zero_le _⟩) ?_
    refine W.eq (g2 := F0 m 25 ls [.int c22]) rfl ?_
    refine lv_if_ne (tgt := 30) hx hb d_MaskEdgesModel_prints_25 (by decide) (fun hc => ?_) (fun hc => ?_)
    · replace hf := x_f hc hf
      refine lv_aload_n hx hb d_MaskEdgesModel_prints_30 rfl (lv_at hl 0 rfl) ?_
      obtain ⟨c31, e31, hf⟩ := x_b hf
      refine xc (va_runV (As := []) (rest := []) ⟨hx, hb, hml, hown, ht⟩ (c_MaskEdgesModel_make l X ad ST hP hA e31) (cwV 0 ht (xgV xw_559 xw_560 xw_22 xw_43 xw_561) rfl rfl rfl (by decide +kernel) ⟨Nat.le_of_ble_eq_true rfl, Nat.le_of_ble_eq_true rfl⟩) (xPV hKK (va_recv hK hP (ci := 6) (q0 := 0) rfl yg0)) rfl rfl hl.1 rfl (lv_room (Nat.le_of_ble_eq_true rfl)) d_MaskEdgesModel_prints_31 ⟨Nat.zero_le _, Nat.zero_le _⟩) (fun H1 L hq hz => ?_)
      replace hS := xS_call hS hz (fun _ h => h)
      replace hP : va_P X.1 vwCl (wY X ad c31) H1 := hq
      clear hq hz
      refine W.eq (g2 := F0 m 34 ls []) rfl ?_
      refine lv_iconst (v := (0 : Int32)) hx hb d_MaskEdgesModel_prints_34 (by decide) ?_
      refine lv_istore_n (lv' := [(3, .int (0 : Int32)), (0, .ref (ad 0)), (1, .int v1), (2, .int v2)]) hx hb d_MaskEdgesModel_prints_35 rfl hl (by decide) rfl (fun ls hl => ?_)
      refine lv_aload_n hx hb d_MaskEdgesModel_prints_36 rfl (lv_at hl 1 rfl) ?_
      refine va_get (D := X.1) (ci := 6) (v := .ref (ad 17)) (C := "MaskEdgesModel") (T := F_MaskEdgesModel) (N := 28) hx hb ht in_MaskEdgesModel hown hK hP 0 yg0 rfl 21 (by decide) (ht _ xw_468) (fun _ h9 => h9) rfl d_MaskEdgesModel_prints_37 ?_
      refine lv_iload_n hx hb d_MaskEdgesModel_prints_40 rfl (lv_at hl 2 rfl) ?_
      obtain ⟨g41, hf⟩ := x_g hf
      refine va_iald hx hb hK hP 17 0 yg17 rfl (xin_in g41) d_MaskEdgesModel_prints_41 ?_
      refine lv_istore (lv' := [(4, .int (Y_barY c31 v1.toNatClampNeg)), (3, .int (0 : Int32)), (0, .ref (ad 0)), (1, .int v1), (2, .int v2)]) hx hb d_MaskEdgesModel_prints_42 hl (by decide) rfl (fun ls hl => ?_)
      exact (hL44 100000) v1 v2 (0 : Int32) (Y_barY c31 v1.toNatClampNeg) c31 _ _ hP hS ls (lv_sub hl [2, 3, 4, 1, 0] rfl) hf
    · replace hf := x_t hc hf
      refine lv_iconst (v := (0 : Int32)) hx hb d_MaskEdgesModel_prints_28 (by decide) ?_
      replace hf := x_s hf
      subst hf
      subst hQ
      exact W.zret (v := (0 : Int32)) hx hb hr (xz_n (by decide)) (fun t ht hW => ⟨⟨rfl, by rw [ht]; exact hP⟩, hS.F ht⟩) hS.2.2 d_MaskEdgesModel_prints_29
def f_MaskEdgesModel_alike_152 (ST : ySt) (r89 : Int32 → Int32 → Int32 → Int32 → Int32 → Int32 → Option (Int32)) (v1 : Int32) (v2 : Int32) (v3 : Int32) (v5 : Int32) (v6 : Int32) (s0 : Int32) : Option (Int32) :=
  r89 v1 v2 v3 s0 v5 (v6 + (1 : Int32))
def f_MaskEdgesModel_alike_89 (ST : ySt) (r89 : Int32 → Int32 → Int32 → Int32 → Int32 → Int32 → Option (Int32)) (k160 : Int32 → Int32 → Int32 → Int32 → Int32 → Option (Int32)) (v1 : Int32) (v2 : Int32) (v3 : Int32) (v4 : Int32) (v5 : Int32) (v6 : Int32) : Option (Int32) :=
  if (5 : Int32) ≤ v6 then
  k160 v1 v2 v3 v4 v5
else
  if v4 = 0 then
    k160 v1 v2 v3 v4 v5
  else
    (f_MaskEdgesModel_besideX ST v1 v3).bind fun c104 =>
      (f_MaskEdgesModel_besideY ST v1 v3).bind fun c113 =>
      (f_MaskEdgesModel_isTarget ST (c104 + v6) (c113 + v5)).bind fun c119 =>
      (f_MaskEdgesModel_besideX ST v2 v3).bind fun c126 =>
      (f_MaskEdgesModel_besideY ST v2 v3).bind fun c135 =>
      (f_MaskEdgesModel_isTarget ST (c126 + v6) (c135 + v5)).bind fun c141 =>
      if c119 = c141 then
      (f_MaskEdgesModel_alike_152 ST r89) v1 v2 v3 v5 v6 (1 : Int32)
    else
      (f_MaskEdgesModel_alike_152 ST r89) v1 v2 v3 v5 v6 (0 : Int32)
def f_MaskEdgesModel_alike_160 (ST : ySt) (r79 : Int32 → Int32 → Int32 → Int32 → Int32 → Option (Int32)) (v1 : Int32) (v2 : Int32) (v3 : Int32) (v4 : Int32) (v5 : Int32) : Option (Int32) :=
  r79 v1 v2 v3 v4 (v5 + (1 : Int32))
def f_MaskEdgesModel_alike_79 (ST : ySt) (r79 : Int32 → Int32 → Int32 → Int32 → Int32 → Option (Int32)) (v1 : Int32) (v2 : Int32) (v3 : Int32) (v4 : Int32) (v5 : Int32) : Option (Int32) :=
  if (5 : Int32) ≤ v5 then
  if xz v4 = true then
    some v4
  else none
else
  (xloop (fun r => f_MaskEdgesModel_alike_89 ST r (f_MaskEdgesModel_alike_160 ST r79)) (fun _ _ _ _ _ _ => none) 100000) v1 v2 v3 v4 v5 (-4 : Int32)
def f_MaskEdgesModel_alike_71 (ST : ySt) (v1 : Int32) (v2 : Int32) (s0 : Int32) : Option (Int32) :=
  (xloop (fun r => f_MaskEdgesModel_alike_79 ST r) (fun _ _ _ _ _ => none) 100000) v1 v2 s0 (1 : Int32) (-4 : Int32)
def f_MaskEdgesModel_alike (ST : ySt) (v1 : Int32) (v2 : Int32) : Option (Int32) :=
  (f_MaskEdgesModel_isPiece ST v1).bind fun c2 =>
  if c2 = 0 then
  some (0 : Int32)
else
  (f_MaskEdgesModel_isPiece ST v2).bind fun c10 =>
    if c10 = 0 then
    some (0 : Int32)
  else
    if xin v1 120 = true then
      if (Y_out ST v1.toNatClampNeg) = 0 then
        some (0 : Int32)
      else
        if xin v1 120 = true then
          if xin v2 120 = true then
            if (Y_out ST v1.toNatClampNeg) = (Y_out ST v2.toNatClampNeg) then
              if xin v1 120 = true then
                if xin v2 120 = true then
                  if (Y_isAlongX ST v1.toNatClampNeg) = (Y_isAlongX ST v2.toNatClampNeg) then
                    if xin v1 120 = true then
                      if (Y_out ST v1.toNatClampNeg) ≤ 0 then
                        (f_MaskEdgesModel_alike_71 ST) v1 v2 (0 : Int32)
                      else
                        (f_MaskEdgesModel_alike_71 ST) v1 v2 (-1 : Int32)
                    else none
                  else
                    some (0 : Int32)
                else none
              else none
            else
              some (0 : Int32)
          else none
        else none
    else none
set_option maxHeartbeats 4000000 in
set_option maxRecDepth 100000 in
theorem c_MaskEdgesModel_alike (l : Launch) (X : xG) {H : Heap} (ad : Nat → Nat) (ST : ySt) (v1 : Int32) (v2 : Int32) {res : Int32} (hP : va_P X.1 vwCl (wY X ad ST) H) (hf : f_MaskEdgesModel_alike ST v1 v2 = some res) : xM l y_MaskEdgesModel_alike (Cond.code y_MaskEdgesModel_alike prog_8_method_40_code 7 (some .boolean) :: xT) ({ frames := 4, cells := 0, slots := 0, locals := 99 } : Room) (xK X) [.ref (ad 0), .int v1, .int v2] H xNo (some (.int res)) (fun H1 => H1 = H) := by
  refine Met.ofW (cc := prog_8_method_40_code) (maxL := 7) (ret := (some .boolean)) (by decide) rfl ?_
  intro p e s m args below meth c s₁ B hml hv
  obtain ⟨ha, hH, hKK⟩ := hv
  subst hH
  have hx := B.exec
  have hb := B.bytes
  have hr := B.returns
  have ht : ∀ w ∈ xT, w.before args s = true := fun w h => atoms_spec (ws := (Cond.code y_MaskEdgesModel_alike prog_8_method_40_code 7 (some .boolean) :: xT)) B.pre w (List.mem_cons_of_mem _ h)
  have hown : s.vm.findClass "MaskEdgesModel" = some m.cls := findClass_of_methodNamed B.named
  have hlocks := B.notSynchronized
  have hK := hKK.1
  rw [show entryFrame m args 7 = entryFrame m ([.ref (ad 0), .int v1, .int v2] : List Value).toArray 7 from by rw [ha]]
  clear ha
  have hl := lv_entry ([.ref (ad 0), .int v1, .int v2]) (n := 7) (Nat.le_of_ble_eq_true rfl)
  rw [lg_entry_eq]
  generalize (lg_sl ([.ref (ad 0), .int v1, .int v2]) ++ List.replicate (7 - (lg_sl ([.ref (ad 0), .int v1, .int v2])).length) Slot.unset).toArray = ls at hl ⊢
  replace hl : lv_has ls 7 [(0, .ref (ad 0)), (1, .int v1), (2, .int v2)] := hl
  refine x_Q (fun Q hQ => ?_)
  have hL152 : ∀ (r89 : Int32 → Int32 → Int32 → Int32 → Int32 → Int32 → Option (Int32)) (hr89 : ∀ (v1 : Int32) (v2 : Int32) (v3 : Int32) (v4 : Int32) (v5 : Int32) (v6 : Int32), ∀ (ls : Array Slot), lv_has ls 7 [(0, .ref (ad 0)), (1, .int v1), (2, .int v2), (3, .int v3), (4, .int v4), (5, .int v5), (6, .int v6)] → r89 v1 v2 v3 v4 v5 v6 = some res → W p l e (headSpec (Cond.code y_MaskEdgesModel_alike prog_8_method_40_code 7 (some .boolean) :: xT) ({ frames := 4, cells := 0, slots := 0, locals := 99 } : Room)).room s m args below meth c s.heap [] 0 0 Q (F0 m 89 ls [])), ∀ (v1 : Int32) (v2 : Int32) (v3 : Int32) (v5 : Int32) (v6 : Int32) (s0 : Int32), ∀ (ls : Array Slot), lv_has ls 7 [(0, .ref (ad 0)), (1, .int v1), (2, .int v2), (3, .int v3), (5, .int v5), (6, .int v6)] → f_MaskEdgesModel_alike_152 ST r89 v1 v2 v3 v5 v6 s0 = some res → W p l e (headSpec (Cond.code y_MaskEdgesModel_alike prog_8_method_40_code 7 (some .boolean) :: xT) ({ frames := 4, cells := 0, slots := 0, locals := 99 } : Room)).room s m args below meth c s.heap [] 0 0 Q (F0 m 152 ls [.int s0]) := by
    intro r89 hr89 v1 v2 v3 v5 v6 s0 ls hl hf
    unfold f_MaskEdgesModel_alike_152 at hf
    refine lv_istore (lv' := [(4, .int s0), (0, .ref (ad 0)), (1, .int v1), (2, .int v2), (3, .int v3), (5, .int v5), (6, .int v6)]) hx hb d_MaskEdgesModel_alike_152 hl (by decide) rfl (fun ls hl => ?_)
    refine lv_iinc (v := (v6 + (1 : Int32))) (lv' := [(6, .int (v6 + (1 : Int32))), (4, .int s0), (0, .ref (ad 0)), (1, .int v1), (2, .int v2), (3, .int v3), (5, .int v5)]) hx hb d_MaskEdgesModel_alike_154 hl (k := 6) rfl rfl (by decide) rfl (fun ls hl => ?_)
    refine lv_goto (tgt := 89) hx hb d_MaskEdgesModel_alike_157 (by decide) ?_
    exact hr89 v1 v2 v3 s0 v5 (v6 + (1 : Int32))  ls (lv_sub hl [2, 3, 4, 5, 1, 6, 0] rfl) hf
  have hL89 : ∀ (k160 : Int32 → Int32 → Int32 → Int32 → Int32 → Option (Int32)) (hk160 : ∀ (v1 : Int32) (v2 : Int32) (v3 : Int32) (v4 : Int32) (v5 : Int32), ∀ (ls : Array Slot), lv_has ls 7 [(0, .ref (ad 0)), (1, .int v1), (2, .int v2), (3, .int v3), (4, .int v4), (5, .int v5)] → k160 v1 v2 v3 v4 v5 = some res → W p l e (headSpec (Cond.code y_MaskEdgesModel_alike prog_8_method_40_code 7 (some .boolean) :: xT) ({ frames := 4, cells := 0, slots := 0, locals := 99 } : Room)).room s m args below meth c s.heap [] 0 0 Q (F0 m 160 ls [])), ∀ (n : Nat), ∀ (v1 : Int32) (v2 : Int32) (v3 : Int32) (v4 : Int32) (v5 : Int32) (v6 : Int32), ∀ (ls : Array Slot), lv_has ls 7 [(0, .ref (ad 0)), (1, .int v1), (2, .int v2), (3, .int v3), (4, .int v4), (5, .int v5), (6, .int v6)] → (xloop (fun r => f_MaskEdgesModel_alike_89 ST r k160) (fun _ _ _ _ _ _ => none) n) v1 v2 v3 v4 v5 v6 = some res → W p l e (headSpec (Cond.code y_MaskEdgesModel_alike prog_8_method_40_code 7 (some .boolean) :: xT) ({ frames := 4, cells := 0, slots := 0, locals := 99 } : Room)).room s m args below meth c s.heap [] 0 0 Q (F0 m 89 ls []) := by
    intro k160 hk160
    intro n
    induction n with
    | zero => intro v1 v2 v3 v4 v5 v6 ls hl hf; cases hf
    | succ n ih =>
      intro v1 v2 v3 v4 v5 v6 ls hl hf
      replace hf : f_MaskEdgesModel_alike_89 ST (xloop (fun r => f_MaskEdgesModel_alike_89 ST r k160) (fun _ _ _ _ _ _ => none) n) k160 v1 v2 v3 v4 v5 v6 = some res := hf
      have hr89 := ih
      clear ih
      unfold f_MaskEdgesModel_alike_89 at hf
      refine lv_iload hx hb d_MaskEdgesModel_alike_89 (lv_at hl 6 rfl) ?_
      refine lv_iconst (v := (5 : Int32)) hx hb d_MaskEdgesModel_alike_91 (by decide) ?_
      refine lv_icmp_ge (tgt := 160) hx hb d_MaskEdgesModel_alike_92 (by decide) (fun hc => ?_) (fun hc => ?_)
      · replace hf := x_t hc hf
        exact hk160 v1 v2 v3 v4 v5  ls (lv_sub hl [0, 1, 2, 3, 4, 5] rfl) hf
      · replace hf := x_f hc hf
        refine lv_iload hx hb d_MaskEdgesModel_alike_95 (lv_at hl 4 rfl) ?_
        refine lv_if_eq (tgt := 160) hx hb d_MaskEdgesModel_alike_97 (by decide) (fun hc => ?_) (fun hc => ?_)
        · replace hf := x_t hc hf
          exact hk160 v1 v2 v3 v4 v5  ls (lv_sub hl [0, 1, 2, 3, 4, 5] rfl) hf
        · replace hf := x_f hc hf
          refine lv_aload_n hx hb d_MaskEdgesModel_alike_100 rfl (lv_at hl 0 rfl) ?_
          refine lv_aload_n hx hb d_MaskEdgesModel_alike_101 rfl (lv_at hl 0 rfl) ?_
          refine lv_iload_n hx hb d_MaskEdgesModel_alike_102 rfl (lv_at hl 1 rfl) ?_
          refine lv_iload_n hx hb d_MaskEdgesModel_alike_103 rfl (lv_at hl 3 rfl) ?_
          obtain ⟨c104, e104, hf⟩ := x_b hf
          refine xcR (va_runV (As := [.int v1, .int v3]) (rest := [.ref (ad 0)]) ⟨hx, hb, hml, hown, ht⟩ (c_MaskEdgesModel_besideX l X ad ST v1 v3 hP e104) (cwV 2 ht (xgV xw_539 xw_540 xw_18 xw_43 xw_541) rfl rfl rfl (by decide +kernel) ⟨Nat.le_of_ble_eq_true rfl, Nat.le_of_ble_eq_true rfl⟩) (xPV hKK (va_recv hK hP (ci := 6) (q0 := 0) rfl yg0)) rfl rfl hl.1 rfl (lv_room (Nat.le_of_ble_eq_true rfl)) d_MaskEdgesModel_alike_104 ⟨Nat.zero_le _, Nat.zero_le _⟩) ?_
          refine W.eq (g2 := F0 m 107 ls [.int c104, .ref (ad 0)]) rfl ?_
          refine lv_iload hx hb d_MaskEdgesModel_alike_107 (lv_at hl 6 rfl) ?_
          refine lv_iadd hx hb d_MaskEdgesModel_alike_109 ?_
          refine lv_aload_n hx hb d_MaskEdgesModel_alike_110 rfl (lv_at hl 0 rfl) ?_
          refine lv_iload_n hx hb d_MaskEdgesModel_alike_111 rfl (lv_at hl 1 rfl) ?_
          refine lv_iload_n hx hb d_MaskEdgesModel_alike_112 rfl (lv_at hl 3 rfl) ?_
          obtain ⟨c113, e113, hf⟩ := x_b hf
          refine xcR (va_runV (As := [.int v1, .int v3]) (rest := [.int (c104 + v6), .ref (ad 0)]) ⟨hx, hb, hml, hown, ht⟩ (c_MaskEdgesModel_besideY l X ad ST v1 v3 hP e113) (cwV 2 ht (xgV xw_545 xw_546 xw_20 xw_43 xw_547) rfl rfl rfl (by decide +kernel) ⟨Nat.le_of_ble_eq_true rfl, Nat.le_of_ble_eq_true rfl⟩) (xPV hKK (va_recv hK hP (ci := 6) (q0 := 0) rfl yg0)) rfl rfl hl.1 rfl (lv_room (Nat.le_of_ble_eq_true rfl)) d_MaskEdgesModel_alike_113 ⟨Nat.zero_le _, Nat.zero_le _⟩) ?_
          refine W.eq (g2 := F0 m 116 ls [.int c113, .int (c104 + v6), .ref (ad 0)]) rfl ?_
          refine lv_iload hx hb d_MaskEdgesModel_alike_116 (lv_at hl 5 rfl) ?_
          refine lv_iadd hx hb d_MaskEdgesModel_alike_118 ?_
          obtain ⟨c119, e119, hf⟩ := x_b hf
          refine xcR (va_runV (As := [.int (c104 + v6), .int (c113 + v5)]) (rest := []) ⟨hx, hb, hml, hown, ht⟩ (c_MaskEdgesModel_isTarget l X ad ST (c104 + v6) (c113 + v5) hP e119) (cwV 2 ht (xgV xw_562 xw_563 xw_23 xw_43 xw_564) rfl rfl rfl (by decide +kernel) ⟨Nat.le_of_ble_eq_true rfl, Nat.le_of_ble_eq_true rfl⟩) (xPV hKK (va_recv hK hP (ci := 6) (q0 := 0) rfl yg0)) rfl rfl hl.1 rfl (lv_room (Nat.le_of_ble_eq_true rfl)) d_MaskEdgesModel_alike_119 ⟨Nat.zero_le _, Nat.zero_le _⟩) ?_
          refine W.eq (g2 := F0 m 122 ls [.int c119]) rfl ?_
          refine lv_aload_n hx hb d_MaskEdgesModel_alike_122 rfl (lv_at hl 0 rfl) ?_
          refine lv_aload_n hx hb d_MaskEdgesModel_alike_123 rfl (lv_at hl 0 rfl) ?_
          refine lv_iload_n hx hb d_MaskEdgesModel_alike_124 rfl (lv_at hl 2 rfl) ?_
          refine lv_iload_n hx hb d_MaskEdgesModel_alike_125 rfl (lv_at hl 3 rfl) ?_
          obtain ⟨c126, e126, hf⟩ := x_b hf
          refine xcR (va_runV (As := [.int v2, .int v3]) (rest := [.ref (ad 0), .int c119]) ⟨hx, hb, hml, hown, ht⟩ (c_MaskEdgesModel_besideX l X ad ST v2 v3 hP e126) (cwV 2 ht (xgV xw_539 xw_540 xw_18 xw_43 xw_541) rfl rfl rfl (by decide +kernel) ⟨Nat.le_of_ble_eq_true rfl, Nat.le_of_ble_eq_true rfl⟩) (xPV hKK (va_recv hK hP (ci := 6) (q0 := 0) rfl yg0)) rfl rfl hl.1 rfl (lv_room (Nat.le_of_ble_eq_true rfl)) d_MaskEdgesModel_alike_126 ⟨Nat.zero_le _, Nat.zero_le _⟩) ?_
          refine W.eq (g2 := F0 m 129 ls [.int c126, .ref (ad 0), .int c119]) rfl ?_
          refine lv_iload hx hb d_MaskEdgesModel_alike_129 (lv_at hl 6 rfl) ?_
          refine lv_iadd hx hb d_MaskEdgesModel_alike_131 ?_
          refine lv_aload_n hx hb d_MaskEdgesModel_alike_132 rfl (lv_at hl 0 rfl) ?_
          refine lv_iload_n hx hb d_MaskEdgesModel_alike_133 rfl (lv_at hl 2 rfl) ?_
          refine lv_iload_n hx hb d_MaskEdgesModel_alike_134 rfl (lv_at hl 3 rfl) ?_
          obtain ⟨c135, e135, hf⟩ := x_b hf
          refine xcR (va_runV (As := [.int v2, .int v3]) (rest := [.int (c126 + v6), .ref (ad 0), .int c119]) ⟨hx, hb, hml, hown, ht⟩ (c_MaskEdgesModel_besideY l X ad ST v2 v3 hP e135) (cwV 2 ht (xgV xw_545 xw_546 xw_20 xw_43 xw_547) rfl rfl rfl (by decide +kernel) ⟨Nat.le_of_ble_eq_true rfl, Nat.le_of_ble_eq_true rfl⟩) (xPV hKK (va_recv hK hP (ci := 6) (q0 := 0) rfl yg0)) rfl rfl hl.1 rfl (lv_room (Nat.le_of_ble_eq_true rfl)) d_MaskEdgesModel_alike_135 ⟨Nat.zero_le _, Nat.zero_le _⟩) ?_
          refine W.eq (g2 := F0 m 138 ls [.int c135, .int (c126 + v6), .ref (ad 0), .int c119]) rfl ?_
          refine lv_iload hx hb d_MaskEdgesModel_alike_138 (lv_at hl 5 rfl) ?_
          refine lv_iadd hx hb d_MaskEdgesModel_alike_140 ?_
          obtain ⟨c141, e141, hf⟩ := x_b hf
          refine xcR (va_runV (As := [.int (c126 + v6), .int (c135 + v5)]) (rest := [.int c119]) ⟨hx, hb, hml, hown, ht⟩ (c_MaskEdgesModel_isTarget l X ad ST (c126 + v6) (c135 + v5) hP e141) (cwV 2 ht (xgV xw_562 xw_563 xw_23 xw_43 xw_564) rfl rfl rfl (by decide +kernel) ⟨Nat.le_of_ble_eq_true rfl, Nat.le_of_ble_eq_true rfl⟩) (xPV hKK (va_recv hK hP (ci := 6) (q0 := 0) rfl yg0)) rfl rfl hl.1 rfl (lv_room (Nat.le_of_ble_eq_true rfl)) d_MaskEdgesModel_alike_141 ⟨Nat.zero_le _, Nat.zero_le _⟩) ?_
          refine W.eq (g2 := F0 m 144 ls [.int c141, .int c119]) rfl ?_
          refine lv_icmp_ne (tgt := 151) hx hb d_MaskEdgesModel_alike_144 (by decide) (fun hc => ?_) (fun hc => ?_)
          · replace hf := x_f hc hf
            refine lv_iconst (v := (0 : Int32)) hx hb d_MaskEdgesModel_alike_151 (by decide) ?_
            exact (hL152 _ hr89) v1 v2 v3 v5 v6 (0 : Int32)  ls (lv_sub hl [0, 1, 2, 3, 5, 6] rfl) hf
          · replace hf := x_t hc hf
            refine lv_iconst (v := (1 : Int32)) hx hb d_MaskEdgesModel_alike_147 (by decide) ?_
            refine lv_goto (tgt := 152) hx hb d_MaskEdgesModel_alike_148 (by decide) ?_
            exact (hL152 _ hr89) v1 v2 v3 v5 v6 (1 : Int32)  ls (lv_sub hl [0, 1, 2, 3, 5, 6] rfl) hf
  have hL160 : ∀ (r79 : Int32 → Int32 → Int32 → Int32 → Int32 → Option (Int32)) (hr79 : ∀ (v1 : Int32) (v2 : Int32) (v3 : Int32) (v4 : Int32) (v5 : Int32), ∀ (ls : Array Slot), lv_has ls 7 [(0, .ref (ad 0)), (1, .int v1), (2, .int v2), (3, .int v3), (4, .int v4), (5, .int v5)] → r79 v1 v2 v3 v4 v5 = some res → W p l e (headSpec (Cond.code y_MaskEdgesModel_alike prog_8_method_40_code 7 (some .boolean) :: xT) ({ frames := 4, cells := 0, slots := 0, locals := 99 } : Room)).room s m args below meth c s.heap [] 0 0 Q (F0 m 79 ls [])), ∀ (v1 : Int32) (v2 : Int32) (v3 : Int32) (v4 : Int32) (v5 : Int32), ∀ (ls : Array Slot), lv_has ls 7 [(0, .ref (ad 0)), (1, .int v1), (2, .int v2), (3, .int v3), (4, .int v4), (5, .int v5)] → f_MaskEdgesModel_alike_160 ST r79 v1 v2 v3 v4 v5 = some res → W p l e (headSpec (Cond.code y_MaskEdgesModel_alike prog_8_method_40_code 7 (some .boolean) :: xT) ({ frames := 4, cells := 0, slots := 0, locals := 99 } : Room)).room s m args below meth c s.heap [] 0 0 Q (F0 m 160 ls []) := by
    intro r79 hr79 v1 v2 v3 v4 v5 ls hl hf
    unfold f_MaskEdgesModel_alike_160 at hf
    refine lv_iinc (v := (v5 + (1 : Int32))) (lv' := [(5, .int (v5 + (1 : Int32))), (0, .ref (ad 0)), (1, .int v1), (2, .int v2), (3, .int v3), (4, .int v4)]) hx hb d_MaskEdgesModel_alike_160 hl (k := 5) rfl rfl (by decide) rfl (fun ls hl => ?_)
    refine lv_goto (tgt := 79) hx hb d_MaskEdgesModel_alike_163 (by decide) ?_
    exact hr79 v1 v2 v3 v4 (v5 + (1 : Int32))  ls (lv_sub hl [1, 2, 3, 4, 5, 0] rfl) hf
  have hL79 : ∀ (n : Nat), ∀ (v1 : Int32) (v2 : Int32) (v3 : Int32) (v4 : Int32) (v5 : Int32), ∀ (ls : Array Slot), lv_has ls 7 [(0, .ref (ad 0)), (1, .int v1), (2, .int v2), (3, .int v3), (4, .int v4), (5, .int v5)] → (xloop (fun r => f_MaskEdgesModel_alike_79 ST r) (fun _ _ _ _ _ => none) n) v1 v2 v3 v4 v5 = some res → W p l e (headSpec (Cond.code y_MaskEdgesModel_alike prog_8_method_40_code 7 (some .boolean) :: xT) ({ frames := 4, cells := 0, slots := 0, locals := 99 } : Room)).room s m args below meth c s.heap [] 0 0 Q (F0 m 79 ls []) := by
    intro n
    induction n with
    | zero => intro v1 v2 v3 v4 v5 ls hl hf; cases hf
    | succ n ih =>
      intro v1 v2 v3 v4 v5 ls hl hf
      replace hf : f_MaskEdgesModel_alike_79 ST (xloop (fun r => f_MaskEdgesModel_alike_79 ST r) (fun _ _ _ _ _ => none) n) v1 v2 v3 v4 v5 = some res := hf
      have hr79 := ih
      clear ih
      unfold f_MaskEdgesModel_alike_79 at hf
      refine lv_iload hx hb d_MaskEdgesModel_alike_79 (lv_at hl 5 rfl) ?_
      refine lv_iconst (v := (5 : Int32)) hx hb d_MaskEdgesModel_alike_81 (by decide) ?_
      refine lv_icmp_ge (tgt := 166) hx hb d_MaskEdgesModel_alike_82 (by decide) (fun hc => ?_) (fun hc => ?_)
      · replace hf := x_t hc hf
        refine lv_iload hx hb d_MaskEdgesModel_alike_166 (lv_at hl 4 rfl) ?_
        obtain ⟨zr, hf⟩ := x_g hf
        replace hf := x_s hf
        subst hf
        subst hQ
        exact W.zret (v := v4) hx hb hr (xz_n zr) (fun t ht hW => ⟨⟨rfl, ht⟩, x_F0 ht⟩) x_l0 d_MaskEdgesModel_alike_168
      · replace hf := x_f hc hf
        refine lv_bipush (v := (-4 : Int32)) hx hb d_MaskEdgesModel_alike_85 (by decide) ?_
        refine lv_istore (lv' := [(6, .int (-4 : Int32)), (0, .ref (ad 0)), (1, .int v1), (2, .int v2), (3, .int v3), (4, .int v4), (5, .int v5)]) hx hb d_MaskEdgesModel_alike_87 hl (by decide) rfl (fun ls hl => ?_)
        exact (hL89 _ (hL160 _ hr79) 100000) v1 v2 v3 v4 v5 (-4 : Int32)  ls (lv_sub hl [1, 2, 3, 4, 5, 6, 0] rfl) hf
  have hL71 : ∀ (v1 : Int32) (v2 : Int32) (s0 : Int32), ∀ (ls : Array Slot), lv_has ls 7 [(0, .ref (ad 0)), (1, .int v1), (2, .int v2)] → f_MaskEdgesModel_alike_71 ST v1 v2 s0 = some res → W p l e (headSpec (Cond.code y_MaskEdgesModel_alike prog_8_method_40_code 7 (some .boolean) :: xT) ({ frames := 4, cells := 0, slots := 0, locals := 99 } : Room)).room s m args below meth c s.heap [] 0 0 Q (F0 m 71 ls [.int s0]) := by
    intro v1 v2 s0 ls hl hf
    unfold f_MaskEdgesModel_alike_71 at hf
    refine lv_istore_n (lv' := [(3, .int s0), (0, .ref (ad 0)), (1, .int v1), (2, .int v2)]) hx hb d_MaskEdgesModel_alike_71 rfl hl (by decide) rfl (fun ls hl => ?_)
    refine lv_iconst (v := (1 : Int32)) hx hb d_MaskEdgesModel_alike_72 (by decide) ?_
    refine lv_istore (lv' := [(4, .int (1 : Int32)), (3, .int s0), (0, .ref (ad 0)), (1, .int v1), (2, .int v2)]) hx hb d_MaskEdgesModel_alike_73 hl (by decide) rfl (fun ls hl => ?_)
    refine lv_bipush (v := (-4 : Int32)) hx hb d_MaskEdgesModel_alike_75 (by decide) ?_
    refine lv_istore (lv' := [(5, .int (-4 : Int32)), (4, .int (1 : Int32)), (3, .int s0), (0, .ref (ad 0)), (1, .int v1), (2, .int v2)]) hx hb d_MaskEdgesModel_alike_77 hl (by decide) rfl (fun ls hl => ?_)
    exact (hL79 100000) v1 v2 s0 (1 : Int32) (-4 : Int32)  ls (lv_sub hl [3, 4, 5, 2, 1, 0] rfl) hf
  unfold f_MaskEdgesModel_alike at hf
  refine lv_aload_n hx hb d_MaskEdgesModel_alike_0 rfl (lv_at hl 0 rfl) ?_
  refine lv_iload_n hx hb d_MaskEdgesModel_alike_1 rfl (lv_at hl 1 rfl) ?_
  obtain ⟨c2, e2, hf⟩ := x_b hf
  refine xcR (va_runV (As := [.int v1]) (rest := []) ⟨hx, hb, hml, hown, ht⟩ (c_MaskEdgesModel_isPiece l X ad ST v1 hP e2) (cwV 1 ht (xgV xw_588 xw_589 xw_28 xw_43 xw_590) rfl rfl rfl (by decide +kernel) ⟨Nat.le_of_ble_eq_true rfl, Nat.le_of_ble_eq_true rfl⟩) (xPV hKK (va_recv hK hP (ci := 6) (q0 := 0) rfl yg0)) rfl rfl hl.1 rfl (lv_room (Nat.le_of_ble_eq_true rfl)) d_MaskEdgesModel_alike_2 ⟨Nat.zero_le _, Nat.zero_le _⟩) ?_
  refine W.eq (g2 := F0 m 5 ls [.int c2]) rfl ?_
  refine lv_if_eq (tgt := 55) hx hb d_MaskEdgesModel_alike_5 (by decide) (fun hc => ?_) (fun hc => ?_)
  · replace hf := x_t hc hf
    refine lv_iconst (v := (0 : Int32)) hx hb d_MaskEdgesModel_alike_55 (by decide) ?_
    replace hf := x_s hf
    subst hf
    subst hQ
    exact W.zret (v := (0 : Int32)) hx hb hr (xz_n (by decide)) (fun t ht hW => ⟨⟨rfl, ht⟩, x_F0 ht⟩) x_l0 d_MaskEdgesModel_alike_56
  · replace hf := x_f hc hf
    refine lv_aload_n hx hb d_MaskEdgesModel_alike_8 rfl (lv_at hl 0 rfl) ?_
    refine lv_iload_n hx hb d_MaskEdgesModel_alike_9 rfl (lv_at hl 2 rfl) ?_
    obtain ⟨c10, e10, hf⟩ := x_b hf
    refine xcR (va_runV (As := [.int v2]) (rest := []) ⟨hx, hb, hml, hown, ht⟩ (c_MaskEdgesModel_isPiece l X ad ST v2 hP e10) (cwV 1 ht (xgV xw_588 xw_589 xw_28 xw_43 xw_590) rfl rfl rfl (by decide +kernel) ⟨Nat.le_of_ble_eq_true rfl, Nat.le_of_ble_eq_true rfl⟩) (xPV hKK (va_recv hK hP (ci := 6) (q0 := 0) rfl yg0)) rfl rfl hl.1 rfl (lv_room (Nat.le_of_ble_eq_true rfl)) d_MaskEdgesModel_alike_10 ⟨Nat.zero_le _, Nat.zero_le _⟩) ?_
    refine W.eq (g2 := F0 m 13 ls [.int c10]) rfl ?_
    refine lv_if_eq (tgt := 55) hx hb d_MaskEdgesModel_alike_13 (by decide) (fun hc => ?_) (fun hc => ?_)
    · replace hf := x_t hc hf
      refine lv_iconst (v := (0 : Int32)) hx hb d_MaskEdgesModel_alike_55 (by decide) ?_
      replace hf := x_s hf
      subst hf
      subst hQ
      exact W.zret (v := (0 : Int32)) hx hb hr (xz_n (by decide)) (fun t ht hW => ⟨⟨rfl, ht⟩, x_F0 ht⟩) x_l0 d_MaskEdgesModel_alike_56
    · replace hf := x_f hc hf
      refine lv_aload_n hx hb d_MaskEdgesModel_alike_16 rfl (lv_at hl 0 rfl) ?_
      refine va_get (D := X.1) (ci := 6) (v := .ref (ad 13)) (C := "MaskEdgesModel") (T := F_MaskEdgesModel) (N := 28) hx hb ht in_MaskEdgesModel hown hK hP 0 yg0 rfl 16 (by decide) (ht _ xw_463) (fun _ h9 => h9) rfl d_MaskEdgesModel_alike_17 ?_
      refine lv_iload_n hx hb d_MaskEdgesModel_alike_20 rfl (lv_at hl 1 rfl) ?_
      obtain ⟨g21, hf⟩ := x_g hf
      refine va_iald hx hb hK hP 13 0 yg13 rfl (xin_in g21) d_MaskEdgesModel_alike_21 ?_
      refine lv_if_eq (tgt := 55) hx hb d_MaskEdgesModel_alike_22 (by decide) (fun hc => ?_) (fun hc => ?_)
      · replace hf := x_t hc hf
        refine lv_iconst (v := (0 : Int32)) hx hb d_MaskEdgesModel_alike_55 (by decide) ?_
        replace hf := x_s hf
        subst hf
        subst hQ
        exact W.zret (v := (0 : Int32)) hx hb hr (xz_n (by decide)) (fun t ht hW => ⟨⟨rfl, ht⟩, x_F0 ht⟩) x_l0 d_MaskEdgesModel_alike_56
      · replace hf := x_f hc hf
        refine lv_aload_n hx hb d_MaskEdgesModel_alike_25 rfl (lv_at hl 0 rfl) ?_
        refine va_get (D := X.1) (ci := 6) (v := .ref (ad 13)) (C := "MaskEdgesModel") (T := F_MaskEdgesModel) (N := 28) hx hb ht in_MaskEdgesModel hown hK hP 0 yg0 rfl 16 (by decide) (ht _ xw_463) (fun _ h9 => h9) rfl d_MaskEdgesModel_alike_26 ?_
        refine lv_iload_n hx hb d_MaskEdgesModel_alike_29 rfl (lv_at hl 1 rfl) ?_
        obtain ⟨g30, hf⟩ := x_g hf
        refine va_iald hx hb hK hP 13 0 yg13 rfl (xin_in g30) d_MaskEdgesModel_alike_30 ?_
        refine lv_aload_n hx hb d_MaskEdgesModel_alike_31 rfl (lv_at hl 0 rfl) ?_
        refine va_get (D := X.1) (ci := 6) (v := .ref (ad 13)) (C := "MaskEdgesModel") (T := F_MaskEdgesModel) (N := 28) hx hb ht in_MaskEdgesModel hown hK hP 0 yg0 rfl 16 (by decide) (ht _ xw_463) (fun _ h9 => h9) rfl d_MaskEdgesModel_alike_32 ?_
        refine lv_iload_n hx hb d_MaskEdgesModel_alike_35 rfl (lv_at hl 2 rfl) ?_
        obtain ⟨g36, hf⟩ := x_g hf
        refine va_iald hx hb hK hP 13 0 yg13 rfl (xin_in g36) d_MaskEdgesModel_alike_36 ?_
        refine lv_icmp_ne (tgt := 55) hx hb d_MaskEdgesModel_alike_37 (by decide) (fun hc => ?_) (fun hc => ?_)
        · replace hf := x_f hc hf
          refine lv_iconst (v := (0 : Int32)) hx hb d_MaskEdgesModel_alike_55 (by decide) ?_
          replace hf := x_s hf
          subst hf
          subst hQ
          exact W.zret (v := (0 : Int32)) hx hb hr (xz_n (by decide)) (fun t ht hW => ⟨⟨rfl, ht⟩, x_F0 ht⟩) x_l0 d_MaskEdgesModel_alike_56
        · replace hf := x_t hc hf
          refine lv_aload_n hx hb d_MaskEdgesModel_alike_40 rfl (lv_at hl 0 rfl) ?_
          refine va_get (D := X.1) (ci := 6) (v := .ref (ad 10)) (C := "MaskEdgesModel") (T := F_MaskEdgesModel) (N := 28) hx hb ht in_MaskEdgesModel hown hK hP 0 yg0 rfl 13 (by decide) (ht _ xw_460) (fun _ h9 => h9) rfl d_MaskEdgesModel_alike_41 ?_
          refine lv_iload_n hx hb d_MaskEdgesModel_alike_44 rfl (lv_at hl 1 rfl) ?_
          obtain ⟨g45, hf⟩ := x_g hf
          refine va_zald hx hb hK hP 10 5 yg10 rfl (xin_in g45) d_MaskEdgesModel_alike_45 ?_
          refine lv_aload_n hx hb d_MaskEdgesModel_alike_46 rfl (lv_at hl 0 rfl) ?_
          refine va_get (D := X.1) (ci := 6) (v := .ref (ad 10)) (C := "MaskEdgesModel") (T := F_MaskEdgesModel) (N := 28) hx hb ht in_MaskEdgesModel hown hK hP 0 yg0 rfl 13 (by decide) (ht _ xw_460) (fun _ h9 => h9) rfl d_MaskEdgesModel_alike_47 ?_
          refine lv_iload_n hx hb d_MaskEdgesModel_alike_50 rfl (lv_at hl 2 rfl) ?_
          obtain ⟨g51, hf⟩ := x_g hf
          refine va_zald hx hb hK hP 10 5 yg10 rfl (xin_in g51) d_MaskEdgesModel_alike_51 ?_
          refine lv_icmp_eq (tgt := 57) hx hb d_MaskEdgesModel_alike_52 (by decide) (fun hc => ?_) (fun hc => ?_)
          · replace hf := x_t hc hf
            refine lv_aload_n hx hb d_MaskEdgesModel_alike_57 rfl (lv_at hl 0 rfl) ?_
            refine va_get (D := X.1) (ci := 6) (v := .ref (ad 13)) (C := "MaskEdgesModel") (T := F_MaskEdgesModel) (N := 28) hx hb ht in_MaskEdgesModel hown hK hP 0 yg0 rfl 16 (by decide) (ht _ xw_463) (fun _ h9 => h9) rfl d_MaskEdgesModel_alike_58 ?_
            refine lv_iload_n hx hb d_MaskEdgesModel_alike_61 rfl (lv_at hl 1 rfl) ?_
            obtain ⟨g62, hf⟩ := x_g hf
            refine va_iald hx hb hK hP 13 0 yg13 rfl (xin_in g62) d_MaskEdgesModel_alike_62 ?_
            refine lv_if_le (tgt := 70) hx hb d_MaskEdgesModel_alike_63 (by decide) (fun hc => ?_) (fun hc => ?_)
            · replace hf := x_t hc hf
              refine lv_iconst (v := (0 : Int32)) hx hb d_MaskEdgesModel_alike_70 (by decide) ?_
              exact hL71 v1 v2 (0 : Int32)  ls (lv_sub hl [0, 1, 2] rfl) hf
            · replace hf := x_f hc hf
              refine lv_iconst (v := (-1 : Int32)) hx hb d_MaskEdgesModel_alike_66 (by decide) ?_
              refine lv_goto (tgt := 71) hx hb d_MaskEdgesModel_alike_67 (by decide) ?_
              exact hL71 v1 v2 (-1 : Int32)  ls (lv_sub hl [0, 1, 2] rfl) hf
          · replace hf := x_f hc hf
            refine lv_iconst (v := (0 : Int32)) hx hb d_MaskEdgesModel_alike_55 (by decide) ?_
            replace hf := x_s hf
            subst hf
            subst hQ
            exact W.zret (v := (0 : Int32)) hx hb hr (xz_n (by decide)) (fun t ht hW => ⟨⟨rfl, ht⟩, x_F0 ht⟩) x_l0 d_MaskEdgesModel_alike_56
def f_MaskEdgesModel_shift_179 (r44 : Int32 → Int32 → Int32 → Int32 → ySt → Option (Int32 × ySt)) (v1 : Int32) (v2 : Int32) (v4 : Int32) (v6 : Int32) (s0 : Int32) (ST : ySt) : Option (Int32 × ySt) :=
  if xin v4 120 = true then
  r44 v1 v2 s0 (v4 + (1 : Int32)) (Y_u_moves ST (upd (Y_moves ST) v4.toNatClampNeg v6))
else none
def f_MaskEdgesModel_shift_158 (r44 : Int32 → Int32 → Int32 → Int32 → ySt → Option (Int32 × ySt)) (v1 : Int32) (v2 : Int32) (v3 : Int32) (v4 : Int32) (s0 : Int32) (ST : ySt) : Option (Int32 × ySt) :=
  if xin v4 120 = true then
  if s0 = (Y_moves ST v4.toNatClampNeg) then
    (f_MaskEdgesModel_shift_179 r44) v1 v2 v4 s0 v3 ST
  else
    (f_MaskEdgesModel_shift_179 r44) v1 v2 v4 s0 (v3 + (1 : Int32)) ST
else none
def f_MaskEdgesModel_shift_151 (r44 : Int32 → Int32 → Int32 → Int32 → ySt → Option (Int32 × ySt)) (v1 : Int32) (v2 : Int32) (v3 : Int32) (v4 : Int32) (ST : ySt) : Option (Int32 × ySt) :=
  if xin v4 120 = true then
  (f_MaskEdgesModel_shift_158 r44) v1 v2 v3 v4 (Y_moves ST v4.toNatClampNeg) ST
else none
def f_MaskEdgesModel_shift_117 (r44 : Int32 → Int32 → Int32 → Int32 → ySt → Option (Int32 × ySt)) (v1 : Int32) (v2 : Int32) (v3 : Int32) (v4 : Int32) (s0 : Int32) (ST : ySt) : Option (Int32 × ySt) :=
  if s0 = 0 then
  (f_MaskEdgesModel_shift_151 r44) v1 v2 v3 v4 ST
else
  if xin v4 120 = true then
    if (Y_out ST v4.toNatClampNeg) = 0 then
      (f_MaskEdgesModel_shift_151 r44) v1 v2 v3 v4 ST
    else
      if xin v4 120 = true then
        (f_MaskEdgesModel_clamp ((Y_moves ST v4.toNatClampNeg) + v2) (6 : Int32)).bind fun c145 =>
          (f_MaskEdgesModel_shift_158 r44) v1 v2 v3 v4 c145 ST
      else none
  else none
def f_MaskEdgesModel_shift_112 (r44 : Int32 → Int32 → Int32 → Int32 → ySt → Option (Int32 × ySt)) (v1 : Int32) (v2 : Int32) (v3 : Int32) (v4 : Int32) (ST : ySt) : Option (Int32 × ySt) :=
  (f_MaskEdgesModel_shift_117 r44) v1 v2 v3 v4 (1 : Int32) ST
def f_MaskEdgesModel_shift_116 (r44 : Int32 → Int32 → Int32 → Int32 → ySt → Option (Int32 × ySt)) (v1 : Int32) (v2 : Int32) (v3 : Int32) (v4 : Int32) (ST : ySt) : Option (Int32 × ySt) :=
  (f_MaskEdgesModel_shift_117 r44) v1 v2 v3 v4 (0 : Int32) ST
def f_MaskEdgesModel_shift_87 (r44 : Int32 → Int32 → Int32 → Int32 → ySt → Option (Int32 × ySt)) (v1 : Int32) (v2 : Int32) (v3 : Int32) (v4 : Int32) (ST : ySt) : Option (Int32 × ySt) :=
  if v1 = (3 : Int32) then
  if xin v4 120 = true then
    if (Y_isFirst ST v4.toNatClampNeg) = 0 then
      if xin v4 120 = true then
        if (Y_isLast ST v4.toNatClampNeg) = 0 then
          (f_MaskEdgesModel_shift_116 r44) v1 v2 v3 v4 ST
        else
          (f_MaskEdgesModel_shift_112 r44) v1 v2 v3 v4 ST
      else none
    else
      (f_MaskEdgesModel_shift_112 r44) v1 v2 v3 v4 ST
  else none
else
  (f_MaskEdgesModel_shift_116 r44) v1 v2 v3 v4 ST
def f_MaskEdgesModel_shift_72 (r44 : Int32 → Int32 → Int32 → Int32 → ySt → Option (Int32 × ySt)) (v1 : Int32) (v2 : Int32) (v3 : Int32) (v4 : Int32) (ST : ySt) : Option (Int32 × ySt) :=
  if v1 = (2 : Int32) then
  if xin v4 120 = true then
    if (Y_isAlongX ST v4.toNatClampNeg) = 0 then
      (f_MaskEdgesModel_shift_112 r44) v1 v2 v3 v4 ST
    else
      (f_MaskEdgesModel_shift_87 r44) v1 v2 v3 v4 ST
  else none
else
  (f_MaskEdgesModel_shift_87 r44) v1 v2 v3 v4 ST
def f_MaskEdgesModel_shift_44 (r44 : Int32 → Int32 → Int32 → Int32 → ySt → Option (Int32 × ySt)) (v1 : Int32) (v2 : Int32) (v3 : Int32) (v4 : Int32) (ST : ySt) : Option (Int32 × ySt) :=
  if (Y_pieces ST) ≤ v4 then
  some (v3, ST)
else
  if v1 = 0 then
    (f_MaskEdgesModel_shift_112 r44) v1 v2 v3 v4 ST
  else
    if v1 = (1 : Int32) then
      if xin v4 120 = true then
        if (Y_isAlongX ST v4.toNatClampNeg) = 0 then
          (f_MaskEdgesModel_shift_72 r44) v1 v2 v3 v4 ST
        else
          (f_MaskEdgesModel_shift_112 r44) v1 v2 v3 v4 ST
      else none
    else
      (f_MaskEdgesModel_shift_72 r44) v1 v2 v3 v4 ST
def f_MaskEdgesModel_shift (v1 : Int32) (v2 : Int32) (ST : ySt) : Option (Int32 × ySt) :=
  (f_MaskEdgesModel_isBetween v1.toInt64 (0 : Int64) (3 : Int64)).bind fun c6 =>
  if c6 = 0 then
  some ((-2 : Int32), ST)
else
  (f_MaskEdgesModel_isBetween v2.toInt64 (-6 : Int64) (6 : Int64)).bind fun c20 =>
    if c20 = 0 then
    some ((-2 : Int32), ST)
  else
    if (Y_pieces ST) = 0 then
      some ((-3 : Int32), ST)
    else
      (xloop (fun r => f_MaskEdgesModel_shift_44 r) (fun _ _ _ _ _ => none) 100000) v1 v2 (0 : Int32) (0 : Int32) ST
set_option maxHeartbeats 4000000 in
set_option maxRecDepth 100000 in
theorem c_MaskEdgesModel_shift (l : Launch) (X : xG) {H : Heap} (ad : Nat → Nat) (ST : ySt) (v1 : Int32) (v2 : Int32) {res : Int32 × ySt} (hP : va_P X.1 vwCl (wY X ad ST) H) (hA : okB ad) (hf : f_MaskEdgesModel_shift v1 v2 ST = some res) : xM l y_MaskEdgesModel_shift (Cond.code y_MaskEdgesModel_shift prog_8_method_41_code 7 (some .int) :: xT) ({ frames := 1, cells := 0, slots := 0, locals := 25 } : Room) (xK X) [.ref (ad 0), .int v1, .int v2] H (yA ad) (some (.int res.1)) (fun H1 => va_P X.1 vwCl (wY X ad res.2) H1) := by
  refine Met.ofW (cc := prog_8_method_41_code) (maxL := 7) (ret := (some .int)) (by decide) rfl ?_
  intro p e s m args below meth c s₁ B hml hv
  obtain ⟨ha, hH, hKK⟩ := hv
  subst hH
  have hx := B.exec
  have hb := B.bytes
  have hr := B.returns
  have ht : ∀ w ∈ xT, w.before args s = true := fun w h => atoms_spec (ws := (Cond.code y_MaskEdgesModel_shift prog_8_method_41_code 7 (some .int) :: xT)) B.pre w (List.mem_cons_of_mem _ h)
  have hown : s.vm.findClass "MaskEdgesModel" = some m.cls := findClass_of_methodNamed B.named
  have hlocks := B.notSynchronized
  have hK := hKK.1
  rw [show entryFrame m args 7 = entryFrame m ([.ref (ad 0), .int v1, .int v2] : List Value).toArray 7 from by rw [ha]]
  clear ha
  have hS : va_S (yA ad) s.heap s.heap [] := va_S.rf
  have hl := lv_entry ([.ref (ad 0), .int v1, .int v2]) (n := 7) (Nat.le_of_ble_eq_true rfl)
  rw [lg_entry_eq]
  generalize (lg_sl ([.ref (ad 0), .int v1, .int v2]) ++ List.replicate (7 - (lg_sl ([.ref (ad 0), .int v1, .int v2])).length) Slot.unset).toArray = ls at hl ⊢
  replace hl : lv_has ls 7 [(0, .ref (ad 0)), (1, .int v1), (2, .int v2)] := hl
  refine x_Q (fun Q hQ => ?_)
  have hL179 : ∀ (r44 : Int32 → Int32 → Int32 → Int32 → ySt → Option (Int32 × ySt)) (hr44 : ∀ (v1 : Int32) (v2 : Int32) (v3 : Int32) (v4 : Int32) (ST : ySt), ∀ (H : Heap) (locs : List Loc), va_P X.1 vwCl (wY X ad ST) H → va_S (yA ad) s.heap H locs → ∀ (ls : Array Slot), lv_has ls 7 [(0, .ref (ad 0)), (1, .int v1), (2, .int v2), (3, .int v3), (4, .int v4)] → r44 v1 v2 v3 v4 ST = some res → W p l e (headSpec (Cond.code y_MaskEdgesModel_shift prog_8_method_41_code 7 (some .int) :: xT) ({ frames := 1, cells := 0, slots := 0, locals := 25 } : Room)).room s m args below meth c H locs 0 0 Q (F0 m 44 ls [])), ∀ (v1 : Int32) (v2 : Int32) (v4 : Int32) (v6 : Int32) (s0 : Int32) (ST : ySt), ∀ (H : Heap) (locs : List Loc), va_P X.1 vwCl (wY X ad ST) H → va_S (yA ad) s.heap H locs → ∀ (ls : Array Slot), lv_has ls 7 [(0, .ref (ad 0)), (1, .int v1), (2, .int v2), (4, .int v4), (6, .int v6)] → f_MaskEdgesModel_shift_179 r44 v1 v2 v4 v6 s0 ST = some res → W p l e (headSpec (Cond.code y_MaskEdgesModel_shift prog_8_method_41_code 7 (some .int) :: xT) ({ frames := 1, cells := 0, slots := 0, locals := 25 } : Room)).room s m args below meth c H locs 0 0 Q (F0 m 179 ls [.int s0]) := by
    intro r44 hr44 v1 v2 v4 v6 s0 ST H locs hP hS ls hl hf
    unfold f_MaskEdgesModel_shift_179 at hf
    refine lv_istore_n (lv' := [(3, .int s0), (0, .ref (ad 0)), (1, .int v1), (2, .int v2), (4, .int v4), (6, .int v6)]) hx hb d_MaskEdgesModel_shift_179 rfl hl (by decide) rfl (fun ls hl => ?_)
    refine lv_aload_n hx hb d_MaskEdgesModel_shift_180 rfl (lv_at hl 1 rfl) ?_
    refine va_get (D := X.1) (ci := 6) (v := .ref (ad 14)) (C := "MaskEdgesModel") (T := F_MaskEdgesModel) (N := 28) hx hb ht in_MaskEdgesModel hown hK hP 0 yg0 rfl 17 (by decide) (ht _ xw_464) (fun _ h9 => h9) rfl d_MaskEdgesModel_shift_181 ?_
    refine lv_iload hx hb d_MaskEdgesModel_shift_184 (lv_at hl 4 rfl) ?_
    refine lv_iload hx hb d_MaskEdgesModel_shift_186 (lv_at hl 5 rfl) ?_
    obtain ⟨g188, hf⟩ := x_g hf
    refine va_iast hx hb hK hP (yD hA) hS 14 0 yg14 rfl (xin_in g188) d_MaskEdgesModel_shift_188 (fun H locs hP _ hS => ?_)
    replace hP : va_P X.1 vwCl (wY X ad (Y_u_moves ST (upd (Y_moves ST) v4.toNatClampNeg v6))) H := xeq ym_moves hP
    refine lv_iinc (v := (v4 + (1 : Int32))) (lv' := [(4, .int (v4 + (1 : Int32))), (3, .int s0), (0, .ref (ad 0)), (1, .int v1), (2, .int v2), (6, .int v6)]) hx hb d_MaskEdgesModel_shift_189 hl (k := 4) rfl rfl (by decide) rfl (fun ls hl => ?_)
    refine lv_goto (tgt := 44) hx hb d_MaskEdgesModel_shift_192 (by decide) ?_
    exact hr44 v1 v2 s0 (v4 + (1 : Int32)) (Y_u_moves ST (upd (Y_moves ST) v4.toNatClampNeg v6)) _ _ hP hS ls (lv_sub hl [2, 3, 4, 1, 0] rfl) hf
  have hL158 : ∀ (r44 : Int32 → Int32 → Int32 → Int32 → ySt → Option (Int32 × ySt)) (hr44 : ∀ (v1 : Int32) (v2 : Int32) (v3 : Int32) (v4 : Int32) (ST : ySt), ∀ (H : Heap) (locs : List Loc), va_P X.1 vwCl (wY X ad ST) H → va_S (yA ad) s.heap H locs → ∀ (ls : Array Slot), lv_has ls 7 [(0, .ref (ad 0)), (1, .int v1), (2, .int v2), (3, .int v3), (4, .int v4)] → r44 v1 v2 v3 v4 ST = some res → W p l e (headSpec (Cond.code y_MaskEdgesModel_shift prog_8_method_41_code 7 (some .int) :: xT) ({ frames := 1, cells := 0, slots := 0, locals := 25 } : Room)).room s m args below meth c H locs 0 0 Q (F0 m 44 ls [])), ∀ (v1 : Int32) (v2 : Int32) (v3 : Int32) (v4 : Int32) (s0 : Int32) (ST : ySt), ∀ (H : Heap) (locs : List Loc), va_P X.1 vwCl (wY X ad ST) H → va_S (yA ad) s.heap H locs → ∀ (ls : Array Slot), lv_has ls 7 [(0, .ref (ad 0)), (1, .int v1), (2, .int v2), (3, .int v3), (4, .int v4)] → f_MaskEdgesModel_shift_158 r44 v1 v2 v3 v4 s0 ST = some res → W p l e (headSpec (Cond.code y_MaskEdgesModel_shift prog_8_method_41_code 7 (some .int) :: xT) ({ frames := 1, cells := 0, slots := 0, locals := 25 } : Room)).room s m args below meth c H locs 0 0 Q (F0 m 158 ls [.int s0]) := by
    intro r44 hr44 v1 v2 v3 v4 s0 ST H locs hP hS ls hl hf
    unfold f_MaskEdgesModel_shift_158 at hf
    refine lv_istore (lv' := [(6, .int s0), (0, .ref (ad 0)), (1, .int v1), (2, .int v2), (3, .int v3), (4, .int v4)]) hx hb d_MaskEdgesModel_shift_158 hl (by decide) rfl (fun ls hl => ?_)
    refine lv_iload hx hb d_MaskEdgesModel_shift_160 (lv_at hl 0 rfl) ?_
    refine lv_aload_n hx hb d_MaskEdgesModel_shift_162 rfl (lv_at hl 1 rfl) ?_
    refine va_get (D := X.1) (ci := 6) (v := .ref (ad 14)) (C := "MaskEdgesModel") (T := F_MaskEdgesModel) (N := 28) hx hb ht in_MaskEdgesModel hown hK hP 0 yg0 rfl 17 (by decide) (ht _ xw_464) (fun _ h9 => h9) rfl d_MaskEdgesModel_shift_163 ?_
    refine lv_iload hx hb d_MaskEdgesModel_shift_166 (lv_at hl 5 rfl) ?_
    obtain ⟨g168, hf⟩ := x_g hf
    refine va_iald hx hb hK hP 14 0 yg14 rfl (xin_in g168) d_MaskEdgesModel_shift_168 ?_
    refine lv_icmp_eq (tgt := 178) hx hb d_MaskEdgesModel_shift_169 (by decide) (fun hc => ?_) (fun hc => ?_)
    · replace hf := x_t hc hf
      refine lv_iload_n hx hb d_MaskEdgesModel_shift_178 rfl (lv_at hl 4 rfl) ?_
      exact (hL179 _ hr44) v1 v2 v4 s0 v3 ST _ _ hP hS ls (lv_sub hl [1, 2, 3, 5, 0] rfl) hf
    · replace hf := x_f hc hf
      refine lv_iload_n hx hb d_MaskEdgesModel_shift_172 rfl (lv_at hl 4 rfl) ?_
      refine lv_iconst (v := (1 : Int32)) hx hb d_MaskEdgesModel_shift_173 (by decide) ?_
      refine lv_iadd hx hb d_MaskEdgesModel_shift_174 ?_
      refine lv_goto (tgt := 179) hx hb d_MaskEdgesModel_shift_175 (by decide) ?_
      exact (hL179 _ hr44) v1 v2 v4 s0 (v3 + (1 : Int32)) ST _ _ hP hS ls (lv_sub hl [1, 2, 3, 5, 0] rfl) hf
  have hL151 : ∀ (r44 : Int32 → Int32 → Int32 → Int32 → ySt → Option (Int32 × ySt)) (hr44 : ∀ (v1 : Int32) (v2 : Int32) (v3 : Int32) (v4 : Int32) (ST : ySt), ∀ (H : Heap) (locs : List Loc), va_P X.1 vwCl (wY X ad ST) H → va_S (yA ad) s.heap H locs → ∀ (ls : Array Slot), lv_has ls 7 [(0, .ref (ad 0)), (1, .int v1), (2, .int v2), (3, .int v3), (4, .int v4)] → r44 v1 v2 v3 v4 ST = some res → W p l e (headSpec (Cond.code y_MaskEdgesModel_shift prog_8_method_41_code 7 (some .int) :: xT) ({ frames := 1, cells := 0, slots := 0, locals := 25 } : Room)).room s m args below meth c H locs 0 0 Q (F0 m 44 ls [])), ∀ (v1 : Int32) (v2 : Int32) (v3 : Int32) (v4 : Int32) (ST : ySt), ∀ (H : Heap) (locs : List Loc), va_P X.1 vwCl (wY X ad ST) H → va_S (yA ad) s.heap H locs → ∀ (ls : Array Slot), lv_has ls 7 [(0, .ref (ad 0)), (1, .int v1), (2, .int v2), (3, .int v3), (4, .int v4)] → f_MaskEdgesModel_shift_151 r44 v1 v2 v3 v4 ST = some res → W p l e (headSpec (Cond.code y_MaskEdgesModel_shift prog_8_method_41_code 7 (some .int) :: xT) ({ frames := 1, cells := 0, slots := 0, locals := 25 } : Room)).room s m args below meth c H locs 0 0 Q (F0 m 151 ls []) := by
    intro r44 hr44 v1 v2 v3 v4 ST H locs hP hS ls hl hf
    unfold f_MaskEdgesModel_shift_151 at hf
    refine lv_aload_n hx hb d_MaskEdgesModel_shift_151 rfl (lv_at hl 0 rfl) ?_
    refine va_get (D := X.1) (ci := 6) (v := .ref (ad 14)) (C := "MaskEdgesModel") (T := F_MaskEdgesModel) (N := 28) hx hb ht in_MaskEdgesModel hown hK hP 0 yg0 rfl 17 (by decide) (ht _ xw_464) (fun _ h9 => h9) rfl d_MaskEdgesModel_shift_152 ?_
    refine lv_iload hx hb d_MaskEdgesModel_shift_155 (lv_at hl 4 rfl) ?_
    obtain ⟨g157, hf⟩ := x_g hf
    refine va_iald hx hb hK hP 14 0 yg14 rfl (xin_in g157) d_MaskEdgesModel_shift_157 ?_
    exact (hL158 _ hr44) v1 v2 v3 v4 (Y_moves ST v4.toNatClampNeg) ST _ _ hP hS ls (lv_sub hl [0, 1, 2, 3, 4] rfl) hf
  have hL117 : ∀ (r44 : Int32 → Int32 → Int32 → Int32 → ySt → Option (Int32 × ySt)) (hr44 : ∀ (v1 : Int32) (v2 : Int32) (v3 : Int32) (v4 : Int32) (ST : ySt), ∀ (H : Heap) (locs : List Loc), va_P X.1 vwCl (wY X ad ST) H → va_S (yA ad) s.heap H locs → ∀ (ls : Array Slot), lv_has ls 7 [(0, .ref (ad 0)), (1, .int v1), (2, .int v2), (3, .int v3), (4, .int v4)] → r44 v1 v2 v3 v4 ST = some res → W p l e (headSpec (Cond.code y_MaskEdgesModel_shift prog_8_method_41_code 7 (some .int) :: xT) ({ frames := 1, cells := 0, slots := 0, locals := 25 } : Room)).room s m args below meth c H locs 0 0 Q (F0 m 44 ls [])), ∀ (v1 : Int32) (v2 : Int32) (v3 : Int32) (v4 : Int32) (s0 : Int32) (ST : ySt), ∀ (H : Heap) (locs : List Loc), va_P X.1 vwCl (wY X ad ST) H → va_S (yA ad) s.heap H locs → ∀ (ls : Array Slot), lv_has ls 7 [(0, .ref (ad 0)), (1, .int v1), (2, .int v2), (3, .int v3), (4, .int v4)] → f_MaskEdgesModel_shift_117 r44 v1 v2 v3 v4 s0 ST = some res → W p l e (headSpec (Cond.code y_MaskEdgesModel_shift prog_8_method_41_code 7 (some .int) :: xT) ({ frames := 1, cells := 0, slots := 0, locals := 25 } : Room)).room s m args below meth c H locs 0 0 Q (F0 m 117 ls [.int s0]) := by
    intro r44 hr44 v1 v2 v3 v4 s0 ST H locs hP hS ls hl hf
    unfold f_MaskEdgesModel_shift_117 at hf
    refine lv_istore (lv' := [(5, .int s0), (0, .ref (ad 0)), (1, .int v1), (2, .int v2), (3, .int v3), (4, .int v4)]) hx hb d_MaskEdgesModel_shift_117 hl (by decide) rfl (fun ls hl => ?_)
    refine lv_iload hx hb d_MaskEdgesModel_shift_119 (lv_at hl 0 rfl) ?_
    refine lv_if_eq (tgt := 151) hx hb d_MaskEdgesModel_shift_121 (by decide) (fun hc => ?_) (fun hc => ?_)
    · replace hf := x_t hc hf
      exact (hL151 _ hr44) v1 v2 v3 v4 ST _ _ hP hS ls (lv_sub hl [1, 2, 3, 4, 5] rfl) hf
    · replace hf := x_f hc hf
      refine lv_aload_n hx hb d_MaskEdgesModel_shift_124 rfl (lv_at hl 1 rfl) ?_
      refine va_get (D := X.1) (ci := 6) (v := .ref (ad 13)) (C := "MaskEdgesModel") (T := F_MaskEdgesModel) (N := 28) hx hb ht in_MaskEdgesModel hown hK hP 0 yg0 rfl 16 (by decide) (ht _ xw_463) (fun _ h9 => h9) rfl d_MaskEdgesModel_shift_125 ?_
      refine lv_iload hx hb d_MaskEdgesModel_shift_128 (lv_at hl 5 rfl) ?_
      obtain ⟨g130, hf⟩ := x_g hf
      refine va_iald hx hb hK hP 13 0 yg13 rfl (xin_in g130) d_MaskEdgesModel_shift_130 ?_
      refine lv_if_eq (tgt := 151) hx hb d_MaskEdgesModel_shift_131 (by decide) (fun hc => ?_) (fun hc => ?_)
      · replace hf := x_t hc hf
        exact (hL151 _ hr44) v1 v2 v3 v4 ST _ _ hP hS ls (lv_sub hl [1, 2, 3, 4, 5] rfl) hf
      · replace hf := x_f hc hf
        refine lv_aload_n hx hb d_MaskEdgesModel_shift_134 rfl (lv_at hl 1 rfl) ?_
        refine va_get (D := X.1) (ci := 6) (v := .ref (ad 14)) (C := "MaskEdgesModel") (T := F_MaskEdgesModel) (N := 28) hx hb ht in_MaskEdgesModel hown hK hP 0 yg0 rfl 17 (by decide) (ht _ xw_464) (fun _ h9 => h9) rfl d_MaskEdgesModel_shift_135 ?_
        refine lv_iload hx hb d_MaskEdgesModel_shift_138 (lv_at hl 5 rfl) ?_
        obtain ⟨g140, hf⟩ := x_g hf
        refine va_iald hx hb hK hP 14 0 yg14 rfl (xin_in g140) d_MaskEdgesModel_shift_140 ?_
        refine lv_iload_n hx hb d_MaskEdgesModel_shift_141 rfl (lv_at hl 3 rfl) ?_
        refine lv_iadd hx hb d_MaskEdgesModel_shift_142 ?_
        refine lv_bipush (v := (6 : Int32)) hx hb d_MaskEdgesModel_shift_143 (by decide) ?_
        obtain ⟨c145, e145, hf⟩ := x_b hf
        refine xcR (va_runS (As := [.int ((Y_moves ST v4.toNatClampNeg) + v2), .int (6 : Int32)]) (rest := []) ⟨hx, hb, hml, hown, ht⟩ (c_MaskEdgesModel_clamp l X ((Y_moves ST v4.toNatClampNeg) + v2) (6 : Int32) e145) (cwS 2 ht (xgS xw_612 xw_613 xw_43 xw_614) rfl rfl rfl (by decide +kernel) ⟨Nat.le_of_ble_eq_true rfl, Nat.le_of_ble_eq_true rfl⟩) (xPS hKK) rfl rfl hl.1 rfl (lv_room (Nat.le_of_ble_eq_true rfl)) d_MaskEdgesModel_shift_145 ⟨Nat.zero_le _, Nat.zero_le _⟩) ?_
        refine W.eq (g2 := F0 m 148 ls [.int c145]) rfl ?_
        refine lv_goto (tgt := 158) hx hb d_MaskEdgesModel_shift_148 (by decide) ?_
        exact (hL158 _ hr44) v1 v2 v3 v4 c145 ST _ _ hP hS ls (lv_sub hl [1, 2, 3, 4, 5] rfl) hf
  have hL112 : ∀ (r44 : Int32 → Int32 → Int32 → Int32 → ySt → Option (Int32 × ySt)) (hr44 : ∀ (v1 : Int32) (v2 : Int32) (v3 : Int32) (v4 : Int32) (ST : ySt), ∀ (H : Heap) (locs : List Loc), va_P X.1 vwCl (wY X ad ST) H → va_S (yA ad) s.heap H locs → ∀ (ls : Array Slot), lv_has ls 7 [(0, .ref (ad 0)), (1, .int v1), (2, .int v2), (3, .int v3), (4, .int v4)] → r44 v1 v2 v3 v4 ST = some res → W p l e (headSpec (Cond.code y_MaskEdgesModel_shift prog_8_method_41_code 7 (some .int) :: xT) ({ frames := 1, cells := 0, slots := 0, locals := 25 } : Room)).room s m args below meth c H locs 0 0 Q (F0 m 44 ls [])), ∀ (v1 : Int32) (v2 : Int32) (v3 : Int32) (v4 : Int32) (ST : ySt), ∀ (H : Heap) (locs : List Loc), va_P X.1 vwCl (wY X ad ST) H → va_S (yA ad) s.heap H locs → ∀ (ls : Array Slot), lv_has ls 7 [(0, .ref (ad 0)), (1, .int v1), (2, .int v2), (3, .int v3), (4, .int v4)] → f_MaskEdgesModel_shift_112 r44 v1 v2 v3 v4 ST = some res → W p l e (headSpec (Cond.code y_MaskEdgesModel_shift prog_8_method_41_code 7 (some .int) :: xT) ({ frames := 1, cells := 0, slots := 0, locals := 25 } : Room)).room s m args below meth c H locs 0 0 Q (F0 m 112 ls []) := by
    intro r44 hr44 v1 v2 v3 v4 ST H locs hP hS ls hl hf
    unfold f_MaskEdgesModel_shift_112 at hf
    refine lv_iconst (v := (1 : Int32)) hx hb d_MaskEdgesModel_shift_112 (by decide) ?_
    refine lv_goto (tgt := 117) hx hb d_MaskEdgesModel_shift_113 (by decide) ?_
    exact (hL117 _ hr44) v1 v2 v3 v4 (1 : Int32) ST _ _ hP hS ls (lv_sub hl [0, 1, 2, 3, 4] rfl) hf
  have hL116 : ∀ (r44 : Int32 → Int32 → Int32 → Int32 → ySt → Option (Int32 × ySt)) (hr44 : ∀ (v1 : Int32) (v2 : Int32) (v3 : Int32) (v4 : Int32) (ST : ySt), ∀ (H : Heap) (locs : List Loc), va_P X.1 vwCl (wY X ad ST) H → va_S (yA ad) s.heap H locs → ∀ (ls : Array Slot), lv_has ls 7 [(0, .ref (ad 0)), (1, .int v1), (2, .int v2), (3, .int v3), (4, .int v4)] → r44 v1 v2 v3 v4 ST = some res → W p l e (headSpec (Cond.code y_MaskEdgesModel_shift prog_8_method_41_code 7 (some .int) :: xT) ({ frames := 1, cells := 0, slots := 0, locals := 25 } : Room)).room s m args below meth c H locs 0 0 Q (F0 m 44 ls [])), ∀ (v1 : Int32) (v2 : Int32) (v3 : Int32) (v4 : Int32) (ST : ySt), ∀ (H : Heap) (locs : List Loc), va_P X.1 vwCl (wY X ad ST) H → va_S (yA ad) s.heap H locs → ∀ (ls : Array Slot), lv_has ls 7 [(0, .ref (ad 0)), (1, .int v1), (2, .int v2), (3, .int v3), (4, .int v4)] → f_MaskEdgesModel_shift_116 r44 v1 v2 v3 v4 ST = some res → W p l e (headSpec (Cond.code y_MaskEdgesModel_shift prog_8_method_41_code 7 (some .int) :: xT) ({ frames := 1, cells := 0, slots := 0, locals := 25 } : Room)).room s m args below meth c H locs 0 0 Q (F0 m 116 ls []) := by
    intro r44 hr44 v1 v2 v3 v4 ST H locs hP hS ls hl hf
    unfold f_MaskEdgesModel_shift_116 at hf
    refine lv_iconst (v := (0 : Int32)) hx hb d_MaskEdgesModel_shift_116 (by decide) ?_
    exact (hL117 _ hr44) v1 v2 v3 v4 (0 : Int32) ST _ _ hP hS ls (lv_sub hl [0, 1, 2, 3, 4] rfl) hf
  have hL87 : ∀ (r44 : Int32 → Int32 → Int32 → Int32 → ySt → Option (Int32 × ySt)) (hr44 : ∀ (v1 : Int32) (v2 : Int32) (v3 : Int32) (v4 : Int32) (ST : ySt), ∀ (H : Heap) (locs : List Loc), va_P X.1 vwCl (wY X ad ST) H → va_S (yA ad) s.heap H locs → ∀ (ls : Array Slot), lv_has ls 7 [(0, .ref (ad 0)), (1, .int v1), (2, .int v2), (3, .int v3), (4, .int v4)] → r44 v1 v2 v3 v4 ST = some res → W p l e (headSpec (Cond.code y_MaskEdgesModel_shift prog_8_method_41_code 7 (some .int) :: xT) ({ frames := 1, cells := 0, slots := 0, locals := 25 } : Room)).room s m args below meth c H locs 0 0 Q (F0 m 44 ls [])), ∀ (v1 : Int32) (v2 : Int32) (v3 : Int32) (v4 : Int32) (ST : ySt), ∀ (H : Heap) (locs : List Loc), va_P X.1 vwCl (wY X ad ST) H → va_S (yA ad) s.heap H locs → ∀ (ls : Array Slot), lv_has ls 7 [(0, .ref (ad 0)), (1, .int v1), (2, .int v2), (3, .int v3), (4, .int v4)] → f_MaskEdgesModel_shift_87 r44 v1 v2 v3 v4 ST = some res → W p l e (headSpec (Cond.code y_MaskEdgesModel_shift prog_8_method_41_code 7 (some .int) :: xT) ({ frames := 1, cells := 0, slots := 0, locals := 25 } : Room)).room s m args below meth c H locs 0 0 Q (F0 m 87 ls []) := by
    intro r44 hr44 v1 v2 v3 v4 ST H locs hP hS ls hl hf
    unfold f_MaskEdgesModel_shift_87 at hf
    refine lv_iload_n hx hb d_MaskEdgesModel_shift_87 rfl (lv_at hl 1 rfl) ?_
    refine lv_iconst (v := (3 : Int32)) hx hb d_MaskEdgesModel_shift_88 (by decide) ?_
    refine lv_icmp_ne (tgt := 116) hx hb d_MaskEdgesModel_shift_89 (by decide) (fun hc => ?_) (fun hc => ?_)
    · replace hf := x_f hc hf
      exact (hL116 _ hr44) v1 v2 v3 v4 ST _ _ hP hS ls (lv_sub hl [0, 1, 2, 3, 4] rfl) hf
    · replace hf := x_t hc hf
      refine lv_aload_n hx hb d_MaskEdgesModel_shift_92 rfl (lv_at hl 0 rfl) ?_
      refine va_get (D := X.1) (ci := 6) (v := .ref (ad 11)) (C := "MaskEdgesModel") (T := F_MaskEdgesModel) (N := 28) hx hb ht in_MaskEdgesModel hown hK hP 0 yg0 rfl 14 (by decide) (ht _ xw_461) (fun _ h9 => h9) rfl d_MaskEdgesModel_shift_93 ?_
      refine lv_iload hx hb d_MaskEdgesModel_shift_96 (lv_at hl 4 rfl) ?_
      obtain ⟨g98, hf⟩ := x_g hf
      refine va_zald hx hb hK hP 11 5 yg11 rfl (xin_in g98) d_MaskEdgesModel_shift_98 ?_
      refine lv_if_ne (tgt := 112) hx hb d_MaskEdgesModel_shift_99 (by decide) (fun hc => ?_) (fun hc => ?_)
      · replace hf := x_f hc hf
        exact (hL112 _ hr44) v1 v2 v3 v4 ST _ _ hP hS ls (lv_sub hl [0, 1, 2, 3, 4] rfl) hf
      · replace hf := x_t hc hf
        refine lv_aload_n hx hb d_MaskEdgesModel_shift_102 rfl (lv_at hl 0 rfl) ?_
        refine va_get (D := X.1) (ci := 6) (v := .ref (ad 12)) (C := "MaskEdgesModel") (T := F_MaskEdgesModel) (N := 28) hx hb ht in_MaskEdgesModel hown hK hP 0 yg0 rfl 15 (by decide) (ht _ xw_462) (fun _ h9 => h9) rfl d_MaskEdgesModel_shift_103 ?_
        refine lv_iload hx hb d_MaskEdgesModel_shift_106 (lv_at hl 4 rfl) ?_
        obtain ⟨g108, hf⟩ := x_g hf
        refine va_zald hx hb hK hP 12 5 yg12 rfl (xin_in g108) d_MaskEdgesModel_shift_108 ?_
        refine lv_if_eq (tgt := 116) hx hb d_MaskEdgesModel_shift_109 (by decide) (fun hc => ?_) (fun hc => ?_)
        · replace hf := x_t hc hf
          exact (hL116 _ hr44) v1 v2 v3 v4 ST _ _ hP hS ls (lv_sub hl [0, 1, 2, 3, 4] rfl) hf
        · replace hf := x_f hc hf
          exact (hL112 _ hr44) v1 v2 v3 v4 ST _ _ hP hS ls (lv_sub hl [0, 1, 2, 3, 4] rfl) hf
  have hL72 : ∀ (r44 : Int32 → Int32 → Int32 → Int32 → ySt → Option (Int32 × ySt)) (hr44 : ∀ (v1 : Int32) (v2 : Int32) (v3 : Int32) (v4 : Int32) (ST : ySt), ∀ (H : Heap) (locs : List Loc), va_P X.1 vwCl (wY X ad ST) H → va_S (yA ad) s.heap H locs → ∀ (ls : Array Slot), lv_has ls 7 [(0, .ref (ad 0)), (1, .int v1), (2, .int v2), (3, .int v3), (4, .int v4)] → r44 v1 v2 v3 v4 ST = some res → W p l e (headSpec (Cond.code y_MaskEdgesModel_shift prog_8_method_41_code 7 (some .int) :: xT) ({ frames := 1, cells := 0, slots := 0, locals := 25 } : Room)).room s m args below meth c H locs 0 0 Q (F0 m 44 ls [])), ∀ (v1 : Int32) (v2 : Int32) (v3 : Int32) (v4 : Int32) (ST : ySt), ∀ (H : Heap) (locs : List Loc), va_P X.1 vwCl (wY X ad ST) H → va_S (yA ad) s.heap H locs → ∀ (ls : Array Slot), lv_has ls 7 [(0, .ref (ad 0)), (1, .int v1), (2, .int v2), (3, .int v3), (4, .int v4)] → f_MaskEdgesModel_shift_72 r44 v1 v2 v3 v4 ST = some res → W p l e (headSpec (Cond.code y_MaskEdgesModel_shift prog_8_method_41_code 7 (some .int) :: xT) ({ frames := 1, cells := 0, slots := 0, locals := 25 } : Room)).room s m args below meth c H locs 0 0 Q (F0 m 72 ls []) := by
    intro r44 hr44 v1 v2 v3 v4 ST H locs hP hS ls hl hf
    unfold f_MaskEdgesModel_shift_72 at hf
    refine lv_iload_n hx hb d_MaskEdgesModel_shift_72 rfl (lv_at hl 1 rfl) ?_
    refine lv_iconst (v := (2 : Int32)) hx hb d_MaskEdgesModel_shift_73 (by decide) ?_
    refine lv_icmp_ne (tgt := 87) hx hb d_MaskEdgesModel_shift_74 (by decide) (fun hc => ?_) (fun hc => ?_)
    · replace hf := x_f hc hf
      exact (hL87 _ hr44) v1 v2 v3 v4 ST _ _ hP hS ls (lv_sub hl [0, 1, 2, 3, 4] rfl) hf
    · replace hf := x_t hc hf
      refine lv_aload_n hx hb d_MaskEdgesModel_shift_77 rfl (lv_at hl 0 rfl) ?_
      refine va_get (D := X.1) (ci := 6) (v := .ref (ad 10)) (C := "MaskEdgesModel") (T := F_MaskEdgesModel) (N := 28) hx hb ht in_MaskEdgesModel hown hK hP 0 yg0 rfl 13 (by decide) (ht _ xw_460) (fun _ h9 => h9) rfl d_MaskEdgesModel_shift_78 ?_
      refine lv_iload hx hb d_MaskEdgesModel_shift_81 (lv_at hl 4 rfl) ?_
      obtain ⟨g83, hf⟩ := x_g hf
      refine va_zald hx hb hK hP 10 5 yg10 rfl (xin_in g83) d_MaskEdgesModel_shift_83 ?_
      refine lv_if_eq (tgt := 112) hx hb d_MaskEdgesModel_shift_84 (by decide) (fun hc => ?_) (fun hc => ?_)
      · replace hf := x_t hc hf
        exact (hL112 _ hr44) v1 v2 v3 v4 ST _ _ hP hS ls (lv_sub hl [0, 1, 2, 3, 4] rfl) hf
      · replace hf := x_f hc hf
        exact (hL87 _ hr44) v1 v2 v3 v4 ST _ _ hP hS ls (lv_sub hl [0, 1, 2, 3, 4] rfl) hf
  have hL44 : ∀ (n : Nat), ∀ (v1 : Int32) (v2 : Int32) (v3 : Int32) (v4 : Int32) (ST : ySt), ∀ (H : Heap) (locs : List Loc), va_P X.1 vwCl (wY X ad ST) H → va_S (yA ad) s.heap H locs → ∀ (ls : Array Slot), lv_has ls 7 [(0, .ref (ad 0)), (1, .int v1), (2, .int v2), (3, .int v3), (4, .int v4)] → (xloop (fun r => f_MaskEdgesModel_shift_44 r) (fun _ _ _ _ _ => none) n) v1 v2 v3 v4 ST = some res → W p l e (headSpec (Cond.code y_MaskEdgesModel_shift prog_8_method_41_code 7 (some .int) :: xT) ({ frames := 1, cells := 0, slots := 0, locals := 25 } : Room)).room s m args below meth c H locs 0 0 Q (F0 m 44 ls []) := by
    intro n
    induction n with
    | zero => intro v1 v2 v3 v4 ST H locs hP hS ls hl hf; cases hf
    | succ n ih =>
      intro v1 v2 v3 v4 ST H locs hP hS ls hl hf
      replace hf : f_MaskEdgesModel_shift_44 (xloop (fun r => f_MaskEdgesModel_shift_44 r) (fun _ _ _ _ _ => none) n) v1 v2 v3 v4 ST = some res := hf
      have hr44 := ih
      clear ih
      unfold f_MaskEdgesModel_shift_44 at hf
      refine lv_iload hx hb d_MaskEdgesModel_shift_44 (lv_at hl 4 rfl) ?_
      refine lv_aload_n hx hb d_MaskEdgesModel_shift_46 rfl (lv_at hl 0 rfl) ?_
      refine va_get (D := X.1) (ci := 6) (v := .int (Y_pieces ST)) (C := "MaskEdgesModel") (T := F_MaskEdgesModel) (N := 28) hx hb ht in_MaskEdgesModel hown hK hP 0 yg0 rfl 9 (by decide) (ht _ xw_456) (fun _ h9 => h9) rfl d_MaskEdgesModel_shift_47 ?_
      refine lv_icmp_ge (tgt := 195) hx hb d_MaskEdgesModel_shift_50 (by decide) (fun hc => ?_) (fun hc => ?_)
      · replace hf := x_t hc hf
        refine lv_iload_n hx hb d_MaskEdgesModel_shift_195 rfl (lv_at hl 3 rfl) ?_
        replace hf := x_s hf
        subst hf
        subst hQ
        exact W.iret (v := v3) hx hb hr (fun t ht hW => ⟨⟨rfl, by rw [ht]; exact hP⟩, hS.F ht⟩) hS.2.2 d_MaskEdgesModel_shift_196
      · replace hf := x_f hc hf
        refine lv_iload_n hx hb d_MaskEdgesModel_shift_53 rfl (lv_at hl 1 rfl) ?_
        refine lv_if_eq (tgt := 112) hx hb d_MaskEdgesModel_shift_54 (by decide) (fun hc => ?_) (fun hc => ?_)
        · replace hf := x_t hc hf
          exact (hL112 _ hr44) v1 v2 v3 v4 ST _ _ hP hS ls (lv_sub hl [0, 1, 2, 3, 4] rfl) hf
        · replace hf := x_f hc hf
          refine lv_iload_n hx hb d_MaskEdgesModel_shift_57 rfl (lv_at hl 1 rfl) ?_
          refine lv_iconst (v := (1 : Int32)) hx hb d_MaskEdgesModel_shift_58 (by decide) ?_
          refine lv_icmp_ne (tgt := 72) hx hb d_MaskEdgesModel_shift_59 (by decide) (fun hc => ?_) (fun hc => ?_)
          · replace hf := x_f hc hf
            exact (hL72 _ hr44) v1 v2 v3 v4 ST _ _ hP hS ls (lv_sub hl [0, 1, 2, 3, 4] rfl) hf
          · replace hf := x_t hc hf
            refine lv_aload_n hx hb d_MaskEdgesModel_shift_62 rfl (lv_at hl 0 rfl) ?_
            refine va_get (D := X.1) (ci := 6) (v := .ref (ad 10)) (C := "MaskEdgesModel") (T := F_MaskEdgesModel) (N := 28) hx hb ht in_MaskEdgesModel hown hK hP 0 yg0 rfl 13 (by decide) (ht _ xw_460) (fun _ h9 => h9) rfl d_MaskEdgesModel_shift_63 ?_
            refine lv_iload hx hb d_MaskEdgesModel_shift_66 (lv_at hl 4 rfl) ?_
            obtain ⟨g68, hf⟩ := x_g hf
            refine va_zald hx hb hK hP 10 5 yg10 rfl (xin_in g68) d_MaskEdgesModel_shift_68 ?_
            refine lv_if_ne (tgt := 112) hx hb d_MaskEdgesModel_shift_69 (by decide) (fun hc => ?_) (fun hc => ?_)
            · replace hf := x_f hc hf
              exact (hL112 _ hr44) v1 v2 v3 v4 ST _ _ hP hS ls (lv_sub hl [0, 1, 2, 3, 4] rfl) hf
            · replace hf := x_t hc hf
              exact (hL72 _ hr44) v1 v2 v3 v4 ST _ _ hP hS ls (lv_sub hl [0, 1, 2, 3, 4] rfl) hf
  unfold f_MaskEdgesModel_shift at hf
  refine lv_iload_n hx hb d_MaskEdgesModel_shift_0 rfl (lv_at hl 1 rfl) ?_
  refine lv_i2l hx hb d_MaskEdgesModel_shift_1 rfl ?_
  refine lv_lconst (v := (0 : Int64)) hx hb d_MaskEdgesModel_shift_2 (by decide) ?_
  refine lv_ldc2 (v := (3 : Int64)) hx hb hown (ht _ xw_649) d_MaskEdgesModel_shift_3 ?_
  obtain ⟨c6, e6, hf⟩ := x_b hf
  refine xcR (va_runS (As := [.long v1.toInt64, .long (0 : Int64), .long (3 : Int64)]) (rest := []) ⟨hx, hb, hml, hown, ht⟩ (c_MaskEdgesModel_isBetween l X v1.toInt64 (0 : Int64) (3 : Int64) e6) (cwS 3 ht (xgS xw_512 xw_513 xw_43 xw_514) rfl rfl rfl (by decide +kernel) ⟨Nat.le_of_ble_eq_true rfl, Nat.le_of_ble_eq_true rfl⟩) (xPS hKK) rfl rfl hl.1 rfl (lv_room (Nat.le_of_ble_eq_true rfl)) d_MaskEdgesModel_shift_6 ⟨Nat.zero_le _, Nat.zero_le _⟩) ?_
  refine W.eq (g2 := F0 m 9 ls [.int c6]) rfl ?_
  refine lv_if_eq (tgt := 26) hx hb d_MaskEdgesModel_shift_9 (by decide) (fun hc => ?_) (fun hc => ?_)
  · replace hf := x_t hc hf
    refine lv_bipush (v := (-2 : Int32)) hx hb d_MaskEdgesModel_shift_26 (by decide) ?_
    replace hf := x_s hf
    subst hf
    subst hQ
    exact W.iret (v := (-2 : Int32)) hx hb hr (fun t ht hW => ⟨⟨rfl, by rw [ht]; exact hP⟩, hS.F ht⟩) hS.2.2 d_MaskEdgesModel_shift_28
  · replace hf := x_f hc hf
    refine lv_iload_n hx hb d_MaskEdgesModel_shift_12 rfl (lv_at hl 2 rfl) ?_
    refine lv_i2l hx hb d_MaskEdgesModel_shift_13 rfl ?_
    refine lv_ldc2 (v := (-6 : Int64)) hx hb hown (ht _ xw_650) d_MaskEdgesModel_shift_14 ?_
    refine lv_ldc2 (v := (6 : Int64)) hx hb hown (ht _ xw_525) d_MaskEdgesModel_shift_17 ?_
    obtain ⟨c20, e20, hf⟩ := x_b hf
    refine xcR (va_runS (As := [.long v2.toInt64, .long (-6 : Int64), .long (6 : Int64)]) (rest := []) ⟨hx, hb, hml, hown, ht⟩ (c_MaskEdgesModel_isBetween l X v2.toInt64 (-6 : Int64) (6 : Int64) e20) (cwS 3 ht (xgS xw_512 xw_513 xw_43 xw_514) rfl rfl rfl (by decide +kernel) ⟨Nat.le_of_ble_eq_true rfl, Nat.le_of_ble_eq_true rfl⟩) (xPS hKK) rfl rfl hl.1 rfl (lv_room (Nat.le_of_ble_eq_true rfl)) d_MaskEdgesModel_shift_20 ⟨Nat.zero_le _, Nat.zero_le _⟩) ?_
    refine W.eq (g2 := F0 m 23 ls [.int c20]) rfl ?_
    refine lv_if_ne (tgt := 29) hx hb d_MaskEdgesModel_shift_23 (by decide) (fun hc => ?_) (fun hc => ?_)
    · replace hf := x_f hc hf
      refine lv_aload_n hx hb d_MaskEdgesModel_shift_29 rfl (lv_at hl 0 rfl) ?_
      refine va_get (D := X.1) (ci := 6) (v := .int (Y_pieces ST)) (C := "MaskEdgesModel") (T := F_MaskEdgesModel) (N := 28) hx hb ht in_MaskEdgesModel hown hK hP 0 yg0 rfl 9 (by decide) (ht _ xw_456) (fun _ h9 => h9) rfl d_MaskEdgesModel_shift_30 ?_
      refine lv_if_ne (tgt := 39) hx hb d_MaskEdgesModel_shift_33 (by decide) (fun hc => ?_) (fun hc => ?_)
      · replace hf := x_f hc hf
        refine lv_iconst (v := (0 : Int32)) hx hb d_MaskEdgesModel_shift_39 (by decide) ?_
        refine lv_istore_n (lv' := [(3, .int (0 : Int32)), (0, .ref (ad 0)), (1, .int v1), (2, .int v2)]) hx hb d_MaskEdgesModel_shift_40 rfl hl (by decide) rfl (fun ls hl => ?_)
        refine lv_iconst (v := (0 : Int32)) hx hb d_MaskEdgesModel_shift_41 (by decide) ?_
        refine lv_istore (lv' := [(4, .int (0 : Int32)), (3, .int (0 : Int32)), (0, .ref (ad 0)), (1, .int v1), (2, .int v2)]) hx hb d_MaskEdgesModel_shift_42 hl (by decide) rfl (fun ls hl => ?_)
        exact (hL44 100000) v1 v2 (0 : Int32) (0 : Int32) ST _ _ hP hS ls (lv_sub hl [2, 3, 4, 1, 0] rfl) hf
      · replace hf := x_t hc hf
        refine lv_bipush (v := (-3 : Int32)) hx hb d_MaskEdgesModel_shift_36 (by decide) ?_
        replace hf := x_s hf
        subst hf
        subst hQ
        exact W.iret (v := (-3 : Int32)) hx hb hr (fun t ht hW => ⟨⟨rfl, by rw [ht]; exact hP⟩, hS.F ht⟩) hS.2.2 d_MaskEdgesModel_shift_38
    · replace hf := x_t hc hf
      refine lv_bipush (v := (-2 : Int32)) hx hb d_MaskEdgesModel_shift_26 (by decide) ?_
      replace hf := x_s hf
      subst hf
      subst hQ
      exact W.iret (v := (-2 : Int32)) hx hb hr (fun t ht hW => ⟨⟨rfl, by rw [ht]; exact hP⟩, hS.F ht⟩) hS.2.2 d_MaskEdgesModel_shift_28
