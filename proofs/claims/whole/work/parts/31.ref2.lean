def f_MaskEdgesModel_hasClosed_30 (ST : ySt) (r4 : Int32 → Int32 → Option (Int32)) (v2 : Int32) (s0 : Int32) : Option (Int32) :=
  r4 s0 (v2 + (1 : Int32))
def f_MaskEdgesModel_hasClosed_25 (ST : ySt) (r4 : Int32 → Int32 → Option (Int32)) (v2 : Int32) : Option (Int32) :=
  (f_MaskEdgesModel_hasClosed_30 ST r4) v2 (1 : Int32)
def f_MaskEdgesModel_hasClosed_4 (ST : ySt) (r4 : Int32 → Int32 → Option (Int32)) (v1 : Int32) (v2 : Int32) : Option (Int32) :=
  if (Y_polygons ST) ≤ v2 then
  if xz v1 = true then
    some v1
  else none
else
  if v1 = 0 then
    if xin v2 4 = true then
      if (Y_isClosed ST v2.toNatClampNeg) = 0 then
        (f_MaskEdgesModel_hasClosed_30 ST r4) v2 (0 : Int32)
      else
        (f_MaskEdgesModel_hasClosed_25 ST r4) v2
    else none
  else
    (f_MaskEdgesModel_hasClosed_25 ST r4) v2
def f_MaskEdgesModel_hasClosed (ST : ySt) : Option (Int32) :=
  (xloop (fun r => f_MaskEdgesModel_hasClosed_4 ST r) (fun _ _ => none) 100000) (0 : Int32) (0 : Int32)
set_option maxHeartbeats 4000000 in
set_option maxRecDepth 100000 in
theorem c_MaskEdgesModel_hasClosed (l : Launch) (X : xG) {H : Heap} (ad : Nat → Nat) (ST : ySt) {res : Int32} (hP : va_P X.1 vwCl (wY X ad ST) H) (hf : f_MaskEdgesModel_hasClosed ST = some res) : xM l y_MaskEdgesModel_hasClosed (Cond.code y_MaskEdgesModel_hasClosed prog_8_method_10_code 3 (some .boolean) :: xT) ({ frames := 0, cells := 0, slots := 0, locals := 0 } : Room) (xK X) [.ref (ad 0)] H xNo (some (.int res)) (fun H1 => H1 = H) := by
  refine Met.ofW (cc := prog_8_method_10_code) (maxL := 3) (ret := (some .boolean)) (by decide) rfl ?_
  intro p e s m args below meth c s₁ B hml hv
  obtain ⟨ha, hH, hKK⟩ := hv
  subst hH
  have hx := B.exec
  have hb := B.bytes
  have hr := B.returns
  have ht : ∀ w ∈ xT, w.before args s = true := fun w h => atoms_spec (ws := (Cond.code y_MaskEdgesModel_hasClosed prog_8_method_10_code 3 (some .boolean) :: xT)) B.pre w (List.mem_cons_of_mem _ h)
  have hown : s.vm.findClass "MaskEdgesModel" = some m.cls := findClass_of_methodNamed B.named
  have hlocks := B.notSynchronized
  have hK := hKK.1
  rw [show entryFrame m args 3 = entryFrame m ([.ref (ad 0)] : List Value).toArray 3 from by rw [ha]]
  clear ha
  have hl := lv_entry ([.ref (ad 0)]) (n := 3) (Nat.le_of_ble_eq_true rfl)
  rw [lg_entry_eq]
  generalize (lg_sl ([.ref (ad 0)]) ++ List.replicate (3 - (lg_sl ([.ref (ad 0)])).length) Slot.unset).toArray = ls at hl ⊢
  replace hl : lv_has ls 3 [(0, .ref (ad 0))] := hl
  refine x_Q (fun Q hQ => ?_)
  have hL30 : ∀ (r4 : Int32 → Int32 → Option (Int32)) (hr4 : ∀ (v1 : Int32) (v2 : Int32), ∀ (ls : Array Slot), lv_has ls 3 [(0, .ref (ad 0)), (1, .int v1), (2, .int v2)] → r4 v1 v2 = some res → W p l e (headSpec (Cond.code y_MaskEdgesModel_hasClosed prog_8_method_10_code 3 (some .boolean) :: xT) ({ frames := 0, cells := 0, slots := 0, locals := 0 } : Room)).room s m args below meth c s.heap [] 0 0 Q (F0 m 4 ls [])), ∀ (v2 : Int32) (s0 : Int32), ∀ (ls : Array Slot), lv_has ls 3 [(0, .ref (ad 0)), (2, .int v2)] → f_MaskEdgesModel_hasClosed_30 ST r4 v2 s0 = some res → W p l e (headSpec (Cond.code y_MaskEdgesModel_hasClosed prog_8_method_10_code 3 (some .boolean) :: xT) ({ frames := 0, cells := 0, slots := 0, locals := 0 } : Room)).room s m args below meth c s.heap [] 0 0 Q (F0 m 30 ls [.int s0]) := by
    intro r4 hr4 v2 s0 ls hl hf
    unfold f_MaskEdgesModel_hasClosed_30 at hf
    refine lv_istore_n (lv' := [(1, .int s0), (0, .ref (ad 0)), (2, .int v2)]) hx hb d_MaskEdgesModel_hasClosed_30 rfl hl (by decide) rfl (fun ls hl => ?_)
    refine lv_iinc (v := (v2 + (1 : Int32))) (lv' := [(2, .int (v2 + (1 : Int32))), (1, .int s0), (0, .ref (ad 0))]) hx hb d_MaskEdgesModel_hasClosed_31 hl (k := 2) rfl rfl (by decide) rfl (fun ls hl => ?_)
    refine lv_goto (tgt := 4) hx hb d_MaskEdgesModel_hasClosed_34 (by decide) ?_
    exact hr4 s0 (v2 + (1 : Int32))  ls (lv_sub hl [2, 1, 0] rfl) hf
  have hL25 : ∀ (r4 : Int32 → Int32 → Option (Int32)) (hr4 : ∀ (v1 : Int32) (v2 : Int32), ∀ (ls : Array Slot), lv_has ls 3 [(0, .ref (ad 0)), (1, .int v1), (2, .int v2)] → r4 v1 v2 = some res → W p l e (headSpec (Cond.code y_MaskEdgesModel_hasClosed prog_8_method_10_code 3 (some .boolean) :: xT) ({ frames := 0, cells := 0, slots := 0, locals := 0 } : Room)).room s m args below meth c s.heap [] 0 0 Q (F0 m 4 ls [])), ∀ (v2 : Int32), ∀ (ls : Array Slot), lv_has ls 3 [(0, .ref (ad 0)), (2, .int v2)] → f_MaskEdgesModel_hasClosed_25 ST r4 v2 = some res → W p l e (headSpec (Cond.code y_MaskEdgesModel_hasClosed prog_8_method_10_code 3 (some .boolean) :: xT) ({ frames := 0, cells := 0, slots := 0, locals := 0 } : Room)).room s m args below meth c s.heap [] 0 0 Q (F0 m 25 ls []) := by
    intro r4 hr4 v2 ls hl hf
    unfold f_MaskEdgesModel_hasClosed_25 at hf
    refine lv_iconst (v := (1 : Int32)) hx hb d_MaskEdgesModel_hasClosed_25 (by decide) ?_
    refine lv_goto (tgt := 30) hx hb d_MaskEdgesModel_hasClosed_26 (by decide) ?_
    exact (hL30 _ hr4) v2 (1 : Int32)  ls (lv_sub hl [0, 1] rfl) hf
  have hL4 : ∀ (n : Nat), ∀ (v1 : Int32) (v2 : Int32), ∀ (ls : Array Slot), lv_has ls 3 [(0, .ref (ad 0)), (1, .int v1), (2, .int v2)] → (xloop (fun r => f_MaskEdgesModel_hasClosed_4 ST r) (fun _ _ => none) n) v1 v2 = some res → W p l e (headSpec (Cond.code y_MaskEdgesModel_hasClosed prog_8_method_10_code 3 (some .boolean) :: xT) ({ frames := 0, cells := 0, slots := 0, locals := 0 } : Room)).room s m args below meth c s.heap [] 0 0 Q (F0 m 4 ls []) := by
    intro n
    induction n with
    | zero => intro v1 v2 ls hl hf; cases hf
    | succ n ih =>
      intro v1 v2 ls hl hf
      replace hf : f_MaskEdgesModel_hasClosed_4 ST (xloop (fun r => f_MaskEdgesModel_hasClosed_4 ST r) (fun _ _ => none) n) v1 v2 = some res := hf
      have hr4 := ih
      clear ih
      unfold f_MaskEdgesModel_hasClosed_4 at hf
      refine lv_iload_n hx hb d_MaskEdgesModel_hasClosed_4 rfl (lv_at hl 2 rfl) ?_
      refine lv_aload_n hx hb d_MaskEdgesModel_hasClosed_5 rfl (lv_at hl 0 rfl) ?_
      refine va_get (D := X.1) (ci := 6) (v := .int (Y_polygons ST)) (C := "MaskEdgesModel") (T := F_MaskEdgesModel) (N := 28) hx hb ht in_MaskEdgesModel hown hK hP 0 yg0 rfl 0 (by decide) (ht _ xw_447) (fun _ h9 => h9) rfl d_MaskEdgesModel_hasClosed_6 ?_
      refine lv_icmp_ge (tgt := 37) hx hb d_MaskEdgesModel_hasClosed_9 (by decide) (fun hc => ?_) (fun hc => ?_)
      · replace hf := x_t hc hf
        refine lv_iload_n hx hb d_MaskEdgesModel_hasClosed_37 rfl (lv_at hl 1 rfl) ?_
        obtain ⟨zr, hf⟩ := x_g hf
        replace hf := x_s hf
        subst hf
        subst hQ
        exact W.zret (v := v1) hx hb hr (xz_n zr) (fun t ht hW => ⟨⟨rfl, ht⟩, x_F0 ht⟩) x_l0 d_MaskEdgesModel_hasClosed_38
      · replace hf := x_f hc hf
        refine lv_iload_n hx hb d_MaskEdgesModel_hasClosed_12 rfl (lv_at hl 1 rfl) ?_
        refine lv_if_ne (tgt := 25) hx hb d_MaskEdgesModel_hasClosed_13 (by decide) (fun hc => ?_) (fun hc => ?_)
        · replace hf := x_f hc hf
          exact (hL25 _ hr4) v2  ls (lv_sub hl [0, 2] rfl) hf
        · replace hf := x_t hc hf
          refine lv_aload_n hx hb d_MaskEdgesModel_hasClosed_16 rfl (lv_at hl 0 rfl) ?_
          refine va_get (D := X.1) (ci := 6) (v := .ref (ad 4)) (C := "MaskEdgesModel") (T := F_MaskEdgesModel) (N := 28) hx hb ht in_MaskEdgesModel hown hK hP 0 yg0 rfl 4 (by decide) (ht _ xw_451) (fun _ h9 => h9) rfl d_MaskEdgesModel_hasClosed_17 ?_
          refine lv_iload_n hx hb d_MaskEdgesModel_hasClosed_20 rfl (lv_at hl 2 rfl) ?_
          obtain ⟨g21, hf⟩ := x_g hf
          refine va_zald hx hb hK hP 4 5 yg4 rfl (xin_in g21) d_MaskEdgesModel_hasClosed_21 ?_
          refine lv_if_eq (tgt := 29) hx hb d_MaskEdgesModel_hasClosed_22 (by decide) (fun hc => ?_) (fun hc => ?_)
          · replace hf := x_t hc hf
            refine lv_iconst (v := (0 : Int32)) hx hb d_MaskEdgesModel_hasClosed_29 (by decide) ?_
            exact (hL30 _ hr4) v2 (0 : Int32)  ls (lv_sub hl [0, 2] rfl) hf
          · replace hf := x_f hc hf
            exact (hL25 _ hr4) v2  ls (lv_sub hl [0, 2] rfl) hf
  unfold f_MaskEdgesModel_hasClosed at hf
  refine lv_iconst (v := (0 : Int32)) hx hb d_MaskEdgesModel_hasClosed_0 (by decide) ?_
  refine lv_istore_n (lv' := [(1, .int (0 : Int32)), (0, .ref (ad 0))]) hx hb d_MaskEdgesModel_hasClosed_1 rfl hl (by decide) rfl (fun ls hl => ?_)
  refine lv_iconst (v := (0 : Int32)) hx hb d_MaskEdgesModel_hasClosed_2 (by decide) ?_
  refine lv_istore_n (lv' := [(2, .int (0 : Int32)), (1, .int (0 : Int32)), (0, .ref (ad 0))]) hx hb d_MaskEdgesModel_hasClosed_3 rfl hl (by decide) rfl (fun ls hl => ?_)
  exact (hL4 100000) (0 : Int32) (0 : Int32)  ls (lv_sub hl [2, 1, 0] rfl) hf
def f_MaskEdgesModel_lengthOf (ST : ySt) (v1 : Int32) (v2 : Int32) : Option (Int32) :=
  if xin v1 4 = true then
  if (Y_sizes ST v1.toNatClampNeg) = 0 then none else
    if xin (((16 : Int32) * v1) + ((v2 + (1 : Int32)) - (v2 + (1 : Int32)) / (Y_sizes ST v1.toNatClampNeg) * (Y_sizes ST v1.toNatClampNeg))) 64 = true then
    if xin (((16 : Int32) * v1) + v2) 64 = true then
      if xin (((16 : Int32) * v1) + ((v2 + (1 : Int32)) - (v2 + (1 : Int32)) / (Y_sizes ST v1.toNatClampNeg) * (Y_sizes ST v1.toNatClampNeg))) 64 = true then
        if xin (((16 : Int32) * v1) + v2) 64 = true then
          if 0 ≤ ((((Y_xs ST (((16 : Int32) * v1) + ((v2 + (1 : Int32)) - (v2 + (1 : Int32)) / (Y_sizes ST v1.toNatClampNeg) * (Y_sizes ST v1.toNatClampNeg))).toNatClampNeg) - (Y_xs ST (((16 : Int32) * v1) + v2).toNatClampNeg)) + (Y_ys ST (((16 : Int32) * v1) + ((v2 + (1 : Int32)) - (v2 + (1 : Int32)) / (Y_sizes ST v1.toNatClampNeg) * (Y_sizes ST v1.toNatClampNeg))).toNatClampNeg)) - (Y_ys ST (((16 : Int32) * v1) + v2).toNatClampNeg)) then
            some ((((Y_xs ST (((16 : Int32) * v1) + ((v2 + (1 : Int32)) - (v2 + (1 : Int32)) / (Y_sizes ST v1.toNatClampNeg) * (Y_sizes ST v1.toNatClampNeg))).toNatClampNeg) - (Y_xs ST (((16 : Int32) * v1) + v2).toNatClampNeg)) + (Y_ys ST (((16 : Int32) * v1) + ((v2 + (1 : Int32)) - (v2 + (1 : Int32)) / (Y_sizes ST v1.toNatClampNeg) * (Y_sizes ST v1.toNatClampNeg))).toNatClampNeg)) - (Y_ys ST (((16 : Int32) * v1) + v2).toNatClampNeg))
          else
            some (-((((Y_xs ST (((16 : Int32) * v1) + ((v2 + (1 : Int32)) - (v2 + (1 : Int32)) / (Y_sizes ST v1.toNatClampNeg) * (Y_sizes ST v1.toNatClampNeg))).toNatClampNeg) - (Y_xs ST (((16 : Int32) * v1) + v2).toNatClampNeg)) + (Y_ys ST (((16 : Int32) * v1) + ((v2 + (1 : Int32)) - (v2 + (1 : Int32)) / (Y_sizes ST v1.toNatClampNeg) * (Y_sizes ST v1.toNatClampNeg))).toNatClampNeg)) - (Y_ys ST (((16 : Int32) * v1) + v2).toNatClampNeg)))
        else none
      else none
    else none
  else none
else none
set_option maxHeartbeats 4000000 in
set_option maxRecDepth 100000 in
theorem c_MaskEdgesModel_lengthOf (l : Launch) (X : xG) {H : Heap} (ad : Nat → Nat) (ST : ySt) (v1 : Int32) (v2 : Int32) {res : Int32} (hP : va_P X.1 vwCl (wY X ad ST) H) (hf : f_MaskEdgesModel_lengthOf ST v1 v2 = some res) : xM l y_MaskEdgesModel_lengthOf (Cond.code y_MaskEdgesModel_lengthOf prog_8_method_11_code 6 (some .int) :: xT) ({ frames := 0, cells := 0, slots := 0, locals := 0 } : Room) (xK X) [.ref (ad 0), .int v1, .int v2] H xNo (some (.int res)) (fun H1 => H1 = H) := by
  refine Met.ofW (cc := prog_8_method_11_code) (maxL := 6) (ret := (some .int)) (by decide) rfl ?_
  intro p e s m args below meth c s₁ B hml hv
  obtain ⟨ha, hH, hKK⟩ := hv
  subst hH
  have hx := B.exec
  have hb := B.bytes
  have hr := B.returns
  have ht : ∀ w ∈ xT, w.before args s = true := fun w h => atoms_spec (ws := (Cond.code y_MaskEdgesModel_lengthOf prog_8_method_11_code 6 (some .int) :: xT)) B.pre w (List.mem_cons_of_mem _ h)
  have hown : s.vm.findClass "MaskEdgesModel" = some m.cls := findClass_of_methodNamed B.named
  have hlocks := B.notSynchronized
  have hK := hKK.1
  rw [show entryFrame m args 6 = entryFrame m ([.ref (ad 0), .int v1, .int v2] : List Value).toArray 6 from by rw [ha]]
  clear ha
  have hl := lv_entry ([.ref (ad 0), .int v1, .int v2]) (n := 6) (Nat.le_of_ble_eq_true rfl)
  rw [lg_entry_eq]
  generalize (lg_sl ([.ref (ad 0), .int v1, .int v2]) ++ List.replicate (6 - (lg_sl ([.ref (ad 0), .int v1, .int v2])).length) Slot.unset).toArray = ls at hl ⊢
  replace hl : lv_has ls 6 [(0, .ref (ad 0)), (1, .int v1), (2, .int v2)] := hl
  refine x_Q (fun Q hQ => ?_)
  unfold f_MaskEdgesModel_lengthOf at hf
  refine lv_bipush (v := (16 : Int32)) hx hb d_MaskEdgesModel_lengthOf_0 (by decide) ?_
  refine lv_iload_n hx hb d_MaskEdgesModel_lengthOf_2 rfl (lv_at hl 1 rfl) ?_
  refine lv_imul hx hb d_MaskEdgesModel_lengthOf_3 ?_
  refine lv_iload_n hx hb d_MaskEdgesModel_lengthOf_4 rfl (lv_at hl 2 rfl) ?_
  refine lv_iadd hx hb d_MaskEdgesModel_lengthOf_5 ?_
  refine lv_istore_n (lv' := [(3, .int (((16 : Int32) * v1) + v2)), (0, .ref (ad 0)), (1, .int v1), (2, .int v2)]) hx hb d_MaskEdgesModel_lengthOf_6 rfl hl (by decide) rfl (fun ls hl => ?_)
  refine lv_bipush (v := (16 : Int32)) hx hb d_MaskEdgesModel_lengthOf_7 (by decide) ?_
  refine lv_iload_n hx hb d_MaskEdgesModel_lengthOf_9 rfl (lv_at hl 2 rfl) ?_
  refine lv_imul hx hb d_MaskEdgesModel_lengthOf_10 ?_
  refine lv_iload_n hx hb d_MaskEdgesModel_lengthOf_11 rfl (lv_at hl 3 rfl) ?_
  refine lv_iconst (v := (1 : Int32)) hx hb d_MaskEdgesModel_lengthOf_12 (by decide) ?_
  refine lv_iadd hx hb d_MaskEdgesModel_lengthOf_13 ?_
  refine lv_aload_n hx hb d_MaskEdgesModel_lengthOf_14 rfl (lv_at hl 1 rfl) ?_
  refine va_get (D := X.1) (ci := 6) (v := .ref (ad 3)) (C := "MaskEdgesModel") (T := F_MaskEdgesModel) (N := 28) hx hb ht in_MaskEdgesModel hown hK hP 0 yg0 rfl 3 (by decide) (ht _ xw_450) (fun _ h9 => h9) rfl d_MaskEdgesModel_lengthOf_15 ?_
  refine lv_iload_n hx hb d_MaskEdgesModel_lengthOf_18 rfl (lv_at hl 2 rfl) ?_
  obtain ⟨g19, hf⟩ := x_g hf
  refine va_iald hx hb hK hP 3 0 yg3 rfl (xin_in g19) d_MaskEdgesModel_lengthOf_19 ?_
  obtain ⟨z20, hf⟩ := x_n hf
  refine lv_irem hx hb d_MaskEdgesModel_lengthOf_20 z20 ?_
  refine lv_iadd hx hb d_MaskEdgesModel_lengthOf_21 ?_
  refine lv_istore (lv' := [(4, .int (((16 : Int32) * v1) + ((v2 + (1 : Int32)) - (v2 + (1 : Int32)) / (Y_sizes ST v1.toNatClampNeg) * (Y_sizes ST v1.toNatClampNeg)))), (3, .int (((16 : Int32) * v1) + v2)), (0, .ref (ad 0)), (1, .int v1), (2, .int v2)]) hx hb d_MaskEdgesModel_lengthOf_22 hl (by decide) rfl (fun ls hl => ?_)
  refine lv_aload_n hx hb d_MaskEdgesModel_lengthOf_24 rfl (lv_at hl 2 rfl) ?_
  refine va_get (D := X.1) (ci := 6) (v := .ref (ad 1)) (C := "MaskEdgesModel") (T := F_MaskEdgesModel) (N := 28) hx hb ht in_MaskEdgesModel hown hK hP 0 yg0 rfl 1 (by decide) (ht _ xw_448) (fun _ h9 => h9) rfl d_MaskEdgesModel_lengthOf_25 ?_
  refine lv_iload hx hb d_MaskEdgesModel_lengthOf_28 (lv_at hl 0 rfl) ?_
  obtain ⟨g30, hf⟩ := x_g hf
  refine va_iald hx hb hK hP 1 0 yg1 rfl (xin_in g30) d_MaskEdgesModel_lengthOf_30 ?_
  refine lv_aload_n hx hb d_MaskEdgesModel_lengthOf_31 rfl (lv_at hl 2 rfl) ?_
  refine va_get (D := X.1) (ci := 6) (v := .ref (ad 1)) (C := "MaskEdgesModel") (T := F_MaskEdgesModel) (N := 28) hx hb ht in_MaskEdgesModel hown hK hP 0 yg0 rfl 1 (by decide) (ht _ xw_448) (fun _ h9 => h9) rfl d_MaskEdgesModel_lengthOf_32 ?_
  refine lv_iload_n hx hb d_MaskEdgesModel_lengthOf_35 rfl (lv_at hl 1 rfl) ?_
  obtain ⟨g36, hf⟩ := x_g hf
  refine va_iald hx hb hK hP 1 0 yg1 rfl (xin_in g36) d_MaskEdgesModel_lengthOf_36 ?_
  refine lv_isub hx hb d_MaskEdgesModel_lengthOf_37 ?_
  refine lv_aload_n hx hb d_MaskEdgesModel_lengthOf_38 rfl (lv_at hl 2 rfl) ?_
  refine va_get (D := X.1) (ci := 6) (v := .ref (ad 2)) (C := "MaskEdgesModel") (T := F_MaskEdgesModel) (N := 28) hx hb ht in_MaskEdgesModel hown hK hP 0 yg0 rfl 2 (by decide) (ht _ xw_449) (fun _ h9 => h9) rfl d_MaskEdgesModel_lengthOf_39 ?_
  refine lv_iload hx hb d_MaskEdgesModel_lengthOf_42 (lv_at hl 0 rfl) ?_
  obtain ⟨g44, hf⟩ := x_g hf
  refine va_iald hx hb hK hP 2 0 yg2 rfl (xin_in g44) d_MaskEdgesModel_lengthOf_44 ?_
  refine lv_iadd hx hb d_MaskEdgesModel_lengthOf_45 ?_
  refine lv_aload_n hx hb d_MaskEdgesModel_lengthOf_46 rfl (lv_at hl 2 rfl) ?_
  refine va_get (D := X.1) (ci := 6) (v := .ref (ad 2)) (C := "MaskEdgesModel") (T := F_MaskEdgesModel) (N := 28) hx hb ht in_MaskEdgesModel hown hK hP 0 yg0 rfl 2 (by decide) (ht _ xw_449) (fun _ h9 => h9) rfl d_MaskEdgesModel_lengthOf_47 ?_
  refine lv_iload_n hx hb d_MaskEdgesModel_lengthOf_50 rfl (lv_at hl 1 rfl) ?_
  obtain ⟨g51, hf⟩ := x_g hf
  refine va_iald hx hb hK hP 2 0 yg2 rfl (xin_in g51) d_MaskEdgesModel_lengthOf_51 ?_
  refine lv_isub hx hb d_MaskEdgesModel_lengthOf_52 ?_
  refine lv_istore (lv' := [(5, .int ((((Y_xs ST (((16 : Int32) * v1) + ((v2 + (1 : Int32)) - (v2 + (1 : Int32)) / (Y_sizes ST v1.toNatClampNeg) * (Y_sizes ST v1.toNatClampNeg))).toNatClampNeg) - (Y_xs ST (((16 : Int32) * v1) + v2).toNatClampNeg)) + (Y_ys ST (((16 : Int32) * v1) + ((v2 + (1 : Int32)) - (v2 + (1 : Int32)) / (Y_sizes ST v1.toNatClampNeg) * (Y_sizes ST v1.toNatClampNeg))).toNatClampNeg)) - (Y_ys ST (((16 : Int32) * v1) + v2).toNatClampNeg))), (4, .int (((16 : Int32) * v1) + ((v2 + (1 : Int32)) - (v2 + (1 : Int32)) / (Y_sizes ST v1.toNatClampNeg) * (Y_sizes ST v1.toNatClampNeg)))), (3, .int (((16 : Int32) * v1) + v2)), (0, .ref (ad 0)), (1, .int v1), (2, .int v2)]) hx hb d_MaskEdgesModel_lengthOf_53 hl (by decide) rfl (fun ls hl => ?_)
  refine lv_iload hx hb d_MaskEdgesModel_lengthOf_55 (lv_at hl 0 rfl) ?_
  refine lv_if_ge (tgt := 66) hx hb d_MaskEdgesModel_lengthOf_57 (by decide) (fun hc => ?_) (fun hc => ?_)
  · replace hf := x_t hc hf
    refine lv_iload hx hb d_MaskEdgesModel_lengthOf_66 (lv_at hl 0 rfl) ?_
    replace hf := x_s hf
    subst hf
    subst hQ
    exact W.iret (v := ((((Y_xs ST (((16 : Int32) * v1) + ((v2 + (1 : Int32)) - (v2 + (1 : Int32)) / (Y_sizes ST v1.toNatClampNeg) * (Y_sizes ST v1.toNatClampNeg))).toNatClampNeg) - (Y_xs ST (((16 : Int32) * v1) + v2).toNatClampNeg)) + (Y_ys ST (((16 : Int32) * v1) + ((v2 + (1 : Int32)) - (v2 + (1 : Int32)) / (Y_sizes ST v1.toNatClampNeg) * (Y_sizes ST v1.toNatClampNeg))).toNatClampNeg)) - (Y_ys ST (((16 : Int32) * v1) + v2).toNatClampNeg))) hx hb hr (fun t ht hW => ⟨⟨rfl, ht⟩, x_F0 ht⟩) x_l0 d_MaskEdgesModel_lengthOf_68
  · replace hf := x_f hc hf
    refine lv_iload hx hb d_MaskEdgesModel_lengthOf_60 (lv_at hl 0 rfl) ?_
    refine lv_ineg hx hb d_MaskEdgesModel_lengthOf_62 ?_
    refine lv_goto (tgt := 68) hx hb d_MaskEdgesModel_lengthOf_63 (by decide) ?_
    replace hf := x_s hf
    subst hf
    subst hQ
    exact W.iret (v := (-((((Y_xs ST (((16 : Int32) * v1) + ((v2 + (1 : Int32)) - (v2 + (1 : Int32)) / (Y_sizes ST v1.toNatClampNeg) * (Y_sizes ST v1.toNatClampNeg))).toNatClampNeg) - (Y_xs ST (((16 : Int32) * v1) + v2).toNatClampNeg)) + (Y_ys ST (((16 : Int32) * v1) + ((v2 + (1 : Int32)) - (v2 + (1 : Int32)) / (Y_sizes ST v1.toNatClampNeg) * (Y_sizes ST v1.toNatClampNeg))).toNatClampNeg)) - (Y_ys ST (((16 : Int32) * v1) + v2).toNatClampNeg)))) hx hb hr (fun t ht hW => ⟨⟨rfl, ht⟩, x_F0 ht⟩) x_l0 d_MaskEdgesModel_lengthOf_68
def f_MaskEdgesModel_middle (ST : ySt) (v1 : Int32) : Option (Int32) :=
  if xin v1 120 = true then
  if xin v1 120 = true then
    some ((((Y_from ST v1.toNatClampNeg) + (Y_to ST v1.toNatClampNeg)) - (1 : Int32)) / (2 : Int32))
  else none
else none
set_option maxHeartbeats 4000000 in
set_option maxRecDepth 100000 in
theorem c_MaskEdgesModel_middle (l : Launch) (X : xG) {H : Heap} (ad : Nat → Nat) (ST : ySt) (v1 : Int32) {res : Int32} (hP : va_P X.1 vwCl (wY X ad ST) H) (hf : f_MaskEdgesModel_middle ST v1 = some res) : xM l y_MaskEdgesModel_middle (Cond.code y_MaskEdgesModel_middle prog_8_method_12_code 2 (some .int) :: xT) ({ frames := 0, cells := 0, slots := 0, locals := 0 } : Room) (xK X) [.ref (ad 0), .int v1] H xNo (some (.int res)) (fun H1 => H1 = H) := by
  refine Met.ofW (cc := prog_8_method_12_code) (maxL := 2) (ret := (some .int)) (by decide) rfl ?_
  intro p e s m args below meth c s₁ B hml hv
  obtain ⟨ha, hH, hKK⟩ := hv
  subst hH
  have hx := B.exec
  have hb := B.bytes
  have hr := B.returns
  have ht : ∀ w ∈ xT, w.before args s = true := fun w h => atoms_spec (ws := (Cond.code y_MaskEdgesModel_middle prog_8_method_12_code 2 (some .int) :: xT)) B.pre w (List.mem_cons_of_mem _ h)
  have hown : s.vm.findClass "MaskEdgesModel" = some m.cls := findClass_of_methodNamed B.named
  have hlocks := B.notSynchronized
  have hK := hKK.1
  rw [show entryFrame m args 2 = entryFrame m ([.ref (ad 0), .int v1] : List Value).toArray 2 from by rw [ha]]
  clear ha
  have hl := lv_entry ([.ref (ad 0), .int v1]) (n := 2) (Nat.le_of_ble_eq_true rfl)
  rw [lg_entry_eq]
  generalize (lg_sl ([.ref (ad 0), .int v1]) ++ List.replicate (2 - (lg_sl ([.ref (ad 0), .int v1])).length) Slot.unset).toArray = ls at hl ⊢
  replace hl : lv_has ls 2 [(0, .ref (ad 0)), (1, .int v1)] := hl
  refine x_Q (fun Q hQ => ?_)
  unfold f_MaskEdgesModel_middle at hf
  refine lv_aload_n hx hb d_MaskEdgesModel_middle_0 rfl (lv_at hl 0 rfl) ?_
  refine va_get (D := X.1) (ci := 6) (v := .ref (ad 8)) (C := "MaskEdgesModel") (T := F_MaskEdgesModel) (N := 28) hx hb ht in_MaskEdgesModel hown hK hP 0 yg0 rfl 11 (by decide) (ht _ xw_458) (fun _ h9 => h9) rfl d_MaskEdgesModel_middle_1 ?_
  refine lv_iload_n hx hb d_MaskEdgesModel_middle_4 rfl (lv_at hl 1 rfl) ?_
  obtain ⟨g5, hf⟩ := x_g hf
  refine va_iald hx hb hK hP 8 0 yg8 rfl (xin_in g5) d_MaskEdgesModel_middle_5 ?_
  refine lv_aload_n hx hb d_MaskEdgesModel_middle_6 rfl (lv_at hl 0 rfl) ?_
  refine va_get (D := X.1) (ci := 6) (v := .ref (ad 9)) (C := "MaskEdgesModel") (T := F_MaskEdgesModel) (N := 28) hx hb ht in_MaskEdgesModel hown hK hP 0 yg0 rfl 12 (by decide) (ht _ xw_459) (fun _ h9 => h9) rfl d_MaskEdgesModel_middle_7 ?_
  refine lv_iload_n hx hb d_MaskEdgesModel_middle_10 rfl (lv_at hl 1 rfl) ?_
  obtain ⟨g11, hf⟩ := x_g hf
  refine va_iald hx hb hK hP 9 0 yg9 rfl (xin_in g11) d_MaskEdgesModel_middle_11 ?_
  refine lv_iadd hx hb d_MaskEdgesModel_middle_12 ?_
  refine lv_iconst (v := (1 : Int32)) hx hb d_MaskEdgesModel_middle_13 (by decide) ?_
  refine lv_isub hx hb d_MaskEdgesModel_middle_14 ?_
  refine lv_iconst (v := (2 : Int32)) hx hb d_MaskEdgesModel_middle_15 (by decide) ?_
  refine lv_idiv hx hb d_MaskEdgesModel_middle_16 (by decide) ?_
  replace hf := x_s hf
  subst hf
  subst hQ
  exact W.iret (v := ((((Y_from ST v1.toNatClampNeg) + (Y_to ST v1.toNatClampNeg)) - (1 : Int32)) / (2 : Int32))) hx hb hr (fun t ht hW => ⟨⟨rfl, ht⟩, x_F0 ht⟩) x_l0 d_MaskEdgesModel_middle_17
def f_MaskEdgesModel_besideX (ST : ySt) (v1 : Int32) (v2 : Int32) : Option (Int32) :=
  if xin v1 120 = true then
  if (Y_isAlongX ST v1.toNatClampNeg) = 0 then
    if xin v1 120 = true then
      some ((Y_across ST v1.toNatClampNeg) + v2)
    else none
  else
    (f_MaskEdgesModel_middle ST v1).bind fun c11 =>
      some c11
else none
set_option maxHeartbeats 4000000 in
set_option maxRecDepth 100000 in
theorem c_MaskEdgesModel_besideX (l : Launch) (X : xG) {H : Heap} (ad : Nat → Nat) (ST : ySt) (v1 : Int32) (v2 : Int32) {res : Int32} (hP : va_P X.1 vwCl (wY X ad ST) H) (hf : f_MaskEdgesModel_besideX ST v1 v2 = some res) : xM l y_MaskEdgesModel_besideX (Cond.code y_MaskEdgesModel_besideX prog_8_method_13_code 3 (some .int) :: xT) ({ frames := 1, cells := 0, slots := 0, locals := 21 } : Room) (xK X) [.ref (ad 0), .int v1, .int v2] H xNo (some (.int res)) (fun H1 => H1 = H) := by
  refine Met.ofW (cc := prog_8_method_13_code) (maxL := 3) (ret := (some .int)) (by decide) rfl ?_
  intro p e s m args below meth c s₁ B hml hv
  obtain ⟨ha, hH, hKK⟩ := hv
  subst hH
  have hx := B.exec
  have hb := B.bytes
  have hr := B.returns
  have ht : ∀ w ∈ xT, w.before args s = true := fun w h => atoms_spec (ws := (Cond.code y_MaskEdgesModel_besideX prog_8_method_13_code 3 (some .int) :: xT)) B.pre w (List.mem_cons_of_mem _ h)
  have hown : s.vm.findClass "MaskEdgesModel" = some m.cls := findClass_of_methodNamed B.named
  have hlocks := B.notSynchronized
  have hK := hKK.1
  rw [show entryFrame m args 3 = entryFrame m ([.ref (ad 0), .int v1, .int v2] : List Value).toArray 3 from by rw [ha]]
  clear ha
  have hl := lv_entry ([.ref (ad 0), .int v1, .int v2]) (n := 3) (Nat.le_of_ble_eq_true rfl)
  rw [lg_entry_eq]
  generalize (lg_sl ([.ref (ad 0), .int v1, .int v2]) ++ List.replicate (3 - (lg_sl ([.ref (ad 0), .int v1, .int v2])).length) Slot.unset).toArray = ls at hl ⊢
  replace hl : lv_has ls 3 [(0, .ref (ad 0)), (1, .int v1), (2, .int v2)] := hl
  refine x_Q (fun Q hQ => ?_)
  unfold f_MaskEdgesModel_besideX at hf
  refine lv_aload_n hx hb d_MaskEdgesModel_besideX_0 rfl (lv_at hl 0 rfl) ?_
  refine va_get (D := X.1) (ci := 6) (v := .ref (ad 10)) (C := "MaskEdgesModel") (T := F_MaskEdgesModel) (N := 28) hx hb ht in_MaskEdgesModel hown hK hP 0 yg0 rfl 13 (by decide) (ht _ xw_460) (fun _ h9 => h9) rfl d_MaskEdgesModel_besideX_1 ?_
  refine lv_iload_n hx hb d_MaskEdgesModel_besideX_4 rfl (lv_at hl 1 rfl) ?_
  obtain ⟨g5, hf⟩ := x_g hf
  refine va_zald hx hb hK hP 10 5 yg10 rfl (xin_in g5) d_MaskEdgesModel_besideX_5 ?_
  refine lv_if_eq (tgt := 17) hx hb d_MaskEdgesModel_besideX_6 (by decide) (fun hc => ?_) (fun hc => ?_)
  · replace hf := x_t hc hf
    refine lv_aload_n hx hb d_MaskEdgesModel_besideX_17 rfl (lv_at hl 0 rfl) ?_
    refine va_get (D := X.1) (ci := 6) (v := .ref (ad 7)) (C := "MaskEdgesModel") (T := F_MaskEdgesModel) (N := 28) hx hb ht in_MaskEdgesModel hown hK hP 0 yg0 rfl 10 (by decide) (ht _ xw_457) (fun _ h9 => h9) rfl d_MaskEdgesModel_besideX_18 ?_
    refine lv_iload_n hx hb d_MaskEdgesModel_besideX_21 rfl (lv_at hl 1 rfl) ?_
    obtain ⟨g22, hf⟩ := x_g hf
    refine va_iald hx hb hK hP 7 0 yg7 rfl (xin_in g22) d_MaskEdgesModel_besideX_22 ?_
    refine lv_iload_n hx hb d_MaskEdgesModel_besideX_23 rfl (lv_at hl 2 rfl) ?_
    refine lv_iadd hx hb d_MaskEdgesModel_besideX_24 ?_
    replace hf := x_s hf
    subst hf
    subst hQ
    exact W.iret (v := ((Y_across ST v1.toNatClampNeg) + v2)) hx hb hr (fun t ht hW => ⟨⟨rfl, ht⟩, x_F0 ht⟩) x_l0 d_MaskEdgesModel_besideX_25
  · replace hf := x_f hc hf
    refine lv_aload_n hx hb d_MaskEdgesModel_besideX_9 rfl (lv_at hl 0 rfl) ?_
    refine lv_iload_n hx hb d_MaskEdgesModel_besideX_10 rfl (lv_at hl 1 rfl) ?_
    obtain ⟨c11, e11, hf⟩ := x_b hf
    refine xcR (va_runV (As := [.int v1]) (rest := []) ⟨hx, hb, hml, hown, ht⟩ (c_MaskEdgesModel_middle l X ad ST v1 hP e11) (cwV 1 ht (xgV xw_542 xw_543 xw_19 xw_43 xw_544) rfl rfl rfl (by decide +kernel) ⟨Nat.le_of_ble_eq_true rfl, Nat.le_of_ble_eq_true rfl⟩) (xPV hKK (va_recv hK hP (ci := 6) (q0 := 0) rfl yg0)) rfl rfl hl.1 rfl (lv_room (Nat.le_of_ble_eq_true rfl)) d_MaskEdgesModel_besideX_11 ⟨Nat.zero_le _, Nat.zero_le _⟩) ?_
    refine W.eq (g2 := F0 m 14 ls [.int c11]) rfl ?_
    refine lv_goto (tgt := 25) hx hb d_MaskEdgesModel_besideX_14 (by decide) ?_
    replace hf := x_s hf
    subst hf
    subst hQ
    exact W.iret (v := c11) hx hb hr (fun t ht hW => ⟨⟨rfl, ht⟩, x_F0 ht⟩) x_l0 d_MaskEdgesModel_besideX_25
def f_MaskEdgesModel_besideY (ST : ySt) (v1 : Int32) (v2 : Int32) : Option (Int32) :=
  if xin v1 120 = true then
  if (Y_isAlongX ST v1.toNatClampNeg) = 0 then
    (f_MaskEdgesModel_middle ST v1).bind fun c22 =>
      some c22
  else
    if xin v1 120 = true then
      some ((Y_across ST v1.toNatClampNeg) + v2)
    else none
else none
set_option maxHeartbeats 4000000 in
set_option maxRecDepth 100000 in
theorem c_MaskEdgesModel_besideY (l : Launch) (X : xG) {H : Heap} (ad : Nat → Nat) (ST : ySt) (v1 : Int32) (v2 : Int32) {res : Int32} (hP : va_P X.1 vwCl (wY X ad ST) H) (hf : f_MaskEdgesModel_besideY ST v1 v2 = some res) : xM l y_MaskEdgesModel_besideY (Cond.code y_MaskEdgesModel_besideY prog_8_method_14_code 3 (some .int) :: xT) ({ frames := 1, cells := 0, slots := 0, locals := 21 } : Room) (xK X) [.ref (ad 0), .int v1, .int v2] H xNo (some (.int res)) (fun H1 => H1 = H) := by
  refine Met.ofW (cc := prog_8_method_14_code) (maxL := 3) (ret := (some .int)) (by decide) rfl ?_
  intro p e s m args below meth c s₁ B hml hv
  obtain ⟨ha, hH, hKK⟩ := hv
  subst hH
  have hx := B.exec
  have hb := B.bytes
  have hr := B.returns
  have ht : ∀ w ∈ xT, w.before args s = true := fun w h => atoms_spec (ws := (Cond.code y_MaskEdgesModel_besideY prog_8_method_14_code 3 (some .int) :: xT)) B.pre w (List.mem_cons_of_mem _ h)
  have hown : s.vm.findClass "MaskEdgesModel" = some m.cls := findClass_of_methodNamed B.named
  have hlocks := B.notSynchronized
  have hK := hKK.1
  rw [show entryFrame m args 3 = entryFrame m ([.ref (ad 0), .int v1, .int v2] : List Value).toArray 3 from by rw [ha]]
  clear ha
  have hl := lv_entry ([.ref (ad 0), .int v1, .int v2]) (n := 3) (Nat.le_of_ble_eq_true rfl)
  rw [lg_entry_eq]
  generalize (lg_sl ([.ref (ad 0), .int v1, .int v2]) ++ List.replicate (3 - (lg_sl ([.ref (ad 0), .int v1, .int v2])).length) Slot.unset).toArray = ls at hl ⊢
  replace hl : lv_has ls 3 [(0, .ref (ad 0)), (1, .int v1), (2, .int v2)] := hl
  refine x_Q (fun Q hQ => ?_)
  unfold f_MaskEdgesModel_besideY at hf
  refine lv_aload_n hx hb d_MaskEdgesModel_besideY_0 rfl (lv_at hl 0 rfl) ?_
  refine va_get (D := X.1) (ci := 6) (v := .ref (ad 10)) (C := "MaskEdgesModel") (T := F_MaskEdgesModel) (N := 28) hx hb ht in_MaskEdgesModel hown hK hP 0 yg0 rfl 13 (by decide) (ht _ xw_460) (fun _ h9 => h9) rfl d_MaskEdgesModel_besideY_1 ?_
  refine lv_iload_n hx hb d_MaskEdgesModel_besideY_4 rfl (lv_at hl 1 rfl) ?_
  obtain ⟨g5, hf⟩ := x_g hf
  refine va_zald hx hb hK hP 10 5 yg10 rfl (xin_in g5) d_MaskEdgesModel_besideY_5 ?_
  refine lv_if_eq (tgt := 20) hx hb d_MaskEdgesModel_besideY_6 (by decide) (fun hc => ?_) (fun hc => ?_)
  · replace hf := x_t hc hf
    refine lv_aload_n hx hb d_MaskEdgesModel_besideY_20 rfl (lv_at hl 0 rfl) ?_
    refine lv_iload_n hx hb d_MaskEdgesModel_besideY_21 rfl (lv_at hl 1 rfl) ?_
    obtain ⟨c22, e22, hf⟩ := x_b hf
    refine xcR (va_runV (As := [.int v1]) (rest := []) ⟨hx, hb, hml, hown, ht⟩ (c_MaskEdgesModel_middle l X ad ST v1 hP e22) (cwV 1 ht (xgV xw_542 xw_543 xw_19 xw_43 xw_544) rfl rfl rfl (by decide +kernel) ⟨Nat.le_of_ble_eq_true rfl, Nat.le_of_ble_eq_true rfl⟩) (xPV hKK (va_recv hK hP (ci := 6) (q0 := 0) rfl yg0)) rfl rfl hl.1 rfl (lv_room (Nat.le_of_ble_eq_true rfl)) d_MaskEdgesModel_besideY_22 ⟨Nat.zero_le _, Nat.zero_le _⟩) ?_
    refine W.eq (g2 := F0 m 25 ls [.int c22]) rfl ?_
    replace hf := x_s hf
    subst hf
    subst hQ
    exact W.iret (v := c22) hx hb hr (fun t ht hW => ⟨⟨rfl, ht⟩, x_F0 ht⟩) x_l0 d_MaskEdgesModel_besideY_25
  · replace hf := x_f hc hf
    refine lv_aload_n hx hb d_MaskEdgesModel_besideY_9 rfl (lv_at hl 0 rfl) ?_
    refine va_get (D := X.1) (ci := 6) (v := .ref (ad 7)) (C := "MaskEdgesModel") (T := F_MaskEdgesModel) (N := 28) hx hb ht in_MaskEdgesModel hown hK hP 0 yg0 rfl 10 (by decide) (ht _ xw_457) (fun _ h9 => h9) rfl d_MaskEdgesModel_besideY_10 ?_
    refine lv_iload_n hx hb d_MaskEdgesModel_besideY_13 rfl (lv_at hl 1 rfl) ?_
    obtain ⟨g14, hf⟩ := x_g hf
    refine va_iald hx hb hK hP 7 0 yg7 rfl (xin_in g14) d_MaskEdgesModel_besideY_14 ?_
    refine lv_iload_n hx hb d_MaskEdgesModel_besideY_15 rfl (lv_at hl 2 rfl) ?_
    refine lv_iadd hx hb d_MaskEdgesModel_besideY_16 ?_
    refine lv_goto (tgt := 25) hx hb d_MaskEdgesModel_besideY_17 (by decide) ?_
    replace hf := x_s hf
    subst hf
    subst hQ
    exact W.iret (v := ((Y_across ST v1.toNatClampNeg) + v2)) hx hb hr (fun t ht hW => ⟨⟨rfl, ht⟩, x_F0 ht⟩) x_l0 d_MaskEdgesModel_besideY_25
def f_MaskEdgesModel_addPieces_390 (r138 : Int32 → Int32 → Int32 → Int32 → Int32 → Int32 → Int32 → Int32 → ySt → Option (ySt)) (v1 : Int32) (v3 : Int32) (v4 : Int32) (v6 : Int32) (v7 : Int32) (v8 : Int32) (v9 : Int32) (v10 : Int32) (s0 : Int32) (s1 : Int32) (ST : ySt) : Option (ySt) :=
  if xin s1 120 = true then
  r138 v1 v3 v4 v6 v7 v8 v9 (v10 + (1 : Int32)) (Y_u_pieces (Y_u_out ST (upd (Y_out ST) s1.toNatClampNeg s0)) ((Y_pieces (Y_u_out ST (upd (Y_out ST) s1.toNatClampNeg s0))) + (1 : Int32)))
else none
def f_MaskEdgesModel_addPieces_300 (r138 : Int32 → Int32 → Int32 → Int32 → Int32 → Int32 → Int32 → Int32 → ySt → Option (ySt)) (v1 : Int32) (v3 : Int32) (v4 : Int32) (v6 : Int32) (v7 : Int32) (v8 : Int32) (v9 : Int32) (v10 : Int32) (s0 : Int32) (s1 : Int32) (ST : ySt) : Option (ySt) :=
  if xin s1 120 = true then
  if xin (Y_pieces (Y_u_isLast ST (upd (Y_isLast ST) s1.toNatClampNeg (vp_nar .boolean s0)))) 120 = true then
    (f_MaskEdgesModel_besideX (Y_u_moves (Y_u_isLast ST (upd (Y_isLast ST) s1.toNatClampNeg (vp_nar .boolean s0))) (upd (Y_moves (Y_u_isLast ST (upd (Y_isLast ST) s1.toNatClampNeg (vp_nar .boolean s0)))) (Y_pieces (Y_u_isLast ST (upd (Y_isLast ST) s1.toNatClampNeg (vp_nar .boolean s0)))).toNatClampNeg (0 : Int32))) (Y_pieces (Y_u_moves (Y_u_isLast ST (upd (Y_isLast ST) s1.toNatClampNeg (vp_nar .boolean s0))) (upd (Y_moves (Y_u_isLast ST (upd (Y_isLast ST) s1.toNatClampNeg (vp_nar .boolean s0)))) (Y_pieces (Y_u_isLast ST (upd (Y_isLast ST) s1.toNatClampNeg (vp_nar .boolean s0)))).toNatClampNeg (0 : Int32)))) (0 : Int32)).bind fun c319 =>
      (f_MaskEdgesModel_besideY (Y_u_moves (Y_u_isLast ST (upd (Y_isLast ST) s1.toNatClampNeg (vp_nar .boolean s0))) (upd (Y_moves (Y_u_isLast ST (upd (Y_isLast ST) s1.toNatClampNeg (vp_nar .boolean s0)))) (Y_pieces (Y_u_isLast ST (upd (Y_isLast ST) s1.toNatClampNeg (vp_nar .boolean s0)))).toNatClampNeg (0 : Int32))) (Y_pieces (Y_u_moves (Y_u_isLast ST (upd (Y_isLast ST) s1.toNatClampNeg (vp_nar .boolean s0))) (upd (Y_moves (Y_u_isLast ST (upd (Y_isLast ST) s1.toNatClampNeg (vp_nar .boolean s0)))) (Y_pieces (Y_u_isLast ST (upd (Y_isLast ST) s1.toNatClampNeg (vp_nar .boolean s0)))).toNatClampNeg (0 : Int32)))) (0 : Int32)).bind fun c328 =>
      (f_MaskEdgesModel_isIn (Y_u_moves (Y_u_isLast ST (upd (Y_isLast ST) s1.toNatClampNeg (vp_nar .boolean s0))) (upd (Y_moves (Y_u_isLast ST (upd (Y_isLast ST) s1.toNatClampNeg (vp_nar .boolean s0)))) (Y_pieces (Y_u_isLast ST (upd (Y_isLast ST) s1.toNatClampNeg (vp_nar .boolean s0)))).toNatClampNeg (0 : Int32))) v1 c319 c328).bind fun c331 =>
      (f_MaskEdgesModel_besideX (Y_u_moves (Y_u_isLast ST (upd (Y_isLast ST) s1.toNatClampNeg (vp_nar .boolean s0))) (upd (Y_moves (Y_u_isLast ST (upd (Y_isLast ST) s1.toNatClampNeg (vp_nar .boolean s0)))) (Y_pieces (Y_u_isLast ST (upd (Y_isLast ST) s1.toNatClampNeg (vp_nar .boolean s0)))).toNatClampNeg (0 : Int32))) (Y_pieces (Y_u_moves (Y_u_isLast ST (upd (Y_isLast ST) s1.toNatClampNeg (vp_nar .boolean s0))) (upd (Y_moves (Y_u_isLast ST (upd (Y_isLast ST) s1.toNatClampNeg (vp_nar .boolean s0)))) (Y_pieces (Y_u_isLast ST (upd (Y_isLast ST) s1.toNatClampNeg (vp_nar .boolean s0)))).toNatClampNeg (0 : Int32)))) (-1 : Int32)).bind fun c344 =>
      (f_MaskEdgesModel_besideY (Y_u_moves (Y_u_isLast ST (upd (Y_isLast ST) s1.toNatClampNeg (vp_nar .boolean s0))) (upd (Y_moves (Y_u_isLast ST (upd (Y_isLast ST) s1.toNatClampNeg (vp_nar .boolean s0)))) (Y_pieces (Y_u_isLast ST (upd (Y_isLast ST) s1.toNatClampNeg (vp_nar .boolean s0)))).toNatClampNeg (0 : Int32))) (Y_pieces (Y_u_moves (Y_u_isLast ST (upd (Y_isLast ST) s1.toNatClampNeg (vp_nar .boolean s0))) (upd (Y_moves (Y_u_isLast ST (upd (Y_isLast ST) s1.toNatClampNeg (vp_nar .boolean s0)))) (Y_pieces (Y_u_isLast ST (upd (Y_isLast ST) s1.toNatClampNeg (vp_nar .boolean s0)))).toNatClampNeg (0 : Int32)))) (-1 : Int32)).bind fun c353 =>
      (f_MaskEdgesModel_isIn (Y_u_moves (Y_u_isLast ST (upd (Y_isLast ST) s1.toNatClampNeg (vp_nar .boolean s0))) (upd (Y_moves (Y_u_isLast ST (upd (Y_isLast ST) s1.toNatClampNeg (vp_nar .boolean s0)))) (Y_pieces (Y_u_isLast ST (upd (Y_isLast ST) s1.toNatClampNeg (vp_nar .boolean s0)))).toNatClampNeg (0 : Int32))) v1 c344 c353).bind fun c356 =>
      if c331 = c356 then
      (f_MaskEdgesModel_addPieces_390 r138) v1 v3 v4 v6 v7 v8 v9 v10 (0 : Int32) (Y_pieces (Y_u_moves (Y_u_isLast ST (upd (Y_isLast ST) s1.toNatClampNeg (vp_nar .boolean s0))) (upd (Y_moves (Y_u_isLast ST (upd (Y_isLast ST) s1.toNatClampNeg (vp_nar .boolean s0)))) (Y_pieces (Y_u_isLast ST (upd (Y_isLast ST) s1.toNatClampNeg (vp_nar .boolean s0)))).toNatClampNeg (0 : Int32)))) (Y_u_moves (Y_u_isLast ST (upd (Y_isLast ST) s1.toNatClampNeg (vp_nar .boolean s0))) (upd (Y_moves (Y_u_isLast ST (upd (Y_isLast ST) s1.toNatClampNeg (vp_nar .boolean s0)))) (Y_pieces (Y_u_isLast ST (upd (Y_isLast ST) s1.toNatClampNeg (vp_nar .boolean s0)))).toNatClampNeg (0 : Int32)))
    else
      if c356 = 0 then
        (f_MaskEdgesModel_addPieces_390 r138) v1 v3 v4 v6 v7 v8 v9 v10 (-1 : Int32) (Y_pieces (Y_u_moves (Y_u_isLast ST (upd (Y_isLast ST) s1.toNatClampNeg (vp_nar .boolean s0))) (upd (Y_moves (Y_u_isLast ST (upd (Y_isLast ST) s1.toNatClampNeg (vp_nar .boolean s0)))) (Y_pieces (Y_u_isLast ST (upd (Y_isLast ST) s1.toNatClampNeg (vp_nar .boolean s0)))).toNatClampNeg (0 : Int32)))) (Y_u_moves (Y_u_isLast ST (upd (Y_isLast ST) s1.toNatClampNeg (vp_nar .boolean s0))) (upd (Y_moves (Y_u_isLast ST (upd (Y_isLast ST) s1.toNatClampNeg (vp_nar .boolean s0)))) (Y_pieces (Y_u_isLast ST (upd (Y_isLast ST) s1.toNatClampNeg (vp_nar .boolean s0)))).toNatClampNeg (0 : Int32)))
      else
        (f_MaskEdgesModel_addPieces_390 r138) v1 v3 v4 v6 v7 v8 v9 v10 (1 : Int32) (Y_pieces (Y_u_moves (Y_u_isLast ST (upd (Y_isLast ST) s1.toNatClampNeg (vp_nar .boolean s0))) (upd (Y_moves (Y_u_isLast ST (upd (Y_isLast ST) s1.toNatClampNeg (vp_nar .boolean s0)))) (Y_pieces (Y_u_isLast ST (upd (Y_isLast ST) s1.toNatClampNeg (vp_nar .boolean s0)))).toNatClampNeg (0 : Int32)))) (Y_u_moves (Y_u_isLast ST (upd (Y_isLast ST) s1.toNatClampNeg (vp_nar .boolean s0))) (upd (Y_moves (Y_u_isLast ST (upd (Y_isLast ST) s1.toNatClampNeg (vp_nar .boolean s0)))) (Y_pieces (Y_u_isLast ST (upd (Y_isLast ST) s1.toNatClampNeg (vp_nar .boolean s0)))).toNatClampNeg (0 : Int32)))
  else none
else none
def f_MaskEdgesModel_addPieces_278 (r138 : Int32 → Int32 → Int32 → Int32 → Int32 → Int32 → Int32 → Int32 → ySt → Option (ySt)) (v1 : Int32) (v3 : Int32) (v4 : Int32) (v6 : Int32) (v7 : Int32) (v8 : Int32) (v9 : Int32) (v10 : Int32) (s0 : Int32) (s1 : Int32) (ST : ySt) : Option (ySt) :=
  if xin s1 120 = true then
  if v10 = (v3 - (1 : Int32)) then
    (f_MaskEdgesModel_addPieces_300 r138) v1 v3 v4 v6 v7 v8 v9 v10 (1 : Int32) (Y_pieces (Y_u_isFirst ST (upd (Y_isFirst ST) s1.toNatClampNeg (vp_nar .boolean s0)))) (Y_u_isFirst ST (upd (Y_isFirst ST) s1.toNatClampNeg (vp_nar .boolean s0)))
  else
    (f_MaskEdgesModel_addPieces_300 r138) v1 v3 v4 v6 v7 v8 v9 v10 (0 : Int32) (Y_pieces (Y_u_isFirst ST (upd (Y_isFirst ST) s1.toNatClampNeg (vp_nar .boolean s0)))) (Y_u_isFirst ST (upd (Y_isFirst ST) s1.toNatClampNeg (vp_nar .boolean s0)))
else none
def f_MaskEdgesModel_addPieces_259 (r138 : Int32 → Int32 → Int32 → Int32 → Int32 → Int32 → Int32 → Int32 → ySt → Option (ySt)) (v1 : Int32) (v3 : Int32) (v4 : Int32) (v6 : Int32) (v7 : Int32) (v8 : Int32) (v9 : Int32) (v10 : Int32) (s0 : Int32) (s1 : Int32) (ST : ySt) : Option (ySt) :=
  if xin s1 120 = true then
  if v10 = 0 then
    (f_MaskEdgesModel_addPieces_278 r138) v1 v3 v4 v6 v7 v8 v9 v10 (1 : Int32) (Y_pieces (Y_u_to ST (upd (Y_to ST) s1.toNatClampNeg s0))) (Y_u_to ST (upd (Y_to ST) s1.toNatClampNeg s0))
  else
    (f_MaskEdgesModel_addPieces_278 r138) v1 v3 v4 v6 v7 v8 v9 v10 (0 : Int32) (Y_pieces (Y_u_to ST (upd (Y_to ST) s1.toNatClampNeg s0))) (Y_u_to ST (upd (Y_to ST) s1.toNatClampNeg s0))
else none
def f_MaskEdgesModel_addPieces_232 (r138 : Int32 → Int32 → Int32 → Int32 → Int32 → Int32 → Int32 → Int32 → ySt → Option (ySt)) (v1 : Int32) (v3 : Int32) (v4 : Int32) (v6 : Int32) (v7 : Int32) (v8 : Int32) (v9 : Int32) (v10 : Int32) (v11 : Int32) (v12 : Int32) (s0 : Int32) (s1 : Int32) (ST : ySt) : Option (ySt) :=
  if xin s1 120 = true then
  if v9 = 0 then
    (f_MaskEdgesModel_addPieces_259 r138) v1 v3 v4 v6 v7 v8 v9 v10 (v8 - v11) (Y_pieces (Y_u_from ST (upd (Y_from ST) s1.toNatClampNeg s0))) (Y_u_from ST (upd (Y_from ST) s1.toNatClampNeg s0))
  else
    (f_MaskEdgesModel_addPieces_259 r138) v1 v3 v4 v6 v7 v8 v9 v10 (v8 + v12) (Y_pieces (Y_u_from ST (upd (Y_from ST) s1.toNatClampNeg s0))) (Y_u_from ST (upd (Y_from ST) s1.toNatClampNeg s0))
else none
def f_MaskEdgesModel_addPieces_205 (r138 : Int32 → Int32 → Int32 → Int32 → Int32 → Int32 → Int32 → Int32 → ySt → Option (ySt)) (v1 : Int32) (v3 : Int32) (v4 : Int32) (v6 : Int32) (v7 : Int32) (v8 : Int32) (v9 : Int32) (v10 : Int32) (v11 : Int32) (v12 : Int32) (s0 : Int32) (s1 : Int32) (ST : ySt) : Option (ySt) :=
  if xin s1 120 = true then
  if v9 = 0 then
    (f_MaskEdgesModel_addPieces_232 r138) v1 v3 v4 v6 v7 v8 v9 v10 v11 v12 (v8 - v12) (Y_pieces (Y_u_across ST (upd (Y_across ST) s1.toNatClampNeg s0))) (Y_u_across ST (upd (Y_across ST) s1.toNatClampNeg s0))
  else
    (f_MaskEdgesModel_addPieces_232 r138) v1 v3 v4 v6 v7 v8 v9 v10 v11 v12 (v8 + v11) (Y_pieces (Y_u_across ST (upd (Y_across ST) s1.toNatClampNeg s0))) (Y_u_across ST (upd (Y_across ST) s1.toNatClampNeg s0))
else none
def f_MaskEdgesModel_addPieces_138 (r138 : Int32 → Int32 → Int32 → Int32 → Int32 → Int32 → Int32 → Int32 → ySt → Option (ySt)) (v1 : Int32) (v3 : Int32) (v4 : Int32) (v6 : Int32) (v7 : Int32) (v8 : Int32) (v9 : Int32) (v10 : Int32) (ST : ySt) : Option (ySt) :=
  if v3 ≤ v10 then
  some ST
else
  if v3 = 0 then none else
    if v3 = 0 then none else
    if xin (Y_pieces ST) 120 = true then
    if v7 = 0 then
      if xin v4 64 = true then
        (f_MaskEdgesModel_addPieces_205 r138) v1 v3 v4 v6 v7 v8 v9 v10 ((v6 * v10) / v3) ((v6 * (v10 + (1 : Int32))) / v3) (Y_xs (Y_u_isAlongX ST (upd (Y_isAlongX ST) (Y_pieces ST).toNatClampNeg (vp_nar .boolean v7))) v4.toNatClampNeg) (Y_pieces (Y_u_isAlongX ST (upd (Y_isAlongX ST) (Y_pieces ST).toNatClampNeg (vp_nar .boolean v7)))) (Y_u_isAlongX ST (upd (Y_isAlongX ST) (Y_pieces ST).toNatClampNeg (vp_nar .boolean v7)))
      else none
    else
      if xin v4 64 = true then
        (f_MaskEdgesModel_addPieces_205 r138) v1 v3 v4 v6 v7 v8 v9 v10 ((v6 * v10) / v3) ((v6 * (v10 + (1 : Int32))) / v3) (Y_ys (Y_u_isAlongX ST (upd (Y_isAlongX ST) (Y_pieces ST).toNatClampNeg (vp_nar .boolean v7))) v4.toNatClampNeg) (Y_pieces (Y_u_isAlongX ST (upd (Y_isAlongX ST) (Y_pieces ST).toNatClampNeg (vp_nar .boolean v7)))) (Y_u_isAlongX ST (upd (Y_isAlongX ST) (Y_pieces ST).toNatClampNeg (vp_nar .boolean v7)))
      else none
  else none
def f_MaskEdgesModel_addPieces_133 (v1 : Int32) (v3 : Int32) (v4 : Int32) (v6 : Int32) (v7 : Int32) (v8 : Int32) (s0 : Int32) (ST : ySt) : Option (ySt) :=
  (xloop (fun r => f_MaskEdgesModel_addPieces_138 r) (fun _ _ _ _ _ _ _ _ _ => none) 100000) v1 v3 v4 v6 v7 v8 s0 (0 : Int32) ST
def f_MaskEdgesModel_addPieces_79 (v1 : Int32) (v3 : Int32) (v4 : Int32) (v5 : Int32) (v6 : Int32) (v7 : Int32) (s0 : Int32) (ST : ySt) : Option (ySt) :=
  if v7 = 0 then
  if xin v5 64 = true then
    if xin v4 64 = true then
      if (Y_ys ST v5.toNatClampNeg) ≤ (Y_ys ST v4.toNatClampNeg) then
        f_MaskEdgesModel_addPieces_133 v1 v3 v4 v6 v7 s0 (0 : Int32) ST
      else
        f_MaskEdgesModel_addPieces_133 v1 v3 v4 v6 v7 s0 (1 : Int32) ST
    else none
  else none
else
  if xin v5 64 = true then
    if xin v4 64 = true then
      if (Y_xs ST v5.toNatClampNeg) ≤ (Y_xs ST v4.toNatClampNeg) then
        f_MaskEdgesModel_addPieces_133 v1 v3 v4 v6 v7 s0 (0 : Int32) ST
      else
        f_MaskEdgesModel_addPieces_133 v1 v3 v4 v6 v7 s0 (1 : Int32) ST
    else none
  else none
def f_MaskEdgesModel_addPieces_55 (v1 : Int32) (v3 : Int32) (v4 : Int32) (v5 : Int32) (v6 : Int32) (s0 : Int32) (ST : ySt) : Option (ySt) :=
  if s0 = 0 then
  if xin v4 64 = true then
    f_MaskEdgesModel_addPieces_79 v1 v3 v4 v5 v6 s0 (Y_ys ST v4.toNatClampNeg) ST
  else none
else
  if xin v4 64 = true then
    f_MaskEdgesModel_addPieces_79 v1 v3 v4 v5 v6 s0 (Y_xs ST v4.toNatClampNeg) ST
  else none
def f_MaskEdgesModel_addPieces (v1 : Int32) (v2 : Int32) (v3 : Int32) (ST : ySt) : Option (ySt) :=
  if xin v1 4 = true then
  if (Y_sizes ST v1.toNatClampNeg) = 0 then none else
    (f_MaskEdgesModel_lengthOf ST v1 v2).bind fun c28 =>
    if xin (((16 : Int32) * v1) + v2) 64 = true then
    if xin (((16 : Int32) * v1) + ((v2 + (1 : Int32)) - (v2 + (1 : Int32)) / (Y_sizes ST v1.toNatClampNeg) * (Y_sizes ST v1.toNatClampNeg))) 64 = true then
      if (Y_ys ST (((16 : Int32) * v1) + v2).toNatClampNeg) = (Y_ys ST (((16 : Int32) * v1) + ((v2 + (1 : Int32)) - (v2 + (1 : Int32)) / (Y_sizes ST v1.toNatClampNeg) * (Y_sizes ST v1.toNatClampNeg))).toNatClampNeg) then
        f_MaskEdgesModel_addPieces_55 v1 v3 (((16 : Int32) * v1) + v2) (((16 : Int32) * v1) + ((v2 + (1 : Int32)) - (v2 + (1 : Int32)) / (Y_sizes ST v1.toNatClampNeg) * (Y_sizes ST v1.toNatClampNeg))) c28 (1 : Int32) ST
      else
        f_MaskEdgesModel_addPieces_55 v1 v3 (((16 : Int32) * v1) + v2) (((16 : Int32) * v1) + ((v2 + (1 : Int32)) - (v2 + (1 : Int32)) / (Y_sizes ST v1.toNatClampNeg) * (Y_sizes ST v1.toNatClampNeg))) c28 (0 : Int32) ST
    else none
  else none
else none
set_option maxHeartbeats 4000000 in
set_option maxRecDepth 100000 in
theorem c_MaskEdgesModel_addPieces (l : Launch) (X : xG) {H : Heap} (ad : Nat → Nat) (ST : ySt) (v1 : Int32) (v2 : Int32) (v3 : Int32) {res : ySt} (hP : va_P X.1 vwCl (wY X ad ST) H) (hA : okB ad) (hf : f_MaskEdgesModel_addPieces v1 v2 v3 ST = some res) : xM l y_MaskEdgesModel_addPieces (Cond.code y_MaskEdgesModel_addPieces prog_8_method_15_code 15 none :: xT) ({ frames := 3, cells := 0, slots := 0, locals := 75 } : Room) (xK X) [.ref (ad 0), .int v1, .int v2, .int v3] H (yA ad) none (fun H1 => va_P X.1 vwCl (wY X ad res) H1) := by
  refine Met.ofW (cc := prog_8_method_15_code) (maxL := 15) (ret := none) (by decide) rfl ?_
  intro p e s m args below meth c s₁ B hml hv
  obtain ⟨ha, hH, hKK⟩ := hv
  subst hH
  have hx := B.exec
  have hb := B.bytes
  have hr := B.returns
  have ht : ∀ w ∈ xT, w.before args s = true := fun w h => atoms_spec (ws := (Cond.code y_MaskEdgesModel_addPieces prog_8_method_15_code 15 none :: xT)) B.pre w (List.mem_cons_of_mem _ h)
  have hown : s.vm.findClass "MaskEdgesModel" = some m.cls := findClass_of_methodNamed B.named
  have hlocks := B.notSynchronized
  have hK := hKK.1
  rw [show entryFrame m args 15 = entryFrame m ([.ref (ad 0), .int v1, .int v2, .int v3] : List Value).toArray 15 from by rw [ha]]
  clear ha
  have hS : va_S (yA ad) s.heap s.heap [] := va_S.rf
  have hl := lv_entry ([.ref (ad 0), .int v1, .int v2, .int v3]) (n := 15) (Nat.le_of_ble_eq_true rfl)
  rw [lg_entry_eq]
  generalize (lg_sl ([.ref (ad 0), .int v1, .int v2, .int v3]) ++ List.replicate (15 - (lg_sl ([.ref (ad 0), .int v1, .int v2, .int v3])).length) Slot.unset).toArray = ls at hl ⊢
  replace hl : lv_has ls 15 [(0, .ref (ad 0)), (1, .int v1), (2, .int v2), (3, .int v3)] := hl
  refine x_Q (fun Q hQ => ?_)
  have hL390 : ∀ (r138 : Int32 → Int32 → Int32 → Int32 → Int32 → Int32 → Int32 → Int32 → ySt → Option (ySt)) (hr138 : ∀ (v1 : Int32) (v3 : Int32) (v4 : Int32) (v6 : Int32) (v7 : Int32) (v8 : Int32) (v9 : Int32) (v10 : Int32) (ST : ySt), ∀ (H : Heap) (locs : List Loc), va_P X.1 vwCl (wY X ad ST) H → va_S (yA ad) s.heap H locs → ∀ (ls : Array Slot), lv_has ls 15 [(0, .ref (ad 0)), (1, .int v1), (3, .int v3), (4, .int v4), (6, .int v6), (7, .int v7), (8, .int v8), (9, .int v9), (10, .int v10)] → r138 v1 v3 v4 v6 v7 v8 v9 v10 ST = some res → W p l e (headSpec (Cond.code y_MaskEdgesModel_addPieces prog_8_method_15_code 15 none :: xT) ({ frames := 3, cells := 0, slots := 0, locals := 75 } : Room)).room s m args below meth c H locs 0 0 Q (F0 m 138 ls [])), ∀ (v1 : Int32) (v3 : Int32) (v4 : Int32) (v6 : Int32) (v7 : Int32) (v8 : Int32) (v9 : Int32) (v10 : Int32) (s0 : Int32) (s1 : Int32) (ST : ySt), ∀ (H : Heap) (locs : List Loc), va_P X.1 vwCl (wY X ad ST) H → va_S (yA ad) s.heap H locs → ∀ (ls : Array Slot), lv_has ls 15 [(0, .ref (ad 0)), (1, .int v1), (3, .int v3), (4, .int v4), (6, .int v6), (7, .int v7), (8, .int v8), (9, .int v9), (10, .int v10)] → f_MaskEdgesModel_addPieces_390 r138 v1 v3 v4 v6 v7 v8 v9 v10 s0 s1 ST = some res → W p l e (headSpec (Cond.code y_MaskEdgesModel_addPieces prog_8_method_15_code 15 none :: xT) ({ frames := 3, cells := 0, slots := 0, locals := 75 } : Room)).room s m args below meth c H locs 0 0 Q (F0 m 390 ls [.int s0, .int s1, .ref (ad 13)]) := by
    intro r138 hr138 v1 v3 v4 v6 v7 v8 v9 v10 s0 s1 ST H locs hP hS ls hl hf
    unfold f_MaskEdgesModel_addPieces_390 at hf
    obtain ⟨g390, hf⟩ := x_g hf
    refine va_iast hx hb hK hP (yD hA) hS 13 0 yg13 rfl (xin_in g390) d_MaskEdgesModel_addPieces_390 (fun H locs hP _ hS => ?_)
    replace hP : va_P X.1 vwCl (wY X ad (Y_u_out ST (upd (Y_out ST) s1.toNatClampNeg s0))) H := xeq ym_out hP
    refine lv_aload_n hx hb d_MaskEdgesModel_addPieces_391 rfl (lv_at hl 0 rfl) ?_
    refine lv_dup hx hb d_MaskEdgesModel_addPieces_392 rfl ?_
    refine va_get (D := X.1) (ci := 6) (v := .int (Y_pieces (Y_u_out ST (upd (Y_out ST) s1.toNatClampNeg s0)))) (C := "MaskEdgesModel") (T := F_MaskEdgesModel) (N := 28) hx hb ht in_MaskEdgesModel hown hK hP 0 yg0 rfl 9 (by decide) (ht _ xw_456) (fun _ h9 => h9) rfl d_MaskEdgesModel_addPieces_393 ?_
    refine lv_iconst (v := (1 : Int32)) hx hb d_MaskEdgesModel_addPieces_396 (by decide) ?_
    refine lv_iadd hx hb d_MaskEdgesModel_addPieces_397 ?_
    refine va_put (D := X.1) (ci := 6) (v := .int ((Y_pieces (Y_u_out ST (upd (Y_out ST) s1.toNatClampNeg s0))) + (1 : Int32))) (ty := .int) (C := "MaskEdgesModel") (T := F_MaskEdgesModel) (N := 28) hx hb ht in_MaskEdgesModel ty_MaskEdgesModel tyk_MaskEdgesModel nm_MaskEdgesModel hown hK hP (yD hA) hS 0 yg0 rfl 9 (by decide) (ht _ xw_456) (fun _ h9 => h9) rfl (by decide +kernel) rfl rfl (Nat.le_of_ble_eq_true rfl) d_MaskEdgesModel_addPieces_398 (fun H locs hP _ hS => ?_)
    replace hP : va_P X.1 vwCl (wY X ad (Y_u_pieces (Y_u_out ST (upd (Y_out ST) s1.toNatClampNeg s0)) ((Y_pieces (Y_u_out ST (upd (Y_out ST) s1.toNatClampNeg s0))) + (1 : Int32)))) H := xeq ym_pieces hP
    refine lv_iinc (v := (v10 + (1 : Int32))) (lv' := [(10, .int (v10 + (1 : Int32))), (0, .ref (ad 0)), (1, .int v1), (3, .int v3), (4, .int v4), (6, .int v6), (7, .int v7), (8, .int v8), (9, .int v9)]) hx hb d_MaskEdgesModel_addPieces_401 hl (k := 8) rfl rfl (by decide) rfl (fun ls hl => ?_)
    refine lv_goto (tgt := 138) hx hb d_MaskEdgesModel_addPieces_404 (by decide) ?_
    exact hr138 v1 v3 v4 v6 v7 v8 v9 (v10 + (1 : Int32)) (Y_u_pieces (Y_u_out ST (upd (Y_out ST) s1.toNatClampNeg s0)) ((Y_pieces (Y_u_out ST (upd (Y_out ST) s1.toNatClampNeg s0))) + (1 : Int32))) _ _ hP hS ls (lv_sub hl [1, 2, 3, 4, 5, 6, 7, 8, 0] rfl) hf
  have hL300 : ∀ (r138 : Int32 → Int32 → Int32 → Int32 → Int32 → Int32 → Int32 → Int32 → ySt → Option (ySt)) (hr138 : ∀ (v1 : Int32) (v3 : Int32) (v4 : Int32) (v6 : Int32) (v7 : Int32) (v8 : Int32) (v9 : Int32) (v10 : Int32) (ST : ySt), ∀ (H : Heap) (locs : List Loc), va_P X.1 vwCl (wY X ad ST) H → va_S (yA ad) s.heap H locs → ∀ (ls : Array Slot), lv_has ls 15 [(0, .ref (ad 0)), (1, .int v1), (3, .int v3), (4, .int v4), (6, .int v6), (7, .int v7), (8, .int v8), (9, .int v9), (10, .int v10)] → r138 v1 v3 v4 v6 v7 v8 v9 v10 ST = some res → W p l e (headSpec (Cond.code y_MaskEdgesModel_addPieces prog_8_method_15_code 15 none :: xT) ({ frames := 3, cells := 0, slots := 0, locals := 75 } : Room)).room s m args below meth c H locs 0 0 Q (F0 m 138 ls [])), ∀ (v1 : Int32) (v3 : Int32) (v4 : Int32) (v6 : Int32) (v7 : Int32) (v8 : Int32) (v9 : Int32) (v10 : Int32) (s0 : Int32) (s1 : Int32) (ST : ySt), ∀ (H : Heap) (locs : List Loc), va_P X.1 vwCl (wY X ad ST) H → va_S (yA ad) s.heap H locs → ∀ (ls : Array Slot), lv_has ls 15 [(0, .ref (ad 0)), (1, .int v1), (3, .int v3), (4, .int v4), (6, .int v6), (7, .int v7), (8, .int v8), (9, .int v9), (10, .int v10)] → f_MaskEdgesModel_addPieces_300 r138 v1 v3 v4 v6 v7 v8 v9 v10 s0 s1 ST = some res → W p l e (headSpec (Cond.code y_MaskEdgesModel_addPieces prog_8_method_15_code 15 none :: xT) ({ frames := 3, cells := 0, slots := 0, locals := 75 } : Room)).room s m args below meth c H locs 0 0 Q (F0 m 300 ls [.int s0, .int s1, .ref (ad 12)]) := by
    intro r138 hr138 v1 v3 v4 v6 v7 v8 v9 v10 s0 s1 ST H locs hP hS ls hl hf
    unfold f_MaskEdgesModel_addPieces_300 at hf
    obtain ⟨g300, hf⟩ := x_g hf
    refine va_zast hx hb hK hP (yD hA) hS 12 5 yg12 rfl (xin_in g300) d_MaskEdgesModel_addPieces_300 (fun H locs hP _ hS => ?_)
    replace hP : va_P X.1 vwCl (wY X ad (Y_u_isLast ST (upd (Y_isLast ST) s1.toNatClampNeg (vp_nar .boolean s0)))) H := xeq ym_isLast hP
    refine lv_aload_n hx hb d_MaskEdgesModel_addPieces_301 rfl (lv_at hl 0 rfl) ?_
    refine va_get (D := X.1) (ci := 6) (v := .ref (ad 14)) (C := "MaskEdgesModel") (T := F_MaskEdgesModel) (N := 28) hx hb ht in_MaskEdgesModel hown hK hP 0 yg0 rfl 17 (by decide) (ht _ xw_464) (fun _ h9 => h9) rfl d_MaskEdgesModel_addPieces_302 ?_
    refine lv_aload_n hx hb d_MaskEdgesModel_addPieces_305 rfl (lv_at hl 0 rfl) ?_
    refine va_get (D := X.1) (ci := 6) (v := .int (Y_pieces (Y_u_isLast ST (upd (Y_isLast ST) s1.toNatClampNeg (vp_nar .boolean s0))))) (C := "MaskEdgesModel") (T := F_MaskEdgesModel) (N := 28) hx hb ht in_MaskEdgesModel hown hK hP 0 yg0 rfl 9 (by decide) (ht _ xw_456) (fun _ h9 => h9) rfl d_MaskEdgesModel_addPieces_306 ?_
    refine lv_iconst (v := (0 : Int32)) hx hb d_MaskEdgesModel_addPieces_309 (by decide) ?_
    obtain ⟨g310, hf⟩ := x_g hf
    refine va_iast hx hb hK hP (yD hA) hS 14 0 yg14 rfl (xin_in g310) d_MaskEdgesModel_addPieces_310 (fun H locs hP _ hS => ?_)
    replace hP : va_P X.1 vwCl (wY X ad (Y_u_moves (Y_u_isLast ST (upd (Y_isLast ST) s1.toNatClampNeg (vp_nar .boolean s0))) (upd (Y_moves (Y_u_isLast ST (upd (Y_isLast ST) s1.toNatClampNeg (vp_nar .boolean s0)))) (Y_pieces (Y_u_isLast ST (upd (Y_isLast ST) s1.toNatClampNeg (vp_nar .boolean s0)))).toNatClampNeg (0 : Int32)))) H := xeq ym_moves hP
    refine lv_aload_n hx hb d_MaskEdgesModel_addPieces_311 rfl (lv_at hl 0 rfl) ?_
    refine lv_iload_n hx hb d_MaskEdgesModel_addPieces_312 rfl (lv_at hl 1 rfl) ?_
    refine lv_aload_n hx hb d_MaskEdgesModel_addPieces_313 rfl (lv_at hl 0 rfl) ?_
    refine lv_aload_n hx hb d_MaskEdgesModel_addPieces_314 rfl (lv_at hl 0 rfl) ?_
    refine va_get (D := X.1) (ci := 6) (v := .int (Y_pieces (Y_u_moves (Y_u_isLast ST (upd (Y_isLast ST) s1.toNatClampNeg (vp_nar .boolean s0))) (upd (Y_moves (Y_u_isLast ST (upd (Y_isLast ST) s1.toNatClampNeg (vp_nar .boolean s0)))) (Y_pieces (Y_u_isLast ST (upd (Y_isLast ST) s1.toNatClampNeg (vp_nar .boolean s0)))).toNatClampNeg (0 : Int32))))) (C := "MaskEdgesModel") (T := F_MaskEdgesModel) (N := 28) hx hb ht in_MaskEdgesModel hown hK hP 0 yg0 rfl 9 (by decide) (ht _ xw_456) (fun _ h9 => h9) rfl d_MaskEdgesModel_addPieces_315 ?_
    refine lv_iconst (v := (0 : Int32)) hx hb d_MaskEdgesModel_addPieces_318 (by decide) ?_
    obtain ⟨c319, e319, hf⟩ := x_b hf
    refine xcR (va_runV (As := [.int (Y_pieces (Y_u_moves (Y_u_isLast ST (upd (Y_isLast ST) s1.toNatClampNeg (vp_nar .boolean s0))) (upd (Y_moves (Y_u_isLast ST (upd (Y_isLast ST) s1.toNatClampNeg (vp_nar .boolean s0)))) (Y_pieces (Y_u_isLast ST (upd (Y_isLast ST) s1.toNatClampNeg (vp_nar .boolean s0)))).toNatClampNeg (0 : Int32)))), .int (0 : Int32)]) (rest := [.int v1, .ref (ad 0)]) ⟨hx, hb, hml, hown, ht⟩ (c_MaskEdgesModel_besideX l X ad (Y_u_moves (Y_u_isLast ST (upd (Y_isLast ST) s1.toNatClampNeg (vp_nar .boolean s0))) (upd (Y_moves (Y_u_isLast ST (upd (Y_isLast ST) s1.toNatClampNeg (vp_nar .boolean s0)))) (Y_pieces (Y_u_isLast ST (upd (Y_isLast ST) s1.toNatClampNeg (vp_nar .boolean s0)))).toNatClampNeg (0 : Int32))) (Y_pieces (Y_u_moves (Y_u_isLast ST (upd (Y_isLast ST) s1.toNatClampNeg (vp_nar .boolean s0))) (upd (Y_moves (Y_u_isLast ST (upd (Y_isLast ST) s1.toNatClampNeg (vp_nar .boolean s0)))) (Y_pieces (Y_u_isLast ST (upd (Y_isLast ST) s1.toNatClampNeg (vp_nar .boolean s0)))).toNatClampNeg (0 : Int32)))) (0 : Int32) hP e319) (cwV 2 ht (xgV xw_539 xw_540 xw_18 xw_43 xw_541) rfl rfl rfl (by decide +kernel) ⟨Nat.le_of_ble_eq_true rfl, Nat.le_of_ble_eq_true rfl⟩) (xPV hKK (va_recv hK hP (ci := 6) (q0 := 0) rfl yg0)) rfl rfl hl.1 rfl (lv_room (Nat.le_of_ble_eq_true rfl)) d_MaskEdgesModel_addPieces_319 ⟨Nat.zero_le _, Nat.zero_le _⟩) ?_
    refine W.eq (g2 := F0 m 322 ls [.int c319, .int v1, .ref (ad 0)]) rfl ?_
    refine lv_aload_n hx hb d_MaskEdgesModel_addPieces_322 rfl (lv_at hl 0 rfl) ?_
    refine lv_aload_n hx hb d_MaskEdgesModel_addPieces_323 rfl (lv_at hl 0 rfl) ?_
    refine va_get (D := X.1) (ci := 6) (v := .int (Y_pieces (Y_u_moves (Y_u_isLast ST (upd (Y_isLast ST) s1.toNatClampNeg (vp_nar .boolean s0))) (upd (Y_moves (Y_u_isLast ST (upd (Y_isLast ST) s1.toNatClampNeg (vp_nar .boolean s0)))) (Y_pieces (Y_u_isLast ST (upd (Y_isLast ST) s1.toNatClampNeg (vp_nar .boolean s0)))).toNatClampNeg (0 : Int32))))) (C := "MaskEdgesModel") (T := F_MaskEdgesModel) (N := 28) hx hb ht in_MaskEdgesModel hown hK hP 0 yg0 rfl 9 (by decide) (ht _ xw_456) (fun _ h9 => h9) rfl d_MaskEdgesModel_addPieces_324 ?_
    refine lv_iconst (v := (0 : Int32)) hx hb d_MaskEdgesModel_addPieces_327 (by decide) ?_
    obtain ⟨c328, e328, hf⟩ := x_b hf
    refine xcR (va_runV (As := [.int (Y_pieces (Y_u_moves (Y_u_isLast ST (upd (Y_isLast ST) s1.toNatClampNeg (vp_nar .boolean s0))) (upd (Y_moves (Y_u_isLast ST (upd (Y_isLast ST) s1.toNatClampNeg (vp_nar .boolean s0)))) (Y_pieces (Y_u_isLast ST (upd (Y_isLast ST) s1.toNatClampNeg (vp_nar .boolean s0)))).toNatClampNeg (0 : Int32)))), .int (0 : Int32)]) (rest := [.int c319, .int v1, .ref (ad 0)]) ⟨hx, hb, hml, hown, ht⟩ (c_MaskEdgesModel_besideY l X ad (Y_u_moves (Y_u_isLast ST (upd (Y_isLast ST) s1.toNatClampNeg (vp_nar .boolean s0))) (upd (Y_moves (Y_u_isLast ST (upd (Y_isLast ST) s1.toNatClampNeg (vp_nar .boolean s0)))) (Y_pieces (Y_u_isLast ST (upd (Y_isLast ST) s1.toNatClampNeg (vp_nar .boolean s0)))).toNatClampNeg (0 : Int32))) (Y_pieces (Y_u_moves (Y_u_isLast ST (upd (Y_isLast ST) s1.toNatClampNeg (vp_nar .boolean s0))) (upd (Y_moves (Y_u_isLast ST (upd (Y_isLast ST) s1.toNatClampNeg (vp_nar .boolean s0)))) (Y_pieces (Y_u_isLast ST (upd (Y_isLast ST) s1.toNatClampNeg (vp_nar .boolean s0)))).toNatClampNeg (0 : Int32)))) (0 : Int32) hP e328) (cwV 2 ht (xgV xw_545 xw_546 xw_20 xw_43 xw_547) rfl rfl rfl (by decide +kernel) ⟨Nat.le_of_ble_eq_true rfl, Nat.le_of_ble_eq_true rfl⟩) (xPV hKK (va_recv hK hP (ci := 6) (q0 := 0) rfl yg0)) rfl rfl hl.1 rfl (lv_room (Nat.le_of_ble_eq_true rfl)) d_MaskEdgesModel_addPieces_328 ⟨Nat.zero_le _, Nat.zero_le _⟩) ?_
    refine W.eq (g2 := F0 m 331 ls [.int c328, .int c319, .int v1, .ref (ad 0)]) rfl ?_
    obtain ⟨c331, e331, hf⟩ := x_b hf
    refine xcR (va_runV (As := [.int v1, .int c319, .int c328]) (rest := []) ⟨hx, hb, hml, hown, ht⟩ (c_MaskEdgesModel_isIn l X ad (Y_u_moves (Y_u_isLast ST (upd (Y_isLast ST) s1.toNatClampNeg (vp_nar .boolean s0))) (upd (Y_moves (Y_u_isLast ST (upd (Y_isLast ST) s1.toNatClampNeg (vp_nar .boolean s0)))) (Y_pieces (Y_u_isLast ST (upd (Y_isLast ST) s1.toNatClampNeg (vp_nar .boolean s0)))).toNatClampNeg (0 : Int32))) v1 c319 c328 hP e331) (cwV 3 ht (xgV xw_548 xw_549 xw_21 xw_43 xw_550) rfl rfl rfl (by decide +kernel) ⟨Nat.le_of_ble_eq_true rfl, Nat.le_of_ble_eq_true rfl⟩) (xPV hKK (va_recv hK hP (ci := 6) (q0 := 0) rfl yg0)) rfl rfl hl.1 rfl (lv_room (Nat.le_of_ble_eq_true rfl)) d_MaskEdgesModel_addPieces_331 ⟨Nat.zero_le _, Nat.zero_le _⟩) ?_
    refine W.eq (g2 := F0 m 334 ls [.int c331]) rfl ?_
    refine lv_istore (lv' := [(13, .int c331), (0, .ref (ad 0)), (1, .int v1), (3, .int v3), (4, .int v4), (6, .int v6), (7, .int v7), (8, .int v8), (9, .int v9), (10, .int v10)]) hx hb d_MaskEdgesModel_addPieces_334 hl (by decide) rfl (fun ls hl => ?_)
    refine lv_aload_n hx hb d_MaskEdgesModel_addPieces_336 rfl (lv_at hl 1 rfl) ?_
    refine lv_iload_n hx hb d_MaskEdgesModel_addPieces_337 rfl (lv_at hl 2 rfl) ?_
    refine lv_aload_n hx hb d_MaskEdgesModel_addPieces_338 rfl (lv_at hl 1 rfl) ?_
    refine lv_aload_n hx hb d_MaskEdgesModel_addPieces_339 rfl (lv_at hl 1 rfl) ?_
    refine va_get (D := X.1) (ci := 6) (v := .int (Y_pieces (Y_u_moves (Y_u_isLast ST (upd (Y_isLast ST) s1.toNatClampNeg (vp_nar .boolean s0))) (upd (Y_moves (Y_u_isLast ST (upd (Y_isLast ST) s1.toNatClampNeg (vp_nar .boolean s0)))) (Y_pieces (Y_u_isLast ST (upd (Y_isLast ST) s1.toNatClampNeg (vp_nar .boolean s0)))).toNatClampNeg (0 : Int32))))) (C := "MaskEdgesModel") (T := F_MaskEdgesModel) (N := 28) hx hb ht in_MaskEdgesModel hown hK hP 0 yg0 rfl 9 (by decide) (ht _ xw_456) (fun _ h9 => h9) rfl d_MaskEdgesModel_addPieces_340 ?_
    refine lv_iconst (v := (-1 : Int32)) hx hb d_MaskEdgesModel_addPieces_343 (by decide) ?_
    obtain ⟨c344, e344, hf⟩ := x_b hf
    refine xcR (va_runV (As := [.int (Y_pieces (Y_u_moves (Y_u_isLast ST (upd (Y_isLast ST) s1.toNatClampNeg (vp_nar .boolean s0))) (upd (Y_moves (Y_u_isLast ST (upd (Y_isLast ST) s1.toNatClampNeg (vp_nar .boolean s0)))) (Y_pieces (Y_u_isLast ST (upd (Y_isLast ST) s1.toNatClampNeg (vp_nar .boolean s0)))).toNatClampNeg (0 : Int32)))), .int (-1 : Int32)]) (rest := [.int v1, .ref (ad 0)]) ⟨hx, hb, hml, hown, ht⟩ (c_MaskEdgesModel_besideX l X ad (Y_u_moves (Y_u_isLast ST (upd (Y_isLast ST) s1.toNatClampNeg (vp_nar .boolean s0))) (upd (Y_moves (Y_u_isLast ST (upd (Y_isLast ST) s1.toNatClampNeg (vp_nar .boolean s0)))) (Y_pieces (Y_u_isLast ST (upd (Y_isLast ST) s1.toNatClampNeg (vp_nar .boolean s0)))).toNatClampNeg (0 : Int32))) (Y_pieces (Y_u_moves (Y_u_isLast ST (upd (Y_isLast ST) s1.toNatClampNeg (vp_nar .boolean s0))) (upd (Y_moves (Y_u_isLast ST (upd (Y_isLast ST) s1.toNatClampNeg (vp_nar .boolean s0)))) (Y_pieces (Y_u_isLast ST (upd (Y_isLast ST) s1.toNatClampNeg (vp_nar .boolean s0)))).toNatClampNeg (0 : Int32)))) (-1 : Int32) hP e344) (cwV 2 ht (xgV xw_539 xw_540 xw_18 xw_43 xw_541) rfl rfl rfl (by decide +kernel) ⟨Nat.le_of_ble_eq_true rfl, Nat.le_of_ble_eq_true rfl⟩) (xPV hKK (va_recv hK hP (ci := 6) (q0 := 0) rfl yg0)) rfl rfl hl.1 rfl (lv_room (Nat.le_of_ble_eq_true rfl)) d_MaskEdgesModel_addPieces_344 ⟨Nat.zero_le _, Nat.zero_le _⟩) ?_
    refine W.eq (g2 := F0 m 347 ls [.int c344, .int v1, .ref (ad 0)]) rfl ?_
    refine lv_aload_n hx hb d_MaskEdgesModel_addPieces_347 rfl (lv_at hl 1 rfl) ?_
    refine lv_aload_n hx hb d_MaskEdgesModel_addPieces_348 rfl (lv_at hl 1 rfl) ?_
    refine va_get (D := X.1) (ci := 6) (v := .int (Y_pieces (Y_u_moves (Y_u_isLast ST (upd (Y_isLast ST) s1.toNatClampNeg (vp_nar .boolean s0))) (upd (Y_moves (Y_u_isLast ST (upd (Y_isLast ST) s1.toNatClampNeg (vp_nar .boolean s0)))) (Y_pieces (Y_u_isLast ST (upd (Y_isLast ST) s1.toNatClampNeg (vp_nar .boolean s0)))).toNatClampNeg (0 : Int32))))) (C := "MaskEdgesModel") (T := F_MaskEdgesModel) (N := 28) hx hb ht in_MaskEdgesModel hown hK hP 0 yg0 rfl 9 (by decide) (ht _ xw_456) (fun _ h9 => h9) rfl d_MaskEdgesModel_addPieces_349 ?_
    refine lv_iconst (v := (-1 : Int32)) hx hb d_MaskEdgesModel_addPieces_352 (by decide) ?_
    obtain ⟨c353, e353, hf⟩ := x_b hf
    refine xcR (va_runV (As := [.int (Y_pieces (Y_u_moves (Y_u_isLast ST (upd (Y_isLast ST) s1.toNatClampNeg (vp_nar .boolean s0))) (upd (Y_moves (Y_u_isLast ST (upd (Y_isLast ST) s1.toNatClampNeg (vp_nar .boolean s0)))) (Y_pieces (Y_u_isLast ST (upd (Y_isLast ST) s1.toNatClampNeg (vp_nar .boolean s0)))).toNatClampNeg (0 : Int32)))), .int (-1 : Int32)]) (rest := [.int c344, .int v1, .ref (ad 0)]) ⟨hx, hb, hml, hown, ht⟩ (c_MaskEdgesModel_besideY l X ad (Y_u_moves (Y_u_isLast ST (upd (Y_isLast ST) s1.toNatClampNeg (vp_nar .boolean s0))) (upd (Y_moves (Y_u_isLast ST (upd (Y_isLast ST) s1.toNatClampNeg (vp_nar .boolean s0)))) (Y_pieces (Y_u_isLast ST (upd (Y_isLast ST) s1.toNatClampNeg (vp_nar .boolean s0)))).toNatClampNeg (0 : Int32))) (Y_pieces (Y_u_moves (Y_u_isLast ST (upd (Y_isLast ST) s1.toNatClampNeg (vp_nar .boolean s0))) (upd (Y_moves (Y_u_isLast ST (upd (Y_isLast ST) s1.toNatClampNeg (vp_nar .boolean s0)))) (Y_pieces (Y_u_isLast ST (upd (Y_isLast ST) s1.toNatClampNeg (vp_nar .boolean s0)))).toNatClampNeg (0 : Int32)))) (-1 : Int32) hP e353) (cwV 2 ht (xgV xw_545 xw_546 xw_20 xw_43 xw_547) rfl rfl rfl (by decide +kernel) ⟨Nat.le_of_ble_eq_true rfl, Nat.le_of_ble_eq_true rfl⟩) (xPV hKK (va_recv hK hP (ci := 6) (q0 := 0) rfl yg0)) rfl rfl hl.1 rfl (lv_room (Nat.le_of_ble_eq_true rfl)) d_MaskEdgesModel_addPieces_353 ⟨Nat.zero_le _, Nat.zero_le _⟩) ?_
    refine W.eq (g2 := F0 m 356 ls [.int c353, .int c344, .int v1, .ref (ad 0)]) rfl ?_
    obtain ⟨c356, e356, hf⟩ := x_b hf
    refine xcR (va_runV (As := [.int v1, .int c344, .int c353]) (rest := []) ⟨hx, hb, hml, hown, ht⟩ (c_MaskEdgesModel_isIn l X ad (Y_u_moves (Y_u_isLast ST (upd (Y_isLast ST) s1.toNatClampNeg (vp_nar .boolean s0))) (upd (Y_moves (Y_u_isLast ST (upd (Y_isLast ST) s1.toNatClampNeg (vp_nar .boolean s0)))) (Y_pieces (Y_u_isLast ST (upd (Y_isLast ST) s1.toNatClampNeg (vp_nar .boolean s0)))).toNatClampNeg (0 : Int32))) v1 c344 c353 hP e356) (cwV 3 ht (xgV xw_548 xw_549 xw_21 xw_43 xw_550) rfl rfl rfl (by decide +kernel) ⟨Nat.le_of_ble_eq_true rfl, Nat.le_of_ble_eq_true rfl⟩) (xPV hKK (va_recv hK hP (ci := 6) (q0 := 0) rfl yg0)) rfl rfl hl.1 rfl (lv_room (Nat.le_of_ble_eq_true rfl)) d_MaskEdgesModel_addPieces_356 ⟨Nat.zero_le _, Nat.zero_le _⟩) ?_
    refine W.eq (g2 := F0 m 359 ls [.int c356]) rfl ?_
    refine lv_istore (lv' := [(14, .int c356), (13, .int c331), (0, .ref (ad 0)), (1, .int v1), (3, .int v3), (4, .int v4), (6, .int v6), (7, .int v7), (8, .int v8), (9, .int v9), (10, .int v10)]) hx hb d_MaskEdgesModel_addPieces_359 hl (by decide) rfl (fun ls hl => ?_)
    refine lv_aload_n hx hb d_MaskEdgesModel_addPieces_361 rfl (lv_at hl 2 rfl) ?_
    refine va_get (D := X.1) (ci := 6) (v := .ref (ad 13)) (C := "MaskEdgesModel") (T := F_MaskEdgesModel) (N := 28) hx hb ht in_MaskEdgesModel hown hK hP 0 yg0 rfl 16 (by decide) (ht _ xw_463) (fun _ h9 => h9) rfl d_MaskEdgesModel_addPieces_362 ?_
    refine lv_aload_n hx hb d_MaskEdgesModel_addPieces_365 rfl (lv_at hl 2 rfl) ?_
    refine va_get (D := X.1) (ci := 6) (v := .int (Y_pieces (Y_u_moves (Y_u_isLast ST (upd (Y_isLast ST) s1.toNatClampNeg (vp_nar .boolean s0))) (upd (Y_moves (Y_u_isLast ST (upd (Y_isLast ST) s1.toNatClampNeg (vp_nar .boolean s0)))) (Y_pieces (Y_u_isLast ST (upd (Y_isLast ST) s1.toNatClampNeg (vp_nar .boolean s0)))).toNatClampNeg (0 : Int32))))) (C := "MaskEdgesModel") (T := F_MaskEdgesModel) (N := 28) hx hb ht in_MaskEdgesModel hown hK hP 0 yg0 rfl 9 (by decide) (ht _ xw_456) (fun _ h9 => h9) rfl d_MaskEdgesModel_addPieces_366 ?_
    refine lv_iload hx hb d_MaskEdgesModel_addPieces_369 (lv_at hl 1 rfl) ?_
    refine lv_iload hx hb d_MaskEdgesModel_addPieces_371 (lv_at hl 0 rfl) ?_
    refine lv_icmp_ne (tgt := 380) hx hb d_MaskEdgesModel_addPieces_373 (by decide) (fun hc => ?_) (fun hc => ?_)
    · replace hf := x_f hc hf
      refine lv_iload hx hb d_MaskEdgesModel_addPieces_380 (lv_at hl 0 rfl) ?_
      refine lv_if_eq (tgt := 389) hx hb d_MaskEdgesModel_addPieces_382 (by decide) (fun hc => ?_) (fun hc => ?_)
      · replace hf := x_t hc hf
        refine lv_iconst (v := (-1 : Int32)) hx hb d_MaskEdgesModel_addPieces_389 (by decide) ?_
        exact (hL390 _ hr138) v1 v3 v4 v6 v7 v8 v9 v10 (-1 : Int32) (Y_pieces (Y_u_moves (Y_u_isLast ST (upd (Y_isLast ST) s1.toNatClampNeg (vp_nar .boolean s0))) (upd (Y_moves (Y_u_isLast ST (upd (Y_isLast ST) s1.toNatClampNeg (vp_nar .boolean s0)))) (Y_pieces (Y_u_isLast ST (upd (Y_isLast ST) s1.toNatClampNeg (vp_nar .boolean s0)))).toNatClampNeg (0 : Int32)))) (Y_u_moves (Y_u_isLast ST (upd (Y_isLast ST) s1.toNatClampNeg (vp_nar .boolean s0))) (upd (Y_moves (Y_u_isLast ST (upd (Y_isLast ST) s1.toNatClampNeg (vp_nar .boolean s0)))) (Y_pieces (Y_u_isLast ST (upd (Y_isLast ST) s1.toNatClampNeg (vp_nar .boolean s0)))).toNatClampNeg (0 : Int32))) _ _ hP hS ls (lv_sub hl [2, 3, 4, 5, 6, 7, 8, 9, 10] rfl) hf
      · replace hf := x_f hc hf
        refine lv_iconst (v := (1 : Int32)) hx hb d_MaskEdgesModel_addPieces_385 (by decide) ?_
        refine lv_goto (tgt := 390) hx hb d_MaskEdgesModel_addPieces_386 (by decide) ?_
        exact (hL390 _ hr138) v1 v3 v4 v6 v7 v8 v9 v10 (1 : Int32) (Y_pieces (Y_u_moves (Y_u_isLast ST (upd (Y_isLast ST) s1.toNatClampNeg (vp_nar .boolean s0))) (upd (Y_moves (Y_u_isLast ST (upd (Y_isLast ST) s1.toNatClampNeg (vp_nar .boolean s0)))) (Y_pieces (Y_u_isLast ST (upd (Y_isLast ST) s1.toNatClampNeg (vp_nar .boolean s0)))).toNatClampNeg (0 : Int32)))) (Y_u_moves (Y_u_isLast ST (upd (Y_isLast ST) s1.toNatClampNeg (vp_nar .boolean s0))) (upd (Y_moves (Y_u_isLast ST (upd (Y_isLast ST) s1.toNatClampNeg (vp_nar .boolean s0)))) (Y_pieces (Y_u_isLast ST (upd (Y_isLast ST) s1.toNatClampNeg (vp_nar .boolean s0)))).toNatClampNeg (0 : Int32))) _ _ hP hS ls (lv_sub hl [2, 3, 4, 5, 6, 7, 8, 9, 10] rfl) hf
    · replace hf := x_t hc hf
      refine lv_iconst (v := (0 : Int32)) hx hb d_MaskEdgesModel_addPieces_376 (by decide) ?_
      refine lv_goto (tgt := 390) hx hb d_MaskEdgesModel_addPieces_377 (by decide) ?_
      exact (hL390 _ hr138) v1 v3 v4 v6 v7 v8 v9 v10 (0 : Int32) (Y_pieces (Y_u_moves (Y_u_isLast ST (upd (Y_isLast ST) s1.toNatClampNeg (vp_nar .boolean s0))) (upd (Y_moves (Y_u_isLast ST (upd (Y_isLast ST) s1.toNatClampNeg (vp_nar .boolean s0)))) (Y_pieces (Y_u_isLast ST (upd (Y_isLast ST) s1.toNatClampNeg (vp_nar .boolean s0)))).toNatClampNeg (0 : Int32)))) (Y_u_moves (Y_u_isLast ST (upd (Y_isLast ST) s1.toNatClampNeg (vp_nar .boolean s0))) (upd (Y_moves (Y_u_isLast ST (upd (Y_isLast ST) s1.toNatClampNeg (vp_nar .boolean s0)))) (Y_pieces (Y_u_isLast ST (upd (Y_isLast ST) s1.toNatClampNeg (vp_nar .boolean s0)))).toNatClampNeg (0 : Int32))) _ _ hP hS ls (lv_sub hl [2, 3, 4, 5, 6, 7, 8, 9, 10] rfl) hf
  have hL278 : ∀ (r138 : Int32 → Int32 → Int32 → Int32 → Int32 → Int32 → Int32 → Int32 → ySt → Option (ySt)) (hr138 : ∀ (v1 : Int32) (v3 : Int32) (v4 : Int32) (v6 : Int32) (v7 : Int32) (v8 : Int32) (v9 : Int32) (v10 : Int32) (ST : ySt), ∀ (H : Heap) (locs : List Loc), va_P X.1 vwCl (wY X ad ST) H → va_S (yA ad) s.heap H locs → ∀ (ls : Array Slot), lv_has ls 15 [(0, .ref (ad 0)), (1, .int v1), (3, .int v3), (4, .int v4), (6, .int v6), (7, .int v7), (8, .int v8), (9, .int v9), (10, .int v10)] → r138 v1 v3 v4 v6 v7 v8 v9 v10 ST = some res → W p l e (headSpec (Cond.code y_MaskEdgesModel_addPieces prog_8_method_15_code 15 none :: xT) ({ frames := 3, cells := 0, slots := 0, locals := 75 } : Room)).room s m args below meth c H locs 0 0 Q (F0 m 138 ls [])), ∀ (v1 : Int32) (v3 : Int32) (v4 : Int32) (v6 : Int32) (v7 : Int32) (v8 : Int32) (v9 : Int32) (v10 : Int32) (s0 : Int32) (s1 : Int32) (ST : ySt), ∀ (H : Heap) (locs : List Loc), va_P X.1 vwCl (wY X ad ST) H → va_S (yA ad) s.heap H locs → ∀ (ls : Array Slot), lv_has ls 15 [(0, .ref (ad 0)), (1, .int v1), (3, .int v3), (4, .int v4), (6, .int v6), (7, .int v7), (8, .int v8), (9, .int v9), (10, .int v10)] → f_MaskEdgesModel_addPieces_278 r138 v1 v3 v4 v6 v7 v8 v9 v10 s0 s1 ST = some res → W p l e (headSpec (Cond.code y_MaskEdgesModel_addPieces prog_8_method_15_code 15 none :: xT) ({ frames := 3, cells := 0, slots := 0, locals := 75 } : Room)).room s m args below meth c H locs 0 0 Q (F0 m 278 ls [.int s0, .int s1, .ref (ad 11)]) := by
    intro r138 hr138 v1 v3 v4 v6 v7 v8 v9 v10 s0 s1 ST H locs hP hS ls hl hf
    unfold f_MaskEdgesModel_addPieces_278 at hf
    obtain ⟨g278, hf⟩ := x_g hf
    refine va_zast hx hb hK hP (yD hA) hS 11 5 yg11 rfl (xin_in g278) d_MaskEdgesModel_addPieces_278 (fun H locs hP _ hS => ?_)
    replace hP : va_P X.1 vwCl (wY X ad (Y_u_isFirst ST (upd (Y_isFirst ST) s1.toNatClampNeg (vp_nar .boolean s0)))) H := xeq ym_isFirst hP
    refine lv_aload_n hx hb d_MaskEdgesModel_addPieces_279 rfl (lv_at hl 0 rfl) ?_
    refine va_get (D := X.1) (ci := 6) (v := .ref (ad 12)) (C := "MaskEdgesModel") (T := F_MaskEdgesModel) (N := 28) hx hb ht in_MaskEdgesModel hown hK hP 0 yg0 rfl 15 (by decide) (ht _ xw_462) (fun _ h9 => h9) rfl d_MaskEdgesModel_addPieces_280 ?_
    refine lv_aload_n hx hb d_MaskEdgesModel_addPieces_283 rfl (lv_at hl 0 rfl) ?_
    refine va_get (D := X.1) (ci := 6) (v := .int (Y_pieces (Y_u_isFirst ST (upd (Y_isFirst ST) s1.toNatClampNeg (vp_nar .boolean s0))))) (C := "MaskEdgesModel") (T := F_MaskEdgesModel) (N := 28) hx hb ht in_MaskEdgesModel hown hK hP 0 yg0 rfl 9 (by decide) (ht _ xw_456) (fun _ h9 => h9) rfl d_MaskEdgesModel_addPieces_284 ?_
    refine lv_iload hx hb d_MaskEdgesModel_addPieces_287 (lv_at hl 8 rfl) ?_
    refine lv_iload_n hx hb d_MaskEdgesModel_addPieces_289 rfl (lv_at hl 2 rfl) ?_
    refine lv_iconst (v := (1 : Int32)) hx hb d_MaskEdgesModel_addPieces_290 (by decide) ?_
    refine lv_isub hx hb d_MaskEdgesModel_addPieces_291 ?_
    refine lv_icmp_ne (tgt := 299) hx hb d_MaskEdgesModel_addPieces_292 (by decide) (fun hc => ?_) (fun hc => ?_)
    · replace hf := x_f hc hf
      refine lv_iconst (v := (0 : Int32)) hx hb d_MaskEdgesModel_addPieces_299 (by decide) ?_
      exact (hL300 _ hr138) v1 v3 v4 v6 v7 v8 v9 v10 (0 : Int32) (Y_pieces (Y_u_isFirst ST (upd (Y_isFirst ST) s1.toNatClampNeg (vp_nar .boolean s0)))) (Y_u_isFirst ST (upd (Y_isFirst ST) s1.toNatClampNeg (vp_nar .boolean s0))) _ _ hP hS ls (lv_sub hl [0, 1, 2, 3, 4, 5, 6, 7, 8] rfl) hf
    · replace hf := x_t hc hf
      refine lv_iconst (v := (1 : Int32)) hx hb d_MaskEdgesModel_addPieces_295 (by decide) ?_
      refine lv_goto (tgt := 300) hx hb d_MaskEdgesModel_addPieces_296 (by decide) ?_
      exact (hL300 _ hr138) v1 v3 v4 v6 v7 v8 v9 v10 (1 : Int32) (Y_pieces (Y_u_isFirst ST (upd (Y_isFirst ST) s1.toNatClampNeg (vp_nar .boolean s0)))) (Y_u_isFirst ST (upd (Y_isFirst ST) s1.toNatClampNeg (vp_nar .boolean s0))) _ _ hP hS ls (lv_sub hl [0, 1, 2, 3, 4, 5, 6, 7, 8] rfl) hf
  have hL259 : ∀ (r138 : Int32 → Int32 → Int32 → Int32 → Int32 → Int32 → Int32 → Int32 → ySt → Option (ySt)) (hr138 : ∀ (v1 : Int32) (v3 : Int32) (v4 : Int32) (v6 : Int32) (v7 : Int32) (v8 : Int32) (v9 : Int32) (v10 : Int32) (ST : ySt), ∀ (H : Heap) (locs : List Loc), va_P X.1 vwCl (wY X ad ST) H → va_S (yA ad) s.heap H locs → ∀ (ls : Array Slot), lv_has ls 15 [(0, .ref (ad 0)), (1, .int v1), (3, .int v3), (4, .int v4), (6, .int v6), (7, .int v7), (8, .int v8), (9, .int v9), (10, .int v10)] → r138 v1 v3 v4 v6 v7 v8 v9 v10 ST = some res → W p l e (headSpec (Cond.code y_MaskEdgesModel_addPieces prog_8_method_15_code 15 none :: xT) ({ frames := 3, cells := 0, slots := 0, locals := 75 } : Room)).room s m args below meth c H locs 0 0 Q (F0 m 138 ls [])), ∀ (v1 : Int32) (v3 : Int32) (v4 : Int32) (v6 : Int32) (v7 : Int32) (v8 : Int32) (v9 : Int32) (v10 : Int32) (s0 : Int32) (s1 : Int32) (ST : ySt), ∀ (H : Heap) (locs : List Loc), va_P X.1 vwCl (wY X ad ST) H → va_S (yA ad) s.heap H locs → ∀ (ls : Array Slot), lv_has ls 15 [(0, .ref (ad 0)), (1, .int v1), (3, .int v3), (4, .int v4), (6, .int v6), (7, .int v7), (8, .int v8), (9, .int v9), (10, .int v10)] → f_MaskEdgesModel_addPieces_259 r138 v1 v3 v4 v6 v7 v8 v9 v10 s0 s1 ST = some res → W p l e (headSpec (Cond.code y_MaskEdgesModel_addPieces prog_8_method_15_code 15 none :: xT) ({ frames := 3, cells := 0, slots := 0, locals := 75 } : Room)).room s m args below meth c H locs 0 0 Q (F0 m 259 ls [.int s0, .int s1, .ref (ad 9)]) := by
    intro r138 hr138 v1 v3 v4 v6 v7 v8 v9 v10 s0 s1 ST H locs hP hS ls hl hf
    unfold f_MaskEdgesModel_addPieces_259 at hf
    obtain ⟨g259, hf⟩ := x_g hf
    refine va_iast hx hb hK hP (yD hA) hS 9 0 yg9 rfl (xin_in g259) d_MaskEdgesModel_addPieces_259 (fun H locs hP _ hS => ?_)
    replace hP : va_P X.1 vwCl (wY X ad (Y_u_to ST (upd (Y_to ST) s1.toNatClampNeg s0))) H := xeq ym_to hP
    refine lv_aload_n hx hb d_MaskEdgesModel_addPieces_260 rfl (lv_at hl 0 rfl) ?_
    refine va_get (D := X.1) (ci := 6) (v := .ref (ad 11)) (C := "MaskEdgesModel") (T := F_MaskEdgesModel) (N := 28) hx hb ht in_MaskEdgesModel hown hK hP 0 yg0 rfl 14 (by decide) (ht _ xw_461) (fun _ h9 => h9) rfl d_MaskEdgesModel_addPieces_261 ?_
    refine lv_aload_n hx hb d_MaskEdgesModel_addPieces_264 rfl (lv_at hl 0 rfl) ?_
    refine va_get (D := X.1) (ci := 6) (v := .int (Y_pieces (Y_u_to ST (upd (Y_to ST) s1.toNatClampNeg s0)))) (C := "MaskEdgesModel") (T := F_MaskEdgesModel) (N := 28) hx hb ht in_MaskEdgesModel hown hK hP 0 yg0 rfl 9 (by decide) (ht _ xw_456) (fun _ h9 => h9) rfl d_MaskEdgesModel_addPieces_265 ?_
    refine lv_iload hx hb d_MaskEdgesModel_addPieces_268 (lv_at hl 8 rfl) ?_
    refine lv_if_ne (tgt := 277) hx hb d_MaskEdgesModel_addPieces_270 (by decide) (fun hc => ?_) (fun hc => ?_)
    · replace hf := x_f hc hf
      refine lv_iconst (v := (0 : Int32)) hx hb d_MaskEdgesModel_addPieces_277 (by decide) ?_
      exact (hL278 _ hr138) v1 v3 v4 v6 v7 v8 v9 v10 (0 : Int32) (Y_pieces (Y_u_to ST (upd (Y_to ST) s1.toNatClampNeg s0))) (Y_u_to ST (upd (Y_to ST) s1.toNatClampNeg s0)) _ _ hP hS ls (lv_sub hl [0, 1, 2, 3, 4, 5, 6, 7, 8] rfl) hf
    · replace hf := x_t hc hf
      refine lv_iconst (v := (1 : Int32)) hx hb d_MaskEdgesModel_addPieces_273 (by decide) ?_
      refine lv_goto (tgt := 278) hx hb d_MaskEdgesModel_addPieces_274 (by decide) ?_
      exact (hL278 _ hr138) v1 v3 v4 v6 v7 v8 v9 v10 (1 : Int32) (Y_pieces (Y_u_to ST (upd (Y_to ST) s1.toNatClampNeg s0))) (Y_u_to ST (upd (Y_to ST) s1.toNatClampNeg s0)) _ _ hP hS ls (lv_sub hl [0, 1, 2, 3, 4, 5, 6, 7, 8] rfl) hf
  have hL232 : ∀ (r138 : Int32 → Int32 → Int32 → Int32 → Int32 → Int32 → Int32 → Int32 → ySt → Option (ySt)) (hr138 : ∀ (v1 : Int32) (v3 : Int32) (v4 : Int32) (v6 : Int32) (v7 : Int32) (v8 : Int32) (v9 : Int32) (v10 : Int32) (ST : ySt), ∀ (H : Heap) (locs : List Loc), va_P X.1 vwCl (wY X ad ST) H → va_S (yA ad) s.heap H locs → ∀ (ls : Array Slot), lv_has ls 15 [(0, .ref (ad 0)), (1, .int v1), (3, .int v3), (4, .int v4), (6, .int v6), (7, .int v7), (8, .int v8), (9, .int v9), (10, .int v10)] → r138 v1 v3 v4 v6 v7 v8 v9 v10 ST = some res → W p l e (headSpec (Cond.code y_MaskEdgesModel_addPieces prog_8_method_15_code 15 none :: xT) ({ frames := 3, cells := 0, slots := 0, locals := 75 } : Room)).room s m args below meth c H locs 0 0 Q (F0 m 138 ls [])), ∀ (v1 : Int32) (v3 : Int32) (v4 : Int32) (v6 : Int32) (v7 : Int32) (v8 : Int32) (v9 : Int32) (v10 : Int32) (v11 : Int32) (v12 : Int32) (s0 : Int32) (s1 : Int32) (ST : ySt), ∀ (H : Heap) (locs : List Loc), va_P X.1 vwCl (wY X ad ST) H → va_S (yA ad) s.heap H locs → ∀ (ls : Array Slot), lv_has ls 15 [(0, .ref (ad 0)), (1, .int v1), (3, .int v3), (4, .int v4), (6, .int v6), (7, .int v7), (8, .int v8), (9, .int v9), (10, .int v10), (11, .int v11), (12, .int v12)] → f_MaskEdgesModel_addPieces_232 r138 v1 v3 v4 v6 v7 v8 v9 v10 v11 v12 s0 s1 ST = some res → W p l e (headSpec (Cond.code y_MaskEdgesModel_addPieces prog_8_method_15_code 15 none :: xT) ({ frames := 3, cells := 0, slots := 0, locals := 75 } : Room)).room s m args below meth c H locs 0 0 Q (F0 m 232 ls [.int s0, .int s1, .ref (ad 8)]) := by
    intro r138 hr138 v1 v3 v4 v6 v7 v8 v9 v10 v11 v12 s0 s1 ST H locs hP hS ls hl hf
    unfold f_MaskEdgesModel_addPieces_232 at hf
    obtain ⟨g232, hf⟩ := x_g hf
    refine va_iast hx hb hK hP (yD hA) hS 8 0 yg8 rfl (xin_in g232) d_MaskEdgesModel_addPieces_232 (fun H locs hP _ hS => ?_)
    replace hP : va_P X.1 vwCl (wY X ad (Y_u_from ST (upd (Y_from ST) s1.toNatClampNeg s0))) H := xeq ym_from hP
    refine lv_aload_n hx hb d_MaskEdgesModel_addPieces_233 rfl (lv_at hl 0 rfl) ?_
    refine va_get (D := X.1) (ci := 6) (v := .ref (ad 9)) (C := "MaskEdgesModel") (T := F_MaskEdgesModel) (N := 28) hx hb ht in_MaskEdgesModel hown hK hP 0 yg0 rfl 12 (by decide) (ht _ xw_459) (fun _ h9 => h9) rfl d_MaskEdgesModel_addPieces_234 ?_
    refine lv_aload_n hx hb d_MaskEdgesModel_addPieces_237 rfl (lv_at hl 0 rfl) ?_
    refine va_get (D := X.1) (ci := 6) (v := .int (Y_pieces (Y_u_from ST (upd (Y_from ST) s1.toNatClampNeg s0)))) (C := "MaskEdgesModel") (T := F_MaskEdgesModel) (N := 28) hx hb ht in_MaskEdgesModel hown hK hP 0 yg0 rfl 9 (by decide) (ht _ xw_456) (fun _ h9 => h9) rfl d_MaskEdgesModel_addPieces_238 ?_
    refine lv_iload hx hb d_MaskEdgesModel_addPieces_241 (lv_at hl 7 rfl) ?_
    refine lv_if_eq (tgt := 254) hx hb d_MaskEdgesModel_addPieces_243 (by decide) (fun hc => ?_) (fun hc => ?_)
    · replace hf := x_t hc hf
      refine lv_iload hx hb d_MaskEdgesModel_addPieces_254 (lv_at hl 6 rfl) ?_
      refine lv_iload hx hb d_MaskEdgesModel_addPieces_256 (lv_at hl 9 rfl) ?_
      refine lv_isub hx hb d_MaskEdgesModel_addPieces_258 ?_
      exact (hL259 _ hr138) v1 v3 v4 v6 v7 v8 v9 v10 (v8 - v11) (Y_pieces (Y_u_from ST (upd (Y_from ST) s1.toNatClampNeg s0))) (Y_u_from ST (upd (Y_from ST) s1.toNatClampNeg s0)) _ _ hP hS ls (lv_sub hl [0, 1, 2, 3, 4, 5, 6, 7, 8] rfl) hf
    · replace hf := x_f hc hf
      refine lv_iload hx hb d_MaskEdgesModel_addPieces_246 (lv_at hl 6 rfl) ?_
      refine lv_iload hx hb d_MaskEdgesModel_addPieces_248 (lv_at hl 10 rfl) ?_
      refine lv_iadd hx hb d_MaskEdgesModel_addPieces_250 ?_
      refine lv_goto (tgt := 259) hx hb d_MaskEdgesModel_addPieces_251 (by decide) ?_
      exact (hL259 _ hr138) v1 v3 v4 v6 v7 v8 v9 v10 (v8 + v12) (Y_pieces (Y_u_from ST (upd (Y_from ST) s1.toNatClampNeg s0))) (Y_u_from ST (upd (Y_from ST) s1.toNatClampNeg s0)) _ _ hP hS ls (lv_sub hl [0, 1, 2, 3, 4, 5, 6, 7, 8] rfl) hf
  have hL205 : ∀ (r138 : Int32 → Int32 → Int32 → Int32 → Int32 → Int32 → Int32 → Int32 → ySt → Option (ySt)) (hr138 : ∀ (v1 : Int32) (v3 : Int32) (v4 : Int32) (v6 : Int32) (v7 : Int32) (v8 : Int32) (v9 : Int32) (v10 : Int32) (ST : ySt), ∀ (H : Heap) (locs : List Loc), va_P X.1 vwCl (wY X ad ST) H → va_S (yA ad) s.heap H locs → ∀ (ls : Array Slot), lv_has ls 15 [(0, .ref (ad 0)), (1, .int v1), (3, .int v3), (4, .int v4), (6, .int v6), (7, .int v7), (8, .int v8), (9, .int v9), (10, .int v10)] → r138 v1 v3 v4 v6 v7 v8 v9 v10 ST = some res → W p l e (headSpec (Cond.code y_MaskEdgesModel_addPieces prog_8_method_15_code 15 none :: xT) ({ frames := 3, cells := 0, slots := 0, locals := 75 } : Room)).room s m args below meth c H locs 0 0 Q (F0 m 138 ls [])), ∀ (v1 : Int32) (v3 : Int32) (v4 : Int32) (v6 : Int32) (v7 : Int32) (v8 : Int32) (v9 : Int32) (v10 : Int32) (v11 : Int32) (v12 : Int32) (s0 : Int32) (s1 : Int32) (ST : ySt), ∀ (H : Heap) (locs : List Loc), va_P X.1 vwCl (wY X ad ST) H → va_S (yA ad) s.heap H locs → ∀ (ls : Array Slot), lv_has ls 15 [(0, .ref (ad 0)), (1, .int v1), (3, .int v3), (4, .int v4), (6, .int v6), (7, .int v7), (8, .int v8), (9, .int v9), (10, .int v10), (11, .int v11), (12, .int v12)] → f_MaskEdgesModel_addPieces_205 r138 v1 v3 v4 v6 v7 v8 v9 v10 v11 v12 s0 s1 ST = some res → W p l e (headSpec (Cond.code y_MaskEdgesModel_addPieces prog_8_method_15_code 15 none :: xT) ({ frames := 3, cells := 0, slots := 0, locals := 75 } : Room)).room s m args below meth c H locs 0 0 Q (F0 m 205 ls [.int s0, .int s1, .ref (ad 7)]) := by
    intro r138 hr138 v1 v3 v4 v6 v7 v8 v9 v10 v11 v12 s0 s1 ST H locs hP hS ls hl hf
    unfold f_MaskEdgesModel_addPieces_205 at hf
    obtain ⟨g205, hf⟩ := x_g hf
    refine va_iast hx hb hK hP (yD hA) hS 7 0 yg7 rfl (xin_in g205) d_MaskEdgesModel_addPieces_205 (fun H locs hP _ hS => ?_)
    replace hP : va_P X.1 vwCl (wY X ad (Y_u_across ST (upd (Y_across ST) s1.toNatClampNeg s0))) H := xeq ym_across hP
    refine lv_aload_n hx hb d_MaskEdgesModel_addPieces_206 rfl (lv_at hl 0 rfl) ?_
    refine va_get (D := X.1) (ci := 6) (v := .ref (ad 8)) (C := "MaskEdgesModel") (T := F_MaskEdgesModel) (N := 28) hx hb ht in_MaskEdgesModel hown hK hP 0 yg0 rfl 11 (by decide) (ht _ xw_458) (fun _ h9 => h9) rfl d_MaskEdgesModel_addPieces_207 ?_
    refine lv_aload_n hx hb d_MaskEdgesModel_addPieces_210 rfl (lv_at hl 0 rfl) ?_
    refine va_get (D := X.1) (ci := 6) (v := .int (Y_pieces (Y_u_across ST (upd (Y_across ST) s1.toNatClampNeg s0)))) (C := "MaskEdgesModel") (T := F_MaskEdgesModel) (N := 28) hx hb ht in_MaskEdgesModel hown hK hP 0 yg0 rfl 9 (by decide) (ht _ xw_456) (fun _ h9 => h9) rfl d_MaskEdgesModel_addPieces_211 ?_
    refine lv_iload hx hb d_MaskEdgesModel_addPieces_214 (lv_at hl 7 rfl) ?_
    refine lv_if_eq (tgt := 227) hx hb d_MaskEdgesModel_addPieces_216 (by decide) (fun hc => ?_) (fun hc => ?_)
    · replace hf := x_t hc hf
      refine lv_iload hx hb d_MaskEdgesModel_addPieces_227 (lv_at hl 6 rfl) ?_
      refine lv_iload hx hb d_MaskEdgesModel_addPieces_229 (lv_at hl 10 rfl) ?_
      refine lv_isub hx hb d_MaskEdgesModel_addPieces_231 ?_
      exact (hL232 _ hr138) v1 v3 v4 v6 v7 v8 v9 v10 v11 v12 (v8 - v12) (Y_pieces (Y_u_across ST (upd (Y_across ST) s1.toNatClampNeg s0))) (Y_u_across ST (upd (Y_across ST) s1.toNatClampNeg s0)) _ _ hP hS ls (lv_sub hl [0, 1, 2, 3, 4, 5, 6, 7, 8, 9, 10] rfl) hf
    · replace hf := x_f hc hf
      refine lv_iload hx hb d_MaskEdgesModel_addPieces_219 (lv_at hl 6 rfl) ?_
      refine lv_iload hx hb d_MaskEdgesModel_addPieces_221 (lv_at hl 9 rfl) ?_
      refine lv_iadd hx hb d_MaskEdgesModel_addPieces_223 ?_
      refine lv_goto (tgt := 232) hx hb d_MaskEdgesModel_addPieces_224 (by decide) ?_
      exact (hL232 _ hr138) v1 v3 v4 v6 v7 v8 v9 v10 v11 v12 (v8 + v11) (Y_pieces (Y_u_across ST (upd (Y_across ST) s1.toNatClampNeg s0))) (Y_u_across ST (upd (Y_across ST) s1.toNatClampNeg s0)) _ _ hP hS ls (lv_sub hl [0, 1, 2, 3, 4, 5, 6, 7, 8, 9, 10] rfl) hf
  have hL138 : ∀ (n : Nat), ∀ (v1 : Int32) (v3 : Int32) (v4 : Int32) (v6 : Int32) (v7 : Int32) (v8 : Int32) (v9 : Int32) (v10 : Int32) (ST : ySt), ∀ (H : Heap) (locs : List Loc), va_P X.1 vwCl (wY X ad ST) H → va_S (yA ad) s.heap H locs → ∀ (ls : Array Slot), lv_has ls 15 [(0, .ref (ad 0)), (1, .int v1), (3, .int v3), (4, .int v4), (6, .int v6), (7, .int v7), (8, .int v8), (9, .int v9), (10, .int v10)] → (xloop (fun r => f_MaskEdgesModel_addPieces_138 r) (fun _ _ _ _ _ _ _ _ _ => none) n) v1 v3 v4 v6 v7 v8 v9 v10 ST = some res → W p l e (headSpec (Cond.code y_MaskEdgesModel_addPieces prog_8_method_15_code 15 none :: xT) ({ frames := 3, cells := 0, slots := 0, locals := 75 } : Room)).room s m args below meth c H locs 0 0 Q (F0 m 138 ls []) := by
    intro n
    induction n with
    | zero => intro v1 v3 v4 v6 v7 v8 v9 v10 ST H locs hP hS ls hl hf; cases hf
    | succ n ih =>
      intro v1 v3 v4 v6 v7 v8 v9 v10 ST H locs hP hS ls hl hf
      replace hf : f_MaskEdgesModel_addPieces_138 (xloop (fun r => f_MaskEdgesModel_addPieces_138 r) (fun _ _ _ _ _ _ _ _ _ => none) n) v1 v3 v4 v6 v7 v8 v9 v10 ST = some res := hf
      have hr138 := ih
      clear ih
      unfold f_MaskEdgesModel_addPieces_138 at hf
      refine lv_iload hx hb d_MaskEdgesModel_addPieces_138 (lv_at hl 8 rfl) ?_
      refine lv_iload_n hx hb d_MaskEdgesModel_addPieces_140 rfl (lv_at hl 2 rfl) ?_
      refine lv_icmp_ge (tgt := 407) hx hb d_MaskEdgesModel_addPieces_141 (by decide) (fun hc => ?_) (fun hc => ?_)
      · replace hf := x_t hc hf
        replace hf := x_s hf
        subst hf
        subst hQ
        exact W.vret hx hb hr (fun t ht hW => ⟨⟨rfl, by rw [ht]; exact hP⟩, hS.F ht⟩) hS.2.2 d_MaskEdgesModel_addPieces_407
      · replace hf := x_f hc hf
        refine lv_iload hx hb d_MaskEdgesModel_addPieces_144 (lv_at hl 4 rfl) ?_
        refine lv_iload hx hb d_MaskEdgesModel_addPieces_146 (lv_at hl 8 rfl) ?_
        refine lv_imul hx hb d_MaskEdgesModel_addPieces_148 ?_
        refine lv_iload_n hx hb d_MaskEdgesModel_addPieces_149 rfl (lv_at hl 2 rfl) ?_
        obtain ⟨z150, hf⟩ := x_n hf
        refine lv_idiv hx hb d_MaskEdgesModel_addPieces_150 z150 ?_
        refine lv_istore (lv' := [(11, .int ((v6 * v10) / v3)), (0, .ref (ad 0)), (1, .int v1), (3, .int v3), (4, .int v4), (6, .int v6), (7, .int v7), (8, .int v8), (9, .int v9), (10, .int v10)]) hx hb d_MaskEdgesModel_addPieces_151 hl (by decide) rfl (fun ls hl => ?_)
        refine lv_iload hx hb d_MaskEdgesModel_addPieces_153 (lv_at hl 5 rfl) ?_
        refine lv_iload hx hb d_MaskEdgesModel_addPieces_155 (lv_at hl 9 rfl) ?_
        refine lv_iconst (v := (1 : Int32)) hx hb d_MaskEdgesModel_addPieces_157 (by decide) ?_
        refine lv_iadd hx hb d_MaskEdgesModel_addPieces_158 ?_
        refine lv_imul hx hb d_MaskEdgesModel_addPieces_159 ?_
        refine lv_iload_n hx hb d_MaskEdgesModel_addPieces_160 rfl (lv_at hl 3 rfl) ?_
        obtain ⟨z161, hf⟩ := x_n hf
        refine lv_idiv hx hb d_MaskEdgesModel_addPieces_161 z161 ?_
        refine lv_istore (lv' := [(12, .int ((v6 * (v10 + (1 : Int32))) / v3)), (11, .int ((v6 * v10) / v3)), (0, .ref (ad 0)), (1, .int v1), (3, .int v3), (4, .int v4), (6, .int v6), (7, .int v7), (8, .int v8), (9, .int v9), (10, .int v10)]) hx hb d_MaskEdgesModel_addPieces_162 hl (by decide) rfl (fun ls hl => ?_)
        refine lv_aload_n hx hb d_MaskEdgesModel_addPieces_164 rfl (lv_at hl 2 rfl) ?_
        refine va_get (D := X.1) (ci := 6) (v := .ref (ad 10)) (C := "MaskEdgesModel") (T := F_MaskEdgesModel) (N := 28) hx hb ht in_MaskEdgesModel hown hK hP 0 yg0 rfl 13 (by decide) (ht _ xw_460) (fun _ h9 => h9) rfl d_MaskEdgesModel_addPieces_165 ?_
        refine lv_aload_n hx hb d_MaskEdgesModel_addPieces_168 rfl (lv_at hl 2 rfl) ?_
        refine va_get (D := X.1) (ci := 6) (v := .int (Y_pieces ST)) (C := "MaskEdgesModel") (T := F_MaskEdgesModel) (N := 28) hx hb ht in_MaskEdgesModel hown hK hP 0 yg0 rfl 9 (by decide) (ht _ xw_456) (fun _ h9 => h9) rfl d_MaskEdgesModel_addPieces_169 ?_
        refine lv_iload hx hb d_MaskEdgesModel_addPieces_172 (lv_at hl 7 rfl) ?_
        obtain ⟨g174, hf⟩ := x_g hf
        refine va_zast hx hb hK hP (yD hA) hS 10 5 yg10 rfl (xin_in g174) d_MaskEdgesModel_addPieces_174 (fun H locs hP _ hS => ?_)
        replace hP : va_P X.1 vwCl (wY X ad (Y_u_isAlongX ST (upd (Y_isAlongX ST) (Y_pieces ST).toNatClampNeg (vp_nar .boolean v7)))) H := xeq ym_isAlongX hP
        refine lv_aload_n hx hb d_MaskEdgesModel_addPieces_175 rfl (lv_at hl 2 rfl) ?_
        refine va_get (D := X.1) (ci := 6) (v := .ref (ad 7)) (C := "MaskEdgesModel") (T := F_MaskEdgesModel) (N := 28) hx hb ht in_MaskEdgesModel hown hK hP 0 yg0 rfl 10 (by decide) (ht _ xw_457) (fun _ h9 => h9) rfl d_MaskEdgesModel_addPieces_176 ?_
        refine lv_aload_n hx hb d_MaskEdgesModel_addPieces_179 rfl (lv_at hl 2 rfl) ?_
        refine va_get (D := X.1) (ci := 6) (v := .int (Y_pieces (Y_u_isAlongX ST (upd (Y_isAlongX ST) (Y_pieces ST).toNatClampNeg (vp_nar .boolean v7))))) (C := "MaskEdgesModel") (T := F_MaskEdgesModel) (N := 28) hx hb ht in_MaskEdgesModel hown hK hP 0 yg0 rfl 9 (by decide) (ht _ xw_456) (fun _ h9 => h9) rfl d_MaskEdgesModel_addPieces_180 ?_
        refine lv_iload hx hb d_MaskEdgesModel_addPieces_183 (lv_at hl 7 rfl) ?_
        refine lv_if_eq (tgt := 198) hx hb d_MaskEdgesModel_addPieces_185 (by decide) (fun hc => ?_) (fun hc => ?_)
        · replace hf := x_t hc hf
          refine lv_aload_n hx hb d_MaskEdgesModel_addPieces_198 rfl (lv_at hl 2 rfl) ?_
          refine va_get (D := X.1) (ci := 6) (v := .ref (ad 1)) (C := "MaskEdgesModel") (T := F_MaskEdgesModel) (N := 28) hx hb ht in_MaskEdgesModel hown hK hP 0 yg0 rfl 1 (by decide) (ht _ xw_448) (fun _ h9 => h9) rfl d_MaskEdgesModel_addPieces_199 ?_
          refine lv_iload hx hb d_MaskEdgesModel_addPieces_202 (lv_at hl 5 rfl) ?_
          obtain ⟨g204, hf⟩ := x_g hf
          refine va_iald hx hb hK hP 1 0 yg1 rfl (xin_in g204) d_MaskEdgesModel_addPieces_204 ?_
          exact (hL205 _ hr138) v1 v3 v4 v6 v7 v8 v9 v10 ((v6 * v10) / v3) ((v6 * (v10 + (1 : Int32))) / v3) (Y_xs (Y_u_isAlongX ST (upd (Y_isAlongX ST) (Y_pieces ST).toNatClampNeg (vp_nar .boolean v7))) v4.toNatClampNeg) (Y_pieces (Y_u_isAlongX ST (upd (Y_isAlongX ST) (Y_pieces ST).toNatClampNeg (vp_nar .boolean v7)))) (Y_u_isAlongX ST (upd (Y_isAlongX ST) (Y_pieces ST).toNatClampNeg (vp_nar .boolean v7))) _ _ hP hS ls (lv_sub hl [2, 3, 4, 5, 6, 7, 8, 9, 10, 1, 0] rfl) hf
        · replace hf := x_f hc hf
          refine lv_aload_n hx hb d_MaskEdgesModel_addPieces_188 rfl (lv_at hl 2 rfl) ?_
          refine va_get (D := X.1) (ci := 6) (v := .ref (ad 2)) (C := "MaskEdgesModel") (T := F_MaskEdgesModel) (N := 28) hx hb ht in_MaskEdgesModel hown hK hP 0 yg0 rfl 2 (by decide) (ht _ xw_449) (fun _ h9 => h9) rfl d_MaskEdgesModel_addPieces_189 ?_
          refine lv_iload hx hb d_MaskEdgesModel_addPieces_192 (lv_at hl 5 rfl) ?_
          obtain ⟨g194, hf⟩ := x_g hf
          refine va_iald hx hb hK hP 2 0 yg2 rfl (xin_in g194) d_MaskEdgesModel_addPieces_194 ?_
          refine lv_goto (tgt := 205) hx hb d_MaskEdgesModel_addPieces_195 (by decide) ?_
          exact (hL205 _ hr138) v1 v3 v4 v6 v7 v8 v9 v10 ((v6 * v10) / v3) ((v6 * (v10 + (1 : Int32))) / v3) (Y_ys (Y_u_isAlongX ST (upd (Y_isAlongX ST) (Y_pieces ST).toNatClampNeg (vp_nar .boolean v7))) v4.toNatClampNeg) (Y_pieces (Y_u_isAlongX ST (upd (Y_isAlongX ST) (Y_pieces ST).toNatClampNeg (vp_nar .boolean v7)))) (Y_u_isAlongX ST (upd (Y_isAlongX ST) (Y_pieces ST).toNatClampNeg (vp_nar .boolean v7))) _ _ hP hS ls (lv_sub hl [2, 3, 4, 5, 6, 7, 8, 9, 10, 1, 0] rfl) hf
  have hL133 : ∀ (v1 : Int32) (v3 : Int32) (v4 : Int32) (v6 : Int32) (v7 : Int32) (v8 : Int32) (s0 : Int32) (ST : ySt), ∀ (H : Heap) (locs : List Loc), va_P X.1 vwCl (wY X ad ST) H → va_S (yA ad) s.heap H locs → ∀ (ls : Array Slot), lv_has ls 15 [(0, .ref (ad 0)), (1, .int v1), (3, .int v3), (4, .int v4), (6, .int v6), (7, .int v7), (8, .int v8)] → f_MaskEdgesModel_addPieces_133 v1 v3 v4 v6 v7 v8 s0 ST = some res → W p l e (headSpec (Cond.code y_MaskEdgesModel_addPieces prog_8_method_15_code 15 none :: xT) ({ frames := 3, cells := 0, slots := 0, locals := 75 } : Room)).room s m args below meth c H locs 0 0 Q (F0 m 133 ls [.int s0]) := by
    intro v1 v3 v4 v6 v7 v8 s0 ST H locs hP hS ls hl hf
    unfold f_MaskEdgesModel_addPieces_133 at hf
    refine lv_istore (lv' := [(9, .int s0), (0, .ref (ad 0)), (1, .int v1), (3, .int v3), (4, .int v4), (6, .int v6), (7, .int v7), (8, .int v8)]) hx hb d_MaskEdgesModel_addPieces_133 hl (by decide) rfl (fun ls hl => ?_)
    refine lv_iconst (v := (0 : Int32)) hx hb d_MaskEdgesModel_addPieces_135 (by decide) ?_
    refine lv_istore (lv' := [(10, .int (0 : Int32)), (9, .int s0), (0, .ref (ad 0)), (1, .int v1), (3, .int v3), (4, .int v4), (6, .int v6), (7, .int v7), (8, .int v8)]) hx hb d_MaskEdgesModel_addPieces_136 hl (by decide) rfl (fun ls hl => ?_)
    exact (hL138 100000) v1 v3 v4 v6 v7 v8 s0 (0 : Int32) ST _ _ hP hS ls (lv_sub hl [2, 3, 4, 5, 6, 7, 8, 1, 0] rfl) hf
  have hL79 : ∀ (v1 : Int32) (v3 : Int32) (v4 : Int32) (v5 : Int32) (v6 : Int32) (v7 : Int32) (s0 : Int32) (ST : ySt), ∀ (H : Heap) (locs : List Loc), va_P X.1 vwCl (wY X ad ST) H → va_S (yA ad) s.heap H locs → ∀ (ls : Array Slot), lv_has ls 15 [(0, .ref (ad 0)), (1, .int v1), (3, .int v3), (4, .int v4), (5, .int v5), (6, .int v6), (7, .int v7)] → f_MaskEdgesModel_addPieces_79 v1 v3 v4 v5 v6 v7 s0 ST = some res → W p l e (headSpec (Cond.code y_MaskEdgesModel_addPieces prog_8_method_15_code 15 none :: xT) ({ frames := 3, cells := 0, slots := 0, locals := 75 } : Room)).room s m args below meth c H locs 0 0 Q (F0 m 79 ls [.int s0]) := by
    intro v1 v3 v4 v5 v6 v7 s0 ST H locs hP hS ls hl hf
    unfold f_MaskEdgesModel_addPieces_79 at hf
    refine lv_istore (lv' := [(8, .int s0), (0, .ref (ad 0)), (1, .int v1), (3, .int v3), (4, .int v4), (5, .int v5), (6, .int v6), (7, .int v7)]) hx hb d_MaskEdgesModel_addPieces_79 hl (by decide) rfl (fun ls hl => ?_)
    refine lv_iload hx hb d_MaskEdgesModel_addPieces_81 (lv_at hl 7 rfl) ?_
    refine lv_if_eq (tgt := 111) hx hb d_MaskEdgesModel_addPieces_83 (by decide) (fun hc => ?_) (fun hc => ?_)
    · replace hf := x_t hc hf
      refine lv_aload_n hx hb d_MaskEdgesModel_addPieces_111 rfl (lv_at hl 1 rfl) ?_
      refine va_get (D := X.1) (ci := 6) (v := .ref (ad 2)) (C := "MaskEdgesModel") (T := F_MaskEdgesModel) (N := 28) hx hb ht in_MaskEdgesModel hown hK hP 0 yg0 rfl 2 (by decide) (ht _ xw_449) (fun _ h9 => h9) rfl d_MaskEdgesModel_addPieces_112 ?_
      refine lv_iload hx hb d_MaskEdgesModel_addPieces_115 (lv_at hl 5 rfl) ?_
      obtain ⟨g117, hf⟩ := x_g hf
      refine va_iald hx hb hK hP 2 0 yg2 rfl (xin_in g117) d_MaskEdgesModel_addPieces_117 ?_
      refine lv_aload_n hx hb d_MaskEdgesModel_addPieces_118 rfl (lv_at hl 1 rfl) ?_
      refine va_get (D := X.1) (ci := 6) (v := .ref (ad 2)) (C := "MaskEdgesModel") (T := F_MaskEdgesModel) (N := 28) hx hb ht in_MaskEdgesModel hown hK hP 0 yg0 rfl 2 (by decide) (ht _ xw_449) (fun _ h9 => h9) rfl d_MaskEdgesModel_addPieces_119 ?_
      refine lv_iload hx hb d_MaskEdgesModel_addPieces_122 (lv_at hl 4 rfl) ?_
      obtain ⟨g124, hf⟩ := x_g hf
      refine va_iald hx hb hK hP 2 0 yg2 rfl (xin_in g124) d_MaskEdgesModel_addPieces_124 ?_
      refine lv_icmp_le (tgt := 132) hx hb d_MaskEdgesModel_addPieces_125 (by decide) (fun hc => ?_) (fun hc => ?_)
      · replace hf := x_t hc hf
        refine lv_iconst (v := (0 : Int32)) hx hb d_MaskEdgesModel_addPieces_132 (by decide) ?_
        exact hL133 v1 v3 v4 v6 v7 s0 (0 : Int32) ST _ _ hP hS ls (lv_sub hl [1, 2, 3, 4, 6, 7, 0] rfl) hf
      · replace hf := x_f hc hf
        refine lv_iconst (v := (1 : Int32)) hx hb d_MaskEdgesModel_addPieces_128 (by decide) ?_
        refine lv_goto (tgt := 133) hx hb d_MaskEdgesModel_addPieces_129 (by decide) ?_
        exact hL133 v1 v3 v4 v6 v7 s0 (1 : Int32) ST _ _ hP hS ls (lv_sub hl [1, 2, 3, 4, 6, 7, 0] rfl) hf
    · replace hf := x_f hc hf
      refine lv_aload_n hx hb d_MaskEdgesModel_addPieces_86 rfl (lv_at hl 1 rfl) ?_
      refine va_get (D := X.1) (ci := 6) (v := .ref (ad 1)) (C := "MaskEdgesModel") (T := F_MaskEdgesModel) (N := 28) hx hb ht in_MaskEdgesModel hown hK hP 0 yg0 rfl 1 (by decide) (ht _ xw_448) (fun _ h9 => h9) rfl d_MaskEdgesModel_addPieces_87 ?_
      refine lv_iload hx hb d_MaskEdgesModel_addPieces_90 (lv_at hl 5 rfl) ?_
      obtain ⟨g92, hf⟩ := x_g hf
      refine va_iald hx hb hK hP 1 0 yg1 rfl (xin_in g92) d_MaskEdgesModel_addPieces_92 ?_
      refine lv_aload_n hx hb d_MaskEdgesModel_addPieces_93 rfl (lv_at hl 1 rfl) ?_
      refine va_get (D := X.1) (ci := 6) (v := .ref (ad 1)) (C := "MaskEdgesModel") (T := F_MaskEdgesModel) (N := 28) hx hb ht in_MaskEdgesModel hown hK hP 0 yg0 rfl 1 (by decide) (ht _ xw_448) (fun _ h9 => h9) rfl d_MaskEdgesModel_addPieces_94 ?_
      refine lv_iload hx hb d_MaskEdgesModel_addPieces_97 (lv_at hl 4 rfl) ?_
      obtain ⟨g99, hf⟩ := x_g hf
      refine va_iald hx hb hK hP 1 0 yg1 rfl (xin_in g99) d_MaskEdgesModel_addPieces_99 ?_
      refine lv_icmp_le (tgt := 107) hx hb d_MaskEdgesModel_addPieces_100 (by decide) (fun hc => ?_) (fun hc => ?_)
      · replace hf := x_t hc hf
        refine lv_iconst (v := (0 : Int32)) hx hb d_MaskEdgesModel_addPieces_107 (by decide) ?_
        refine lv_goto (tgt := 133) hx hb d_MaskEdgesModel_addPieces_108 (by decide) ?_
        exact hL133 v1 v3 v4 v6 v7 s0 (0 : Int32) ST _ _ hP hS ls (lv_sub hl [1, 2, 3, 4, 6, 7, 0] rfl) hf
      · replace hf := x_f hc hf
        refine lv_iconst (v := (1 : Int32)) hx hb d_MaskEdgesModel_addPieces_103 (by decide) ?_
        refine lv_goto (tgt := 133) hx hb d_MaskEdgesModel_addPieces_104 (by decide) ?_
        exact hL133 v1 v3 v4 v6 v7 s0 (1 : Int32) ST _ _ hP hS ls (lv_sub hl [1, 2, 3, 4, 6, 7, 0] rfl) hf
  have hL55 : ∀ (v1 : Int32) (v3 : Int32) (v4 : Int32) (v5 : Int32) (v6 : Int32) (s0 : Int32) (ST : ySt), ∀ (H : Heap) (locs : List Loc), va_P X.1 vwCl (wY X ad ST) H → va_S (yA ad) s.heap H locs → ∀ (ls : Array Slot), lv_has ls 15 [(0, .ref (ad 0)), (1, .int v1), (3, .int v3), (4, .int v4), (5, .int v5), (6, .int v6)] → f_MaskEdgesModel_addPieces_55 v1 v3 v4 v5 v6 s0 ST = some res → W p l e (headSpec (Cond.code y_MaskEdgesModel_addPieces prog_8_method_15_code 15 none :: xT) ({ frames := 3, cells := 0, slots := 0, locals := 75 } : Room)).room s m args below meth c H locs 0 0 Q (F0 m 55 ls [.int s0]) := by
    intro v1 v3 v4 v5 v6 s0 ST H locs hP hS ls hl hf
    unfold f_MaskEdgesModel_addPieces_55 at hf
    refine lv_istore (lv' := [(7, .int s0), (0, .ref (ad 0)), (1, .int v1), (3, .int v3), (4, .int v4), (5, .int v5), (6, .int v6)]) hx hb d_MaskEdgesModel_addPieces_55 hl (by decide) rfl (fun ls hl => ?_)
    refine lv_iload hx hb d_MaskEdgesModel_addPieces_57 (lv_at hl 0 rfl) ?_
    refine lv_if_eq (tgt := 72) hx hb d_MaskEdgesModel_addPieces_59 (by decide) (fun hc => ?_) (fun hc => ?_)
    · replace hf := x_t hc hf
      refine lv_aload_n hx hb d_MaskEdgesModel_addPieces_72 rfl (lv_at hl 1 rfl) ?_
      refine va_get (D := X.1) (ci := 6) (v := .ref (ad 2)) (C := "MaskEdgesModel") (T := F_MaskEdgesModel) (N := 28) hx hb ht in_MaskEdgesModel hown hK hP 0 yg0 rfl 2 (by decide) (ht _ xw_449) (fun _ h9 => h9) rfl d_MaskEdgesModel_addPieces_73 ?_
      refine lv_iload hx hb d_MaskEdgesModel_addPieces_76 (lv_at hl 4 rfl) ?_
      obtain ⟨g78, hf⟩ := x_g hf
      refine va_iald hx hb hK hP 2 0 yg2 rfl (xin_in g78) d_MaskEdgesModel_addPieces_78 ?_
      exact hL79 v1 v3 v4 v5 v6 s0 (Y_ys ST v4.toNatClampNeg) ST _ _ hP hS ls (lv_sub hl [1, 2, 3, 4, 5, 6, 0] rfl) hf
    · replace hf := x_f hc hf
      refine lv_aload_n hx hb d_MaskEdgesModel_addPieces_62 rfl (lv_at hl 1 rfl) ?_
      refine va_get (D := X.1) (ci := 6) (v := .ref (ad 1)) (C := "MaskEdgesModel") (T := F_MaskEdgesModel) (N := 28) hx hb ht in_MaskEdgesModel hown hK hP 0 yg0 rfl 1 (by decide) (ht _ xw_448) (fun _ h9 => h9) rfl d_MaskEdgesModel_addPieces_63 ?_
      refine lv_iload hx hb d_MaskEdgesModel_addPieces_66 (lv_at hl 4 rfl) ?_
      obtain ⟨g68, hf⟩ := x_g hf
      refine va_iald hx hb hK hP 1 0 yg1 rfl (xin_in g68) d_MaskEdgesModel_addPieces_68 ?_
      refine lv_goto (tgt := 79) hx hb d_MaskEdgesModel_addPieces_69 (by decide) ?_
      exact hL79 v1 v3 v4 v5 v6 s0 (Y_xs ST v4.toNatClampNeg) ST _ _ hP hS ls (lv_sub hl [1, 2, 3, 4, 5, 6, 0] rfl) hf
  unfold f_MaskEdgesModel_addPieces at hf
  refine lv_bipush (v := (16 : Int32)) hx hb d_MaskEdgesModel_addPieces_0 (by decide) ?_
  refine lv_iload_n hx hb d_MaskEdgesModel_addPieces_2 rfl (lv_at hl 1 rfl) ?_
  refine lv_imul hx hb d_MaskEdgesModel_addPieces_3 ?_
  refine lv_iload_n hx hb d_MaskEdgesModel_addPieces_4 rfl (lv_at hl 2 rfl) ?_
  refine lv_iadd hx hb d_MaskEdgesModel_addPieces_5 ?_
  refine lv_istore (lv' := [(4, .int (((16 : Int32) * v1) + v2)), (0, .ref (ad 0)), (1, .int v1), (2, .int v2), (3, .int v3)]) hx hb d_MaskEdgesModel_addPieces_6 hl (by decide) rfl (fun ls hl => ?_)
  refine lv_bipush (v := (16 : Int32)) hx hb d_MaskEdgesModel_addPieces_8 (by decide) ?_
  refine lv_iload_n hx hb d_MaskEdgesModel_addPieces_10 rfl (lv_at hl 2 rfl) ?_
  refine lv_imul hx hb d_MaskEdgesModel_addPieces_11 ?_
  refine lv_iload_n hx hb d_MaskEdgesModel_addPieces_12 rfl (lv_at hl 3 rfl) ?_
  refine lv_iconst (v := (1 : Int32)) hx hb d_MaskEdgesModel_addPieces_13 (by decide) ?_
  refine lv_iadd hx hb d_MaskEdgesModel_addPieces_14 ?_
  refine lv_aload_n hx hb d_MaskEdgesModel_addPieces_15 rfl (lv_at hl 1 rfl) ?_
  refine va_get (D := X.1) (ci := 6) (v := .ref (ad 3)) (C := "MaskEdgesModel") (T := F_MaskEdgesModel) (N := 28) hx hb ht in_MaskEdgesModel hown hK hP 0 yg0 rfl 3 (by decide) (ht _ xw_450) (fun _ h9 => h9) rfl d_MaskEdgesModel_addPieces_16 ?_
  refine lv_iload_n hx hb d_MaskEdgesModel_addPieces_19 rfl (lv_at hl 2 rfl) ?_
  obtain ⟨g20, hf⟩ := x_g hf
  refine va_iald hx hb hK hP 3 0 yg3 rfl (xin_in g20) d_MaskEdgesModel_addPieces_20 ?_
  obtain ⟨z21, hf⟩ := x_n hf
  refine lv_irem hx hb d_MaskEdgesModel_addPieces_21 z21 ?_
  refine lv_iadd hx hb d_MaskEdgesModel_addPieces_22 ?_
  refine lv_istore (lv' := [(5, .int (((16 : Int32) * v1) + ((v2 + (1 : Int32)) - (v2 + (1 : Int32)) / (Y_sizes ST v1.toNatClampNeg) * (Y_sizes ST v1.toNatClampNeg)))), (4, .int (((16 : Int32) * v1) + v2)), (0, .ref (ad 0)), (1, .int v1), (2, .int v2), (3, .int v3)]) hx hb d_MaskEdgesModel_addPieces_23 hl (by decide) rfl (fun ls hl => ?_)
  refine lv_aload_n hx hb d_MaskEdgesModel_addPieces_25 rfl (lv_at hl 2 rfl) ?_
  refine lv_iload_n hx hb d_MaskEdgesModel_addPieces_26 rfl (lv_at hl 3 rfl) ?_
  refine lv_iload_n hx hb d_MaskEdgesModel_addPieces_27 rfl (lv_at hl 4 rfl) ?_
  obtain ⟨c28, e28, hf⟩ := x_b hf
  refine xcR (va_runV (As := [.int v1, .int v2]) (rest := []) ⟨hx, hb, hml, hown, ht⟩ (c_MaskEdgesModel_lengthOf l X ad ST v1 v2 hP e28) (cwV 2 ht (xgV xw_533 xw_534 xw_16 xw_43 xw_535) rfl rfl rfl (by decide +kernel) ⟨Nat.le_of_ble_eq_true rfl, Nat.le_of_ble_eq_true rfl⟩) (xPV hKK (va_recv hK hP (ci := 6) (q0 := 0) rfl yg0)) rfl rfl hl.1 rfl (lv_room (Nat.le_of_ble_eq_true rfl)) d_MaskEdgesModel_addPieces_28 ⟨Nat.zero_le _, Nat.zero_le _⟩) ?_
  refine W.eq (g2 := F0 m 31 ls [.int c28]) rfl ?_
  refine lv_istore (lv' := [(6, .int c28), (5, .int (((16 : Int32) * v1) + ((v2 + (1 : Int32)) - (v2 + (1 : Int32)) / (Y_sizes ST v1.toNatClampNeg) * (Y_sizes ST v1.toNatClampNeg)))), (4, .int (((16 : Int32) * v1) + v2)), (0, .ref (ad 0)), (1, .int v1), (2, .int v2), (3, .int v3)]) hx hb d_MaskEdgesModel_addPieces_31 hl (by decide) rfl (fun ls hl => ?_)
  refine lv_aload_n hx hb d_MaskEdgesModel_addPieces_33 rfl (lv_at hl 3 rfl) ?_
  refine va_get (D := X.1) (ci := 6) (v := .ref (ad 2)) (C := "MaskEdgesModel") (T := F_MaskEdgesModel) (N := 28) hx hb ht in_MaskEdgesModel hown hK hP 0 yg0 rfl 2 (by decide) (ht _ xw_449) (fun _ h9 => h9) rfl d_MaskEdgesModel_addPieces_34 ?_
  refine lv_iload hx hb d_MaskEdgesModel_addPieces_37 (lv_at hl 2 rfl) ?_
  obtain ⟨g39, hf⟩ := x_g hf
  refine va_iald hx hb hK hP 2 0 yg2 rfl (xin_in g39) d_MaskEdgesModel_addPieces_39 ?_
  refine lv_aload_n hx hb d_MaskEdgesModel_addPieces_40 rfl (lv_at hl 3 rfl) ?_
  refine va_get (D := X.1) (ci := 6) (v := .ref (ad 2)) (C := "MaskEdgesModel") (T := F_MaskEdgesModel) (N := 28) hx hb ht in_MaskEdgesModel hown hK hP 0 yg0 rfl 2 (by decide) (ht _ xw_449) (fun _ h9 => h9) rfl d_MaskEdgesModel_addPieces_41 ?_
  refine lv_iload hx hb d_MaskEdgesModel_addPieces_44 (lv_at hl 1 rfl) ?_
  obtain ⟨g46, hf⟩ := x_g hf
  refine va_iald hx hb hK hP 2 0 yg2 rfl (xin_in g46) d_MaskEdgesModel_addPieces_46 ?_
  refine lv_icmp_ne (tgt := 54) hx hb d_MaskEdgesModel_addPieces_47 (by decide) (fun hc => ?_) (fun hc => ?_)
  · replace hf := x_f hc hf
    refine lv_iconst (v := (0 : Int32)) hx hb d_MaskEdgesModel_addPieces_54 (by decide) ?_
    exact hL55 v1 v3 (((16 : Int32) * v1) + v2) (((16 : Int32) * v1) + ((v2 + (1 : Int32)) - (v2 + (1 : Int32)) / (Y_sizes ST v1.toNatClampNeg) * (Y_sizes ST v1.toNatClampNeg))) c28 (0 : Int32) ST _ _ hP hS ls (lv_sub hl [3, 4, 6, 2, 1, 0] rfl) hf
  · replace hf := x_t hc hf
    refine lv_iconst (v := (1 : Int32)) hx hb d_MaskEdgesModel_addPieces_50 (by decide) ?_
    refine lv_goto (tgt := 55) hx hb d_MaskEdgesModel_addPieces_51 (by decide) ?_
    exact hL55 v1 v3 (((16 : Int32) * v1) + v2) (((16 : Int32) * v1) + ((v2 + (1 : Int32)) - (v2 + (1 : Int32)) / (Y_sizes ST v1.toNatClampNeg) * (Y_sizes ST v1.toNatClampNeg))) c28 (1 : Int32) ST _ _ hP hS ls (lv_sub hl [3, 4, 6, 2, 1, 0] rfl) hf
def f_MaskEdgesModel_cut_40 (r40 : Int32 → Int32 → Int32 → Int32 → ySt → Option (Int32 × ySt)) (k82 : Int32 → Int32 → Int32 → ySt → Option (Int32 × ySt)) (v1 : Int32) (v2 : Int32) (v3 : Int32) (v4 : Int32) (ST : ySt) : Option (Int32 × ySt) :=
  if xin v3 4 = true then
  if (Y_sizes ST v3.toNatClampNeg) ≤ v4 then
    k82 v1 v2 v3 ST
  else
    if xin v3 4 = true then
      if (Y_isClosed ST v3.toNatClampNeg) = 0 then
        k82 v1 v2 v3 ST
      else
        (f_MaskEdgesModel_lengthOf ST v3 v4).bind fun c65 =>
          if v1 = 0 then none else
          r40 v1 (v2 + (((c65 + v1) - (1 : Int32)) / v1)) v3 (v4 + (1 : Int32)) ST
    else none
else none
def f_MaskEdgesModel_cut_82 (r29 : Int32 → Int32 → Int32 → ySt → Option (Int32 × ySt)) (v1 : Int32) (v2 : Int32) (v3 : Int32) (ST : ySt) : Option (Int32 × ySt) :=
  r29 v1 v2 (v3 + (1 : Int32)) ST
def f_MaskEdgesModel_cut_29 (r29 : Int32 → Int32 → Int32 → ySt → Option (Int32 × ySt)) (k88 : Int32 → Int32 → ySt → Option (Int32 × ySt)) (v1 : Int32) (v2 : Int32) (v3 : Int32) (ST : ySt) : Option (Int32 × ySt) :=
  if (Y_polygons ST) ≤ v3 then
  k88 v1 v2 ST
else
  (xloop (fun r => f_MaskEdgesModel_cut_40 r (f_MaskEdgesModel_cut_82 r29)) (fun _ _ _ _ _ => none) 100000) v1 v2 v3 (0 : Int32) ST
def f_MaskEdgesModel_cut_115 (r115 : Int32 → Int32 → Int32 → ySt → Option (Int32 × ySt)) (k161 : Int32 → Int32 → ySt → Option (Int32 × ySt)) (v1 : Int32) (v3 : Int32) (v4 : Int32) (ST : ySt) : Option (Int32 × ySt) :=
  if xin v3 4 = true then
  if (Y_sizes ST v3.toNatClampNeg) ≤ v4 then
    k161 v1 v3 ST
  else
    if xin v3 4 = true then
      if (Y_isClosed ST v3.toNatClampNeg) = 0 then
        k161 v1 v3 ST
      else
        (f_MaskEdgesModel_lengthOf ST v3 v4).bind fun c143 =>
          if v1 = 0 then none else
          (f_MaskEdgesModel_addPieces v3 v4 (((c143 + v1) - (1 : Int32)) / v1) ST).bind fun c152 =>
          r115 v1 v3 (v4 + (1 : Int32)) c152
    else none
else none
def f_MaskEdgesModel_cut_161 (r104 : Int32 → Int32 → ySt → Option (Int32 × ySt)) (v1 : Int32) (v3 : Int32) (ST : ySt) : Option (Int32 × ySt) :=
  r104 v1 (v3 + (1 : Int32)) ST
def f_MaskEdgesModel_cut_104 (r104 : Int32 → Int32 → ySt → Option (Int32 × ySt)) (v1 : Int32) (v3 : Int32) (ST : ySt) : Option (Int32 × ySt) :=
  if (Y_polygons ST) ≤ v3 then
  some ((Y_pieces ST), ST)
else
  (xloop (fun r => f_MaskEdgesModel_cut_115 r (f_MaskEdgesModel_cut_161 r104)) (fun _ _ _ _ => none) 100000) v1 v3 (0 : Int32) ST
def f_MaskEdgesModel_cut_88 (v1 : Int32) (v2 : Int32) (ST : ySt) : Option (Int32 × ySt) :=
  if v2 ≤ (120 : Int32) then
  (xloop (fun r => f_MaskEdgesModel_cut_104 r) (fun _ _ _ => none) 100000) v1 (0 : Int32) (Y_u_pieces ST (0 : Int32))
else
  some ((-4 : Int32), ST)
def f_MaskEdgesModel_cut (v1 : Int32) (ST : ySt) : Option (Int32 × ySt) :=
  (f_MaskEdgesModel_isBetween v1.toInt64 (1 : Int64) (48 : Int64)).bind fun c6 =>
  if c6 = 0 then
  some ((-2 : Int32), ST)
else
  (f_MaskEdgesModel_hasClosed ST).bind fun c16 =>
    if c16 = 0 then
    some ((-3 : Int32), ST)
  else
    (xloop (fun r => f_MaskEdgesModel_cut_29 r f_MaskEdgesModel_cut_88) (fun _ _ _ _ => none) 100000) v1 (0 : Int32) (0 : Int32) ST
set_option maxHeartbeats 4000000 in
set_option maxRecDepth 100000 in
theorem c_MaskEdgesModel_cut (l : Launch) (X : xG) {H : Heap} (ad : Nat → Nat) (ST : ySt) (v1 : Int32) {res : Int32 × ySt} (hP : va_P X.1 vwCl (wY X ad ST) H) (hA : okB ad) (hf : f_MaskEdgesModel_cut v1 ST = some res) : xM l y_MaskEdgesModel_cut (Cond.code y_MaskEdgesModel_cut prog_8_method_16_code 5 (some .int) :: xT) ({ frames := 4, cells := 0, slots := 0, locals := 109 } : Room) (xK X) [.ref (ad 0), .int v1] H (yA ad) (some (.int res.1)) (fun H1 => va_P X.1 vwCl (wY X ad res.2) H1) := by
  refine Met.ofW (cc := prog_8_method_16_code) (maxL := 5) (ret := (some .int)) (by decide) rfl ?_
  intro p e s m args below meth c s₁ B hml hv
  obtain ⟨ha, hH, hKK⟩ := hv
  subst hH
  have hx := B.exec
  have hb := B.bytes
  have hr := B.returns
  have ht : ∀ w ∈ xT, w.before args s = true := fun w h => atoms_spec (ws := (Cond.code y_MaskEdgesModel_cut prog_8_method_16_code 5 (some .int) :: xT)) B.pre w (List.mem_cons_of_mem _ h)
  have hown : s.vm.findClass "MaskEdgesModel" = some m.cls := findClass_of_methodNamed B.named
  have hlocks := B.notSynchronized
  have hK := hKK.1
  rw [show entryFrame m args 5 = entryFrame m ([.ref (ad 0), .int v1] : List Value).toArray 5 from by rw [ha]]
  clear ha
  have hS : va_S (yA ad) s.heap s.heap [] := va_S.rf
  have hl := lv_entry ([.ref (ad 0), .int v1]) (n := 5) (Nat.le_of_ble_eq_true rfl)
  rw [lg_entry_eq]
  generalize (lg_sl ([.ref (ad 0), .int v1]) ++ List.replicate (5 - (lg_sl ([.ref (ad 0), .int v1])).length) Slot.unset).toArray = ls at hl ⊢
  replace hl : lv_has ls 5 [(0, .ref (ad 0)), (1, .int v1)] := hl
  refine x_Q (fun Q hQ => ?_)
  have hL40 : ∀ (k82 : Int32 → Int32 → Int32 → ySt → Option (Int32 × ySt)) (hk82 : ∀ (v1 : Int32) (v2 : Int32) (v3 : Int32) (ST : ySt), ∀ (H : Heap) (locs : List Loc), va_P X.1 vwCl (wY X ad ST) H → va_S (yA ad) s.heap H locs → ∀ (ls : Array Slot), lv_has ls 5 [(0, .ref (ad 0)), (1, .int v1), (2, .int v2), (3, .int v3)] → k82 v1 v2 v3 ST = some res → W p l e (headSpec (Cond.code y_MaskEdgesModel_cut prog_8_method_16_code 5 (some .int) :: xT) ({ frames := 4, cells := 0, slots := 0, locals := 109 } : Room)).room s m args below meth c H locs 0 0 Q (F0 m 82 ls [])), ∀ (n : Nat), ∀ (v1 : Int32) (v2 : Int32) (v3 : Int32) (v4 : Int32) (ST : ySt), ∀ (H : Heap) (locs : List Loc), va_P X.1 vwCl (wY X ad ST) H → va_S (yA ad) s.heap H locs → ∀ (ls : Array Slot), lv_has ls 5 [(0, .ref (ad 0)), (1, .int v1), (2, .int v2), (3, .int v3), (4, .int v4)] → (xloop (fun r => f_MaskEdgesModel_cut_40 r k82) (fun _ _ _ _ _ => none) n) v1 v2 v3 v4 ST = some res → W p l e (headSpec (Cond.code y_MaskEdgesModel_cut prog_8_method_16_code 5 (some .int) :: xT) ({ frames := 4, cells := 0, slots := 0, locals := 109 } : Room)).room s m args below meth c H locs 0 0 Q (F0 m 40 ls []) := by
    intro k82 hk82
    intro n
    induction n with
    | zero => intro v1 v2 v3 v4 ST H locs hP hS ls hl hf; cases hf
    | succ n ih =>
      intro v1 v2 v3 v4 ST H locs hP hS ls hl hf
      replace hf : f_MaskEdgesModel_cut_40 (xloop (fun r => f_MaskEdgesModel_cut_40 r k82) (fun _ _ _ _ _ => none) n) k82 v1 v2 v3 v4 ST = some res := hf
      have hr40 := ih
      clear ih
      unfold f_MaskEdgesModel_cut_40 at hf
      refine lv_iload hx hb d_MaskEdgesModel_cut_40 (lv_at hl 4 rfl) ?_
      refine lv_aload_n hx hb d_MaskEdgesModel_cut_42 rfl (lv_at hl 0 rfl) ?_
      refine va_get (D := X.1) (ci := 6) (v := .ref (ad 3)) (C := "MaskEdgesModel") (T := F_MaskEdgesModel) (N := 28) hx hb ht in_MaskEdgesModel hown hK hP 0 yg0 rfl 3 (by decide) (ht _ xw_450) (fun _ h9 => h9) rfl d_MaskEdgesModel_cut_43 ?_
      refine lv_iload_n hx hb d_MaskEdgesModel_cut_46 rfl (lv_at hl 3 rfl) ?_
      obtain ⟨g47, hf⟩ := x_g hf
      refine va_iald hx hb hK hP 3 0 yg3 rfl (xin_in g47) d_MaskEdgesModel_cut_47 ?_
      refine lv_icmp_ge (tgt := 82) hx hb d_MaskEdgesModel_cut_48 (by decide) (fun hc => ?_) (fun hc => ?_)
      · replace hf := x_t hc hf
        exact hk82 v1 v2 v3 ST _ _ hP hS ls (lv_sub hl [0, 1, 2, 3] rfl) hf
      · replace hf := x_f hc hf
        refine lv_aload_n hx hb d_MaskEdgesModel_cut_51 rfl (lv_at hl 0 rfl) ?_
        refine va_get (D := X.1) (ci := 6) (v := .ref (ad 4)) (C := "MaskEdgesModel") (T := F_MaskEdgesModel) (N := 28) hx hb ht in_MaskEdgesModel hown hK hP 0 yg0 rfl 4 (by decide) (ht _ xw_451) (fun _ h9 => h9) rfl d_MaskEdgesModel_cut_52 ?_
        refine lv_iload_n hx hb d_MaskEdgesModel_cut_55 rfl (lv_at hl 3 rfl) ?_
        obtain ⟨g56, hf⟩ := x_g hf
        refine va_zald hx hb hK hP 4 5 yg4 rfl (xin_in g56) d_MaskEdgesModel_cut_56 ?_
        refine lv_if_eq (tgt := 82) hx hb d_MaskEdgesModel_cut_57 (by decide) (fun hc => ?_) (fun hc => ?_)
        · replace hf := x_t hc hf
          exact hk82 v1 v2 v3 ST _ _ hP hS ls (lv_sub hl [0, 1, 2, 3] rfl) hf
        · replace hf := x_f hc hf
          refine lv_iload_n hx hb d_MaskEdgesModel_cut_60 rfl (lv_at hl 2 rfl) ?_
          refine lv_aload_n hx hb d_MaskEdgesModel_cut_61 rfl (lv_at hl 0 rfl) ?_
          refine lv_iload_n hx hb d_MaskEdgesModel_cut_62 rfl (lv_at hl 3 rfl) ?_
          refine lv_iload hx hb d_MaskEdgesModel_cut_63 (lv_at hl 4 rfl) ?_
          obtain ⟨c65, e65, hf⟩ := x_b hf
          refine xcR (va_runV (As := [.int v3, .int v4]) (rest := [.int v2]) ⟨hx, hb, hml, hown, ht⟩ (c_MaskEdgesModel_lengthOf l X ad ST v3 v4 hP e65) (cwV 2 ht (xgV xw_533 xw_534 xw_16 xw_43 xw_535) rfl rfl rfl (by decide +kernel) ⟨Nat.le_of_ble_eq_true rfl, Nat.le_of_ble_eq_true rfl⟩) (xPV hKK (va_recv hK hP (ci := 6) (q0 := 0) rfl yg0)) rfl rfl hl.1 rfl (lv_room (Nat.le_of_ble_eq_true rfl)) d_MaskEdgesModel_cut_65 ⟨Nat.zero_le _, Nat.zero_le _⟩) ?_
          refine W.eq (g2 := F0 m 68 ls [.int c65, .int v2]) rfl ?_
          refine lv_iload_n hx hb d_MaskEdgesModel_cut_68 rfl (lv_at hl 1 rfl) ?_
          refine lv_iadd hx hb d_MaskEdgesModel_cut_69 ?_
          refine lv_iconst (v := (1 : Int32)) hx hb d_MaskEdgesModel_cut_70 (by decide) ?_
          refine lv_isub hx hb d_MaskEdgesModel_cut_71 ?_
          refine lv_iload_n hx hb d_MaskEdgesModel_cut_72 rfl (lv_at hl 1 rfl) ?_
          obtain ⟨z73, hf⟩ := x_n hf
          refine lv_idiv hx hb d_MaskEdgesModel_cut_73 z73 ?_
          refine lv_iadd hx hb d_MaskEdgesModel_cut_74 ?_
          refine lv_istore_n (lv' := [(2, .int (v2 + (((c65 + v1) - (1 : Int32)) / v1))), (0, .ref (ad 0)), (1, .int v1), (3, .int v3), (4, .int v4)]) hx hb d_MaskEdgesModel_cut_75 rfl hl (by decide) rfl (fun ls hl => ?_)
          refine lv_iinc (v := (v4 + (1 : Int32))) (lv' := [(4, .int (v4 + (1 : Int32))), (2, .int (v2 + (((c65 + v1) - (1 : Int32)) / v1))), (0, .ref (ad 0)), (1, .int v1), (3, .int v3)]) hx hb d_MaskEdgesModel_cut_76 hl (k := 4) rfl rfl (by decide) rfl (fun ls hl => ?_)
          refine lv_goto (tgt := 40) hx hb d_MaskEdgesModel_cut_79 (by decide) ?_
          exact hr40 v1 (v2 + (((c65 + v1) - (1 : Int32)) / v1)) v3 (v4 + (1 : Int32)) ST _ _ hP hS ls (lv_sub hl [2, 3, 1, 4, 0] rfl) hf
  have hL82 : ∀ (r29 : Int32 → Int32 → Int32 → ySt → Option (Int32 × ySt)) (hr29 : ∀ (v1 : Int32) (v2 : Int32) (v3 : Int32) (ST : ySt), ∀ (H : Heap) (locs : List Loc), va_P X.1 vwCl (wY X ad ST) H → va_S (yA ad) s.heap H locs → ∀ (ls : Array Slot), lv_has ls 5 [(0, .ref (ad 0)), (1, .int v1), (2, .int v2), (3, .int v3)] → r29 v1 v2 v3 ST = some res → W p l e (headSpec (Cond.code y_MaskEdgesModel_cut prog_8_method_16_code 5 (some .int) :: xT) ({ frames := 4, cells := 0, slots := 0, locals := 109 } : Room)).room s m args below meth c H locs 0 0 Q (F0 m 29 ls [])), ∀ (v1 : Int32) (v2 : Int32) (v3 : Int32) (ST : ySt), ∀ (H : Heap) (locs : List Loc), va_P X.1 vwCl (wY X ad ST) H → va_S (yA ad) s.heap H locs → ∀ (ls : Array Slot), lv_has ls 5 [(0, .ref (ad 0)), (1, .int v1), (2, .int v2), (3, .int v3)] → f_MaskEdgesModel_cut_82 r29 v1 v2 v3 ST = some res → W p l e (headSpec (Cond.code y_MaskEdgesModel_cut prog_8_method_16_code 5 (some .int) :: xT) ({ frames := 4, cells := 0, slots := 0, locals := 109 } : Room)).room s m args below meth c H locs 0 0 Q (F0 m 82 ls []) := by
    intro r29 hr29 v1 v2 v3 ST H locs hP hS ls hl hf
    unfold f_MaskEdgesModel_cut_82 at hf
    refine lv_iinc (v := (v3 + (1 : Int32))) (lv' := [(3, .int (v3 + (1 : Int32))), (0, .ref (ad 0)), (1, .int v1), (2, .int v2)]) hx hb d_MaskEdgesModel_cut_82 hl (k := 3) rfl rfl (by decide) rfl (fun ls hl => ?_)
    refine lv_goto (tgt := 29) hx hb d_MaskEdgesModel_cut_85 (by decide) ?_
    exact hr29 v1 v2 (v3 + (1 : Int32)) ST _ _ hP hS ls (lv_sub hl [1, 2, 3, 0] rfl) hf
  have hL29 : ∀ (k88 : Int32 → Int32 → ySt → Option (Int32 × ySt)) (hk88 : ∀ (v1 : Int32) (v2 : Int32) (ST : ySt), ∀ (H : Heap) (locs : List Loc), va_P X.1 vwCl (wY X ad ST) H → va_S (yA ad) s.heap H locs → ∀ (ls : Array Slot), lv_has ls 5 [(0, .ref (ad 0)), (1, .int v1), (2, .int v2)] → k88 v1 v2 ST = some res → W p l e (headSpec (Cond.code y_MaskEdgesModel_cut prog_8_method_16_code 5 (some .int) :: xT) ({ frames := 4, cells := 0, slots := 0, locals := 109 } : Room)).room s m args below meth c H locs 0 0 Q (F0 m 88 ls [])), ∀ (n : Nat), ∀ (v1 : Int32) (v2 : Int32) (v3 : Int32) (ST : ySt), ∀ (H : Heap) (locs : List Loc), va_P X.1 vwCl (wY X ad ST) H → va_S (yA ad) s.heap H locs → ∀ (ls : Array Slot), lv_has ls 5 [(0, .ref (ad 0)), (1, .int v1), (2, .int v2), (3, .int v3)] → (xloop (fun r => f_MaskEdgesModel_cut_29 r k88) (fun _ _ _ _ => none) n) v1 v2 v3 ST = some res → W p l e (headSpec (Cond.code y_MaskEdgesModel_cut prog_8_method_16_code 5 (some .int) :: xT) ({ frames := 4, cells := 0, slots := 0, locals := 109 } : Room)).room s m args below meth c H locs 0 0 Q (F0 m 29 ls []) := by
    intro k88 hk88
    intro n
    induction n with
    | zero => intro v1 v2 v3 ST H locs hP hS ls hl hf; cases hf
    | succ n ih =>
      intro v1 v2 v3 ST H locs hP hS ls hl hf
      replace hf : f_MaskEdgesModel_cut_29 (xloop (fun r => f_MaskEdgesModel_cut_29 r k88) (fun _ _ _ _ => none) n) k88 v1 v2 v3 ST = some res := hf
      have hr29 := ih
      clear ih
      unfold f_MaskEdgesModel_cut_29 at hf
      refine lv_iload_n hx hb d_MaskEdgesModel_cut_29 rfl (lv_at hl 3 rfl) ?_
      refine lv_aload_n hx hb d_MaskEdgesModel_cut_30 rfl (lv_at hl 0 rfl) ?_
      refine va_get (D := X.1) (ci := 6) (v := .int (Y_polygons ST)) (C := "MaskEdgesModel") (T := F_MaskEdgesModel) (N := 28) hx hb ht in_MaskEdgesModel hown hK hP 0 yg0 rfl 0 (by decide) (ht _ xw_447) (fun _ h9 => h9) rfl d_MaskEdgesModel_cut_31 ?_
      refine lv_icmp_ge (tgt := 88) hx hb d_MaskEdgesModel_cut_34 (by decide) (fun hc => ?_) (fun hc => ?_)
      · replace hf := x_t hc hf
        exact hk88 v1 v2 ST _ _ hP hS ls (lv_sub hl [0, 1, 2] rfl) hf
      · replace hf := x_f hc hf
        refine lv_iconst (v := (0 : Int32)) hx hb d_MaskEdgesModel_cut_37 (by decide) ?_
        refine lv_istore (lv' := [(4, .int (0 : Int32)), (0, .ref (ad 0)), (1, .int v1), (2, .int v2), (3, .int v3)]) hx hb d_MaskEdgesModel_cut_38 hl (by decide) rfl (fun ls hl => ?_)
        exact (hL40 _ (hL82 _ hr29) 100000) v1 v2 v3 (0 : Int32) ST _ _ hP hS ls (lv_sub hl [1, 2, 3, 4, 0] rfl) hf
  have hL115 : ∀ (k161 : Int32 → Int32 → ySt → Option (Int32 × ySt)) (hk161 : ∀ (v1 : Int32) (v3 : Int32) (ST : ySt), ∀ (H : Heap) (locs : List Loc), va_P X.1 vwCl (wY X ad ST) H → va_S (yA ad) s.heap H locs → ∀ (ls : Array Slot), lv_has ls 5 [(0, .ref (ad 0)), (1, .int v1), (3, .int v3)] → k161 v1 v3 ST = some res → W p l e (headSpec (Cond.code y_MaskEdgesModel_cut prog_8_method_16_code 5 (some .int) :: xT) ({ frames := 4, cells := 0, slots := 0, locals := 109 } : Room)).room s m args below meth c H locs 0 0 Q (F0 m 161 ls [])), ∀ (n : Nat), ∀ (v1 : Int32) (v3 : Int32) (v4 : Int32) (ST : ySt), ∀ (H : Heap) (locs : List Loc), va_P X.1 vwCl (wY X ad ST) H → va_S (yA ad) s.heap H locs → ∀ (ls : Array Slot), lv_has ls 5 [(0, .ref (ad 0)), (1, .int v1), (3, .int v3), (4, .int v4)] → (xloop (fun r => f_MaskEdgesModel_cut_115 r k161) (fun _ _ _ _ => none) n) v1 v3 v4 ST = some res → W p l e (headSpec (Cond.code y_MaskEdgesModel_cut prog_8_method_16_code 5 (some .int) :: xT) ({ frames := 4, cells := 0, slots := 0, locals := 109 } : Room)).room s m args below meth c H locs 0 0 Q (F0 m 115 ls []) := by
    intro k161 hk161
    intro n
    induction n with
    | zero => intro v1 v3 v4 ST H locs hP hS ls hl hf; cases hf
    | succ n ih =>
      intro v1 v3 v4 ST H locs hP hS ls hl hf
      replace hf : f_MaskEdgesModel_cut_115 (xloop (fun r => f_MaskEdgesModel_cut_115 r k161) (fun _ _ _ _ => none) n) k161 v1 v3 v4 ST = some res := hf
      have hr115 := ih
      clear ih
      unfold f_MaskEdgesModel_cut_115 at hf
      refine lv_iload hx hb d_MaskEdgesModel_cut_115 (lv_at hl 3 rfl) ?_
      refine lv_aload_n hx hb d_MaskEdgesModel_cut_117 rfl (lv_at hl 0 rfl) ?_
      refine va_get (D := X.1) (ci := 6) (v := .ref (ad 3)) (C := "MaskEdgesModel") (T := F_MaskEdgesModel) (N := 28) hx hb ht in_MaskEdgesModel hown hK hP 0 yg0 rfl 3 (by decide) (ht _ xw_450) (fun _ h9 => h9) rfl d_MaskEdgesModel_cut_118 ?_
      refine lv_iload_n hx hb d_MaskEdgesModel_cut_121 rfl (lv_at hl 2 rfl) ?_
      obtain ⟨g122, hf⟩ := x_g hf
      refine va_iald hx hb hK hP 3 0 yg3 rfl (xin_in g122) d_MaskEdgesModel_cut_122 ?_
      refine lv_icmp_ge (tgt := 161) hx hb d_MaskEdgesModel_cut_123 (by decide) (fun hc => ?_) (fun hc => ?_)
      · replace hf := x_t hc hf
        exact hk161 v1 v3 ST _ _ hP hS ls (lv_sub hl [0, 1, 2] rfl) hf
      · replace hf := x_f hc hf
        refine lv_aload_n hx hb d_MaskEdgesModel_cut_126 rfl (lv_at hl 0 rfl) ?_
        refine va_get (D := X.1) (ci := 6) (v := .ref (ad 4)) (C := "MaskEdgesModel") (T := F_MaskEdgesModel) (N := 28) hx hb ht in_MaskEdgesModel hown hK hP 0 yg0 rfl 4 (by decide) (ht _ xw_451) (fun _ h9 => h9) rfl d_MaskEdgesModel_cut_127 ?_
        refine lv_iload_n hx hb d_MaskEdgesModel_cut_130 rfl (lv_at hl 2 rfl) ?_
        obtain ⟨g131, hf⟩ := x_g hf
        refine va_zald hx hb hK hP 4 5 yg4 rfl (xin_in g131) d_MaskEdgesModel_cut_131 ?_
        refine lv_if_eq (tgt := 161) hx hb d_MaskEdgesModel_cut_132 (by decide) (fun hc => ?_) (fun hc => ?_)
        · replace hf := x_t hc hf
          exact hk161 v1 v3 ST _ _ hP hS ls (lv_sub hl [0, 1, 2] rfl) hf
        · replace hf := x_f hc hf
          refine lv_aload_n hx hb d_MaskEdgesModel_cut_135 rfl (lv_at hl 0 rfl) ?_
          refine lv_iload_n hx hb d_MaskEdgesModel_cut_136 rfl (lv_at hl 2 rfl) ?_
          refine lv_iload hx hb d_MaskEdgesModel_cut_137 (lv_at hl 3 rfl) ?_
          refine lv_aload_n hx hb d_MaskEdgesModel_cut_139 rfl (lv_at hl 0 rfl) ?_
          refine lv_iload_n hx hb d_MaskEdgesModel_cut_140 rfl (lv_at hl 2 rfl) ?_
          refine lv_iload hx hb d_MaskEdgesModel_cut_141 (lv_at hl 3 rfl) ?_
          obtain ⟨c143, e143, hf⟩ := x_b hf
          refine xcR (va_runV (As := [.int v3, .int v4]) (rest := [.int v4, .int v3, .ref (ad 0)]) ⟨hx, hb, hml, hown, ht⟩ (c_MaskEdgesModel_lengthOf l X ad ST v3 v4 hP e143) (cwV 2 ht (xgV xw_533 xw_534 xw_16 xw_43 xw_535) rfl rfl rfl (by decide +kernel) ⟨Nat.le_of_ble_eq_true rfl, Nat.le_of_ble_eq_true rfl⟩) (xPV hKK (va_recv hK hP (ci := 6) (q0 := 0) rfl yg0)) rfl rfl hl.1 rfl (lv_room (Nat.le_of_ble_eq_true rfl)) d_MaskEdgesModel_cut_143 ⟨Nat.zero_le _, Nat.zero_le _⟩) ?_
          refine W.eq (g2 := F0 m 146 ls [.int c143, .int v4, .int v3, .ref (ad 0)]) rfl ?_
          refine lv_iload_n hx hb d_MaskEdgesModel_cut_146 rfl (lv_at hl 1 rfl) ?_
          refine lv_iadd hx hb d_MaskEdgesModel_cut_147 ?_
          refine lv_iconst (v := (1 : Int32)) hx hb d_MaskEdgesModel_cut_148 (by decide) ?_
          refine lv_isub hx hb d_MaskEdgesModel_cut_149 ?_
          refine lv_iload_n hx hb d_MaskEdgesModel_cut_150 rfl (lv_at hl 1 rfl) ?_
          obtain ⟨z151, hf⟩ := x_n hf
          refine lv_idiv hx hb d_MaskEdgesModel_cut_151 z151 ?_
          obtain ⟨c152, e152, hf⟩ := x_b hf
          refine xc (va_runV (As := [.int v3, .int v4, .int (((c143 + v1) - (1 : Int32)) / v1)]) (rest := []) ⟨hx, hb, hml, hown, ht⟩ (c_MaskEdgesModel_addPieces l X ad ST v3 v4 (((c143 + v1) - (1 : Int32)) / v1) hP hA e152) (cwV 3 ht (xgV xw_536 xw_537 xw_17 xw_43 xw_538) rfl rfl rfl (by decide +kernel) ⟨Nat.le_of_ble_eq_true rfl, Nat.le_of_ble_eq_true rfl⟩) (xPV hKK (va_recv hK hP (ci := 6) (q0 := 0) rfl yg0)) rfl rfl hl.1 rfl (lv_room (Nat.le_of_ble_eq_true rfl)) d_MaskEdgesModel_cut_152 ⟨Nat.zero_le _, Nat.zero_le _⟩) (fun H1 L hq hz => ?_)
          replace hS := xS_call hS hz (fun _ h => h)
          replace hP : va_P X.1 vwCl (wY X ad c152) H1 := hq
          clear hq hz
          refine W.eq (g2 := F0 m 155 ls []) rfl ?_
          refine lv_iinc (v := (v4 + (1 : Int32))) (lv' := [(4, .int (v4 + (1 : Int32))), (0, .ref (ad 0)), (1, .int v1), (3, .int v3)]) hx hb d_MaskEdgesModel_cut_155 hl (k := 3) rfl rfl (by decide) rfl (fun ls hl => ?_)
          refine lv_goto (tgt := 115) hx hb d_MaskEdgesModel_cut_158 (by decide) ?_
          exact hr115 v1 v3 (v4 + (1 : Int32)) c152 _ _ hP hS ls (lv_sub hl [1, 2, 3, 0] rfl) hf
  have hL161 : ∀ (r104 : Int32 → Int32 → ySt → Option (Int32 × ySt)) (hr104 : ∀ (v1 : Int32) (v3 : Int32) (ST : ySt), ∀ (H : Heap) (locs : List Loc), va_P X.1 vwCl (wY X ad ST) H → va_S (yA ad) s.heap H locs → ∀ (ls : Array Slot), lv_has ls 5 [(0, .ref (ad 0)), (1, .int v1), (3, .int v3)] → r104 v1 v3 ST = some res → W p l e (headSpec (Cond.code y_MaskEdgesModel_cut prog_8_method_16_code 5 (some .int) :: xT) ({ frames := 4, cells := 0, slots := 0, locals := 109 } : Room)).room s m args below meth c H locs 0 0 Q (F0 m 104 ls [])), ∀ (v1 : Int32) (v3 : Int32) (ST : ySt), ∀ (H : Heap) (locs : List Loc), va_P X.1 vwCl (wY X ad ST) H → va_S (yA ad) s.heap H locs → ∀ (ls : Array Slot), lv_has ls 5 [(0, .ref (ad 0)), (1, .int v1), (3, .int v3)] → f_MaskEdgesModel_cut_161 r104 v1 v3 ST = some res → W p l e (headSpec (Cond.code y_MaskEdgesModel_cut prog_8_method_16_code 5 (some .int) :: xT) ({ frames := 4, cells := 0, slots := 0, locals := 109 } : Room)).room s m args below meth c H locs 0 0 Q (F0 m 161 ls []) := by
    intro r104 hr104 v1 v3 ST H locs hP hS ls hl hf
    unfold f_MaskEdgesModel_cut_161 at hf
    refine lv_iinc (v := (v3 + (1 : Int32))) (lv' := [(3, .int (v3 + (1 : Int32))), (0, .ref (ad 0)), (1, .int v1)]) hx hb d_MaskEdgesModel_cut_161 hl (k := 2) rfl rfl (by decide) rfl (fun ls hl => ?_)
    refine lv_goto (tgt := 104) hx hb d_MaskEdgesModel_cut_164 (by decide) ?_
    exact hr104 v1 (v3 + (1 : Int32)) ST _ _ hP hS ls (lv_sub hl [1, 2, 0] rfl) hf
  have hL104 : ∀ (n : Nat), ∀ (v1 : Int32) (v3 : Int32) (ST : ySt), ∀ (H : Heap) (locs : List Loc), va_P X.1 vwCl (wY X ad ST) H → va_S (yA ad) s.heap H locs → ∀ (ls : Array Slot), lv_has ls 5 [(0, .ref (ad 0)), (1, .int v1), (3, .int v3)] → (xloop (fun r => f_MaskEdgesModel_cut_104 r) (fun _ _ _ => none) n) v1 v3 ST = some res → W p l e (headSpec (Cond.code y_MaskEdgesModel_cut prog_8_method_16_code 5 (some .int) :: xT) ({ frames := 4, cells := 0, slots := 0, locals := 109 } : Room)).room s m args below meth c H locs 0 0 Q (F0 m 104 ls []) := by
    intro n
    induction n with
    | zero => intro v1 v3 ST H locs hP hS ls hl hf; cases hf
    | succ n ih =>
      intro v1 v3 ST H locs hP hS ls hl hf
      replace hf : f_MaskEdgesModel_cut_104 (xloop (fun r => f_MaskEdgesModel_cut_104 r) (fun _ _ _ => none) n) v1 v3 ST = some res := hf
      have hr104 := ih
      clear ih
      unfold f_MaskEdgesModel_cut_104 at hf
      refine lv_iload_n hx hb d_MaskEdgesModel_cut_104 rfl (lv_at hl 2 rfl) ?_
      refine lv_aload_n hx hb d_MaskEdgesModel_cut_105 rfl (lv_at hl 0 rfl) ?_
      refine va_get (D := X.1) (ci := 6) (v := .int (Y_polygons ST)) (C := "MaskEdgesModel") (T := F_MaskEdgesModel) (N := 28) hx hb ht in_MaskEdgesModel hown hK hP 0 yg0 rfl 0 (by decide) (ht _ xw_447) (fun _ h9 => h9) rfl d_MaskEdgesModel_cut_106 ?_
      refine lv_icmp_ge (tgt := 167) hx hb d_MaskEdgesModel_cut_109 (by decide) (fun hc => ?_) (fun hc => ?_)
      · replace hf := x_t hc hf
        refine lv_aload_n hx hb d_MaskEdgesModel_cut_167 rfl (lv_at hl 0 rfl) ?_
        refine va_get (D := X.1) (ci := 6) (v := .int (Y_pieces ST)) (C := "MaskEdgesModel") (T := F_MaskEdgesModel) (N := 28) hx hb ht in_MaskEdgesModel hown hK hP 0 yg0 rfl 9 (by decide) (ht _ xw_456) (fun _ h9 => h9) rfl d_MaskEdgesModel_cut_168 ?_
        replace hf := x_s hf
        subst hf
        subst hQ
        exact W.iret (v := (Y_pieces ST)) hx hb hr (fun t ht hW => ⟨⟨rfl, by rw [ht]; exact hP⟩, hS.F ht⟩) hS.2.2 d_MaskEdgesModel_cut_171
      · replace hf := x_f hc hf
        refine lv_iconst (v := (0 : Int32)) hx hb d_MaskEdgesModel_cut_112 (by decide) ?_
        refine lv_istore (lv' := [(4, .int (0 : Int32)), (0, .ref (ad 0)), (1, .int v1), (3, .int v3)]) hx hb d_MaskEdgesModel_cut_113 hl (by decide) rfl (fun ls hl => ?_)
        exact (hL115 _ (hL161 _ hr104) 100000) v1 v3 (0 : Int32) ST _ _ hP hS ls (lv_sub hl [1, 2, 3, 0] rfl) hf
  have hL88 : ∀ (v1 : Int32) (v2 : Int32) (ST : ySt), ∀ (H : Heap) (locs : List Loc), va_P X.1 vwCl (wY X ad ST) H → va_S (yA ad) s.heap H locs → ∀ (ls : Array Slot), lv_has ls 5 [(0, .ref (ad 0)), (1, .int v1), (2, .int v2)] → f_MaskEdgesModel_cut_88 v1 v2 ST = some res → W p l e (headSpec (Cond.code y_MaskEdgesModel_cut prog_8_method_16_code 5 (some .int) :: xT) ({ frames := 4, cells := 0, slots := 0, locals := 109 } : Room)).room s m args below meth c H locs 0 0 Q (F0 m 88 ls []) := by
    intro v1 v2 ST H locs hP hS ls hl hf
    unfold f_MaskEdgesModel_cut_88 at hf
    refine lv_iload_n hx hb d_MaskEdgesModel_cut_88 rfl (lv_at hl 2 rfl) ?_
    refine lv_bipush (v := (120 : Int32)) hx hb d_MaskEdgesModel_cut_89 (by decide) ?_
    refine lv_icmp_le (tgt := 97) hx hb d_MaskEdgesModel_cut_91 (by decide) (fun hc => ?_) (fun hc => ?_)
    · replace hf := x_t hc hf
      refine lv_aload_n hx hb d_MaskEdgesModel_cut_97 rfl (lv_at hl 0 rfl) ?_
      refine lv_iconst (v := (0 : Int32)) hx hb d_MaskEdgesModel_cut_98 (by decide) ?_
      refine va_put (D := X.1) (ci := 6) (v := .int (0 : Int32)) (ty := .int) (C := "MaskEdgesModel") (T := F_MaskEdgesModel) (N := 28) hx hb ht in_MaskEdgesModel ty_MaskEdgesModel tyk_MaskEdgesModel nm_MaskEdgesModel hown hK hP (yD hA) hS 0 yg0 rfl 9 (by decide) (ht _ xw_456) (fun _ h9 => h9) rfl (by decide +kernel) rfl rfl (Nat.le_of_ble_eq_true rfl) d_MaskEdgesModel_cut_99 (fun H locs hP _ hS => ?_)
      replace hP : va_P X.1 vwCl (wY X ad (Y_u_pieces ST (0 : Int32))) H := xeq ym_pieces hP
      refine lv_iconst (v := (0 : Int32)) hx hb d_MaskEdgesModel_cut_102 (by decide) ?_
      refine lv_istore_n (lv' := [(3, .int (0 : Int32)), (0, .ref (ad 0)), (1, .int v1), (2, .int v2)]) hx hb d_MaskEdgesModel_cut_103 rfl hl (by decide) rfl (fun ls hl => ?_)
      exact (hL104 100000) v1 (0 : Int32) (Y_u_pieces ST (0 : Int32)) _ _ hP hS ls (lv_sub hl [1, 2, 0] rfl) hf
    · replace hf := x_f hc hf
      refine lv_bipush (v := (-4 : Int32)) hx hb d_MaskEdgesModel_cut_94 (by decide) ?_
      replace hf := x_s hf
      subst hf
      subst hQ
      exact W.iret (v := (-4 : Int32)) hx hb hr (fun t ht hW => ⟨⟨rfl, by rw [ht]; exact hP⟩, hS.F ht⟩) hS.2.2 d_MaskEdgesModel_cut_96
  unfold f_MaskEdgesModel_cut at hf
  refine lv_iload_n hx hb d_MaskEdgesModel_cut_0 rfl (lv_at hl 1 rfl) ?_
  refine lv_i2l hx hb d_MaskEdgesModel_cut_1 rfl ?_
  refine lv_lconst (v := (1 : Int64)) hx hb d_MaskEdgesModel_cut_2 (by decide) ?_
  refine lv_ldc2 (v := (48 : Int64)) hx hb hown (ht _ xw_515) d_MaskEdgesModel_cut_3 ?_
  obtain ⟨c6, e6, hf⟩ := x_b hf
  refine xcR (va_runS (As := [.long v1.toInt64, .long (1 : Int64), .long (48 : Int64)]) (rest := []) ⟨hx, hb, hml, hown, ht⟩ (c_MaskEdgesModel_isBetween l X v1.toInt64 (1 : Int64) (48 : Int64) e6) (cwS 3 ht (xgS xw_512 xw_513 xw_43 xw_514) rfl rfl rfl (by decide +kernel) ⟨Nat.le_of_ble_eq_true rfl, Nat.le_of_ble_eq_true rfl⟩) (xPS hKK) rfl rfl hl.1 rfl (lv_room (Nat.le_of_ble_eq_true rfl)) d_MaskEdgesModel_cut_6 ⟨Nat.zero_le _, Nat.zero_le _⟩) ?_
  refine W.eq (g2 := F0 m 9 ls [.int c6]) rfl ?_
  refine lv_if_ne (tgt := 15) hx hb d_MaskEdgesModel_cut_9 (by decide) (fun hc => ?_) (fun hc => ?_)
  · replace hf := x_f hc hf
    refine lv_aload_n hx hb d_MaskEdgesModel_cut_15 rfl (lv_at hl 0 rfl) ?_
    obtain ⟨c16, e16, hf⟩ := x_b hf
    refine xcR (va_runV (As := []) (rest := []) ⟨hx, hb, hml, hown, ht⟩ (c_MaskEdgesModel_hasClosed l X ad ST hP e16) (cwV 0 ht (xgV xw_530 xw_531 xw_15 xw_43 xw_532) rfl rfl rfl (by decide +kernel) ⟨Nat.le_of_ble_eq_true rfl, Nat.le_of_ble_eq_true rfl⟩) (xPV hKK (va_recv hK hP (ci := 6) (q0 := 0) rfl yg0)) rfl rfl hl.1 rfl (lv_room (Nat.le_of_ble_eq_true rfl)) d_MaskEdgesModel_cut_16 ⟨Nat.zero_le _, Nat.zero_le _⟩) ?_
    refine W.eq (g2 := F0 m 19 ls [.int c16]) rfl ?_
    refine lv_if_ne (tgt := 25) hx hb d_MaskEdgesModel_cut_19 (by decide) (fun hc => ?_) (fun hc => ?_)
    · replace hf := x_f hc hf
      refine lv_iconst (v := (0 : Int32)) hx hb d_MaskEdgesModel_cut_25 (by decide) ?_
      refine lv_istore_n (lv' := [(2, .int (0 : Int32)), (0, .ref (ad 0)), (1, .int v1)]) hx hb d_MaskEdgesModel_cut_26 rfl hl (by decide) rfl (fun ls hl => ?_)
      refine lv_iconst (v := (0 : Int32)) hx hb d_MaskEdgesModel_cut_27 (by decide) ?_
      refine lv_istore_n (lv' := [(3, .int (0 : Int32)), (2, .int (0 : Int32)), (0, .ref (ad 0)), (1, .int v1)]) hx hb d_MaskEdgesModel_cut_28 rfl hl (by decide) rfl (fun ls hl => ?_)
      exact (hL29 _ hL88 100000) v1 (0 : Int32) (0 : Int32) ST _ _ hP hS ls (lv_sub hl [2, 3, 1, 0] rfl) hf
    · replace hf := x_t hc hf
      refine lv_bipush (v := (-3 : Int32)) hx hb d_MaskEdgesModel_cut_22 (by decide) ?_
      replace hf := x_s hf
      subst hf
      subst hQ
      exact W.iret (v := (-3 : Int32)) hx hb hr (fun t ht hW => ⟨⟨rfl, by rw [ht]; exact hP⟩, hS.F ht⟩) hS.2.2 d_MaskEdgesModel_cut_24
  · replace hf := x_t hc hf
    refine lv_bipush (v := (-2 : Int32)) hx hb d_MaskEdgesModel_cut_12 (by decide) ?_
    replace hf := x_s hf
    subst hf
    subst hQ
    exact W.iret (v := (-2 : Int32)) hx hb hr (fun t ht hW => ⟨⟨rfl, by rw [ht]; exact hP⟩, hS.F ht⟩) hS.2.2 d_MaskEdgesModel_cut_14
def f_MaskEdgesModel_put (v1 : Int32) (v2 : Int32) (v3 : Int32) (ST : ySt) : Option (ySt) :=
  (f_MaskEdgesModel_isCell v1 v2).bind fun c2 =>
  if c2 = 0 then
  some ST
else
  if xin (((48 : Int32) * v2) + v1) 2304 = true then
    some (Y_u_mask ST (upd (Y_mask ST) (((48 : Int32) * v2) + v1).toNatClampNeg (vp_nar .boolean v3)))
  else none
set_option maxHeartbeats 4000000 in
set_option maxRecDepth 100000 in
theorem c_MaskEdgesModel_put (l : Launch) (X : xG) {H : Heap} (ad : Nat → Nat) (ST : ySt) (v1 : Int32) (v2 : Int32) (v3 : Int32) {res : ySt} (hP : va_P X.1 vwCl (wY X ad ST) H) (hA : okB ad) (hf : f_MaskEdgesModel_put v1 v2 v3 ST = some res) : xM l y_MaskEdgesModel_put (Cond.code y_MaskEdgesModel_put prog_8_method_17_code 4 none :: xT) ({ frames := 2, cells := 0, slots := 0, locals := 46 } : Room) (xK X) [.ref (ad 0), .int v1, .int v2, .int v3] H (yA ad) none (fun H1 => va_P X.1 vwCl (wY X ad res) H1) := by
  refine Met.ofW (cc := prog_8_method_17_code) (maxL := 4) (ret := none) (by decide) rfl ?_
  intro p e s m args below meth c s₁ B hml hv
  obtain ⟨ha, hH, hKK⟩ := hv
  subst hH
  have hx := B.exec
  have hb := B.bytes
  have hr := B.returns
  have ht : ∀ w ∈ xT, w.before args s = true := fun w h => atoms_spec (ws := (Cond.code y_MaskEdgesModel_put prog_8_method_17_code 4 none :: xT)) B.pre w (List.mem_cons_of_mem _ h)
  have hown : s.vm.findClass "MaskEdgesModel" = some m.cls := findClass_of_methodNamed B.named
  have hlocks := B.notSynchronized
  have hK := hKK.1
  rw [show entryFrame m args 4 = entryFrame m ([.ref (ad 0), .int v1, .int v2, .int v3] : List Value).toArray 4 from by rw [ha]]
  clear ha
  have hS : va_S (yA ad) s.heap s.heap [] := va_S.rf
  have hl := lv_entry ([.ref (ad 0), .int v1, .int v2, .int v3]) (n := 4) (Nat.le_of_ble_eq_true rfl)
  rw [lg_entry_eq]
  generalize (lg_sl ([.ref (ad 0), .int v1, .int v2, .int v3]) ++ List.replicate (4 - (lg_sl ([.ref (ad 0), .int v1, .int v2, .int v3])).length) Slot.unset).toArray = ls at hl ⊢
  replace hl : lv_has ls 4 [(0, .ref (ad 0)), (1, .int v1), (2, .int v2), (3, .int v3)] := hl
  refine x_Q (fun Q hQ => ?_)
  unfold f_MaskEdgesModel_put at hf
  refine lv_iload_n hx hb d_MaskEdgesModel_put_0 rfl (lv_at hl 1 rfl) ?_
  refine lv_iload_n hx hb d_MaskEdgesModel_put_1 rfl (lv_at hl 2 rfl) ?_
  obtain ⟨c2, e2, hf⟩ := x_b hf
  refine xcR (va_runS (As := [.int v1, .int v2]) (rest := []) ⟨hx, hb, hml, hown, ht⟩ (c_MaskEdgesModel_isCell l X v1 v2 e2) (cwS 2 ht (xgS xw_551 xw_552 xw_43 xw_553) rfl rfl rfl (by decide +kernel) ⟨Nat.le_of_ble_eq_true rfl, Nat.le_of_ble_eq_true rfl⟩) (xPS hKK) rfl rfl hl.1 rfl (lv_room (Nat.le_of_ble_eq_true rfl)) d_MaskEdgesModel_put_2 ⟨Nat.zero_le _, Nat.zero_le _⟩) ?_
  refine W.eq (g2 := F0 m 5 ls [.int c2]) rfl ?_
  refine lv_if_eq (tgt := 20) hx hb d_MaskEdgesModel_put_5 (by decide) (fun hc => ?_) (fun hc => ?_)
  · replace hf := x_t hc hf
    replace hf := x_s hf
    subst hf
    subst hQ
    exact W.vret hx hb hr (fun t ht hW => ⟨⟨rfl, by rw [ht]; exact hP⟩, hS.F ht⟩) hS.2.2 d_MaskEdgesModel_put_20
  · replace hf := x_f hc hf
    refine lv_aload_n hx hb d_MaskEdgesModel_put_8 rfl (lv_at hl 0 rfl) ?_
    refine va_get (D := X.1) (ci := 6) (v := .ref (ad 20)) (C := "MaskEdgesModel") (T := F_MaskEdgesModel) (N := 28) hx hb ht in_MaskEdgesModel hown hK hP 0 yg0 rfl 24 (by decide) (ht _ xw_471) (fun _ h9 => h9) rfl d_MaskEdgesModel_put_9 ?_
    refine lv_bipush (v := (48 : Int32)) hx hb d_MaskEdgesModel_put_12 (by decide) ?_
    refine lv_iload_n hx hb d_MaskEdgesModel_put_14 rfl (lv_at hl 2 rfl) ?_
    refine lv_imul hx hb d_MaskEdgesModel_put_15 ?_
    refine lv_iload_n hx hb d_MaskEdgesModel_put_16 rfl (lv_at hl 1 rfl) ?_
    refine lv_iadd hx hb d_MaskEdgesModel_put_17 ?_
    refine lv_iload_n hx hb d_MaskEdgesModel_put_18 rfl (lv_at hl 3 rfl) ?_
    obtain ⟨g19, hf⟩ := x_g hf
    refine va_zast hx hb hK hP (yD hA) hS 20 5 yg20 rfl (xin_in g19) d_MaskEdgesModel_put_19 (fun H locs hP _ hS => ?_)
    replace hP : va_P X.1 vwCl (wY X ad (Y_u_mask ST (upd (Y_mask ST) (((48 : Int32) * v2) + v1).toNatClampNeg (vp_nar .boolean v3)))) H := xeq ym_mask hP
    replace hf := x_s hf
    subst hf
    subst hQ
    exact W.vret hx hb hr (fun t ht hW => ⟨⟨rfl, by rw [ht]; exact hP⟩, hS.F ht⟩) hS.2.2 d_MaskEdgesModel_put_20
