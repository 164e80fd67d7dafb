def f_CellSet_has (o0 : t_CellSet) (v1 : Int32) (v2 : Int32) : Option (Int32) :=
  (f_MaskEdges_onGrid v1 v2).bind fun c2 =>
  if c2 = 0 then
  some (0 : Int32)
else
  if xin v2 48 = true then
    if (lg_cmp ((CellSet_rows o0 v2.toNatClampNeg) &&& ((1 : Int64) <<< (v1.toInt64 &&& 63))) (0 : Int64)) = 0 then
      some (0 : Int32)
    else
      some (1 : Int32)
  else none
set_option maxHeartbeats 4000000 in
set_option maxRecDepth 100000 in
theorem c_CellSet_has (l : Launch) (X : xG) {H : Heap} (h0 a0_0 : Nat) (o0 : t_CellSet) (v1 : Int32) (v2 : Int32) {res : Int32} (hP0 : va_P X.1 vwCl (w_CellSet X h0 a0_0 o0) H) (hf : f_CellSet_has o0 v1 v2 = some res) : xM l y_CellSet_has (Cond.code y_CellSet_has prog_3_method_2_code 3 (some .boolean) :: xT) ({ frames := 1, cells := 0, slots := 0, locals := 21 } : Room) (xK X) [.ref h0, .int v1, .int v2] H xNo (some (.int res)) (fun H1 => H1 = H) := by
  refine Met.ofW (cc := prog_3_method_2_code) (maxL := 3) (ret := (some .boolean)) (by decide) rfl ?_
  intro p e s m args below meth c s₁ B hml hv
  obtain ⟨ha, hH, hKK⟩ := hv
  subst hH
  have hx := B.exec
  have hb := B.bytes
  have hr := B.returns
  have ht : ∀ w ∈ xT, w.before args s = true := fun w h => atoms_spec (ws := (Cond.code y_CellSet_has prog_3_method_2_code 3 (some .boolean) :: xT)) B.pre w (List.mem_cons_of_mem _ h)
  have hown : s.vm.findClass "MaskEdges$CellSet" = some m.cls := findClass_of_methodNamed B.named
  have hlocks := B.notSynchronized
  have hK := hKK.1
  rw [show entryFrame m args 3 = entryFrame m ([.ref h0, .int v1, .int v2] : List Value).toArray 3 from by rw [ha]]
  clear ha
  have hl := lv_entry ([.ref h0, .int v1, .int v2]) (n := 3) (Nat.le_of_ble_eq_true rfl)
  rw [lg_entry_eq]
  generalize (lg_sl ([.ref h0, .int v1, .int v2]) ++ List.replicate (3 - (lg_sl ([.ref h0, .int v1, .int v2])).length) Slot.unset).toArray = ls at hl ⊢
  replace hl : lv_has ls 3 [(0, .ref h0), (1, .int v1), (2, .int v2)] := hl
  refine x_Q (fun Q hQ => ?_)
  unfold f_CellSet_has at hf
  refine lv_iload_n hx hb d_CellSet_has_0 rfl (lv_at hl 1 rfl) ?_
  refine lv_iload_n hx hb d_CellSet_has_1 rfl (lv_at hl 2 rfl) ?_
  obtain ⟨c2, e2, hf⟩ := x_b hf
  refine xcR (va_runSN (As := [.int v1, .int v2]) (rest := []) ⟨hx, hb, hml, hown, ht⟩ (c_MaskEdges_onGrid l X v1 v2 e2) ⟨va_cnB 2 ht (xgC xw_225) rfl rfl rfl (hKK.2 _ xn_5) (ht _ xw_37) (by decide +kernel) ⟨Nat.le_of_ble_eq_true rfl, Nat.le_of_ble_eq_true rfl⟩, ht _ xw_224, trivial⟩ (xPS hKK) rfl rfl hl.1 rfl (lv_room (Nat.le_of_ble_eq_true rfl)) d_CellSet_has_2 ⟨Nat.zero_le _, Nat.zero_le _⟩) ?_
  refine W.eq (g2 := F0 m 5 ls [.int c2]) rfl ?_
  refine lv_if_eq (tgt := 27) hx hb d_CellSet_has_5 (by decide) (fun hc => ?_) (fun hc => ?_)
  · replace hf := x_t hc hf
    refine lv_iconst (v := (0 : Int32)) hx hb d_CellSet_has_27 (by decide) ?_
    replace hf := x_s hf
    subst hf
    subst hQ
    exact W.zret (v := (0 : Int32)) hx hb hr (xz_n (by decide)) (fun t ht hW => ⟨⟨rfl, ht⟩, x_F0 ht⟩) x_l0 d_CellSet_has_28
  · replace hf := x_f hc hf
    refine lv_aload_n hx hb d_CellSet_has_8 rfl (lv_at hl 0 rfl) ?_
    refine va_get (D := X.1) (ci := 1) (v := .ref a0_0) (C := "MaskEdges$CellSet") (T := F_CellSet) (N := 1) hx hb ht in_CellSet hown hK hP0 0 rfl rfl 0 (by decide) (ht _ xw_62) (fun _ h9 => h9) rfl d_CellSet_has_9 ?_
    refine lv_iload_n hx hb d_CellSet_has_12 rfl (lv_at hl 2 rfl) ?_
    obtain ⟨g13, hf⟩ := x_g hf
    refine va_lald hx hb hK hP0 1 1 rfl rfl (xin_in g13) d_CellSet_has_13 ?_
    refine lv_lconst (v := (1 : Int64)) hx hb d_CellSet_has_14 (by decide) ?_
    refine lv_iload_n hx hb d_CellSet_has_15 rfl (lv_at hl 1 rfl) ?_
    refine lv_lshl hx hb d_CellSet_has_16 rfl ?_
    refine lv_land hx hb d_CellSet_has_17 ?_
    refine lv_lconst (v := (0 : Int64)) hx hb d_CellSet_has_18 (by decide) ?_
    refine W.lcmp hx hb d_CellSet_has_19 ?_
    refine lv_if_eq (tgt := 27) hx hb d_CellSet_has_20 (by decide) (fun hc => ?_) (fun hc => ?_)
    · replace hf := x_t hc hf
      refine lv_iconst (v := (0 : Int32)) hx hb d_CellSet_has_27 (by decide) ?_
      replace hf := x_s hf
      subst hf
      subst hQ
      exact W.zret (v := (0 : Int32)) hx hb hr (xz_n (by decide)) (fun t ht hW => ⟨⟨rfl, ht⟩, x_F0 ht⟩) x_l0 d_CellSet_has_28
    · replace hf := x_f hc hf
      refine lv_iconst (v := (1 : Int32)) hx hb d_CellSet_has_23 (by decide) ?_
      refine lv_goto (tgt := 28) hx hb d_CellSet_has_24 (by decide) ?_
      replace hf := x_s hf
      subst hf
      subst hQ
      exact W.zret (v := (1 : Int32)) hx hb hr (xz_n (by decide)) (fun t ht hW => ⟨⟨rfl, ht⟩, x_F0 ht⟩) x_l0 d_CellSet_has_28
def f_CellSet_add (v1 : Int32) (v2 : Int32) (o0 : t_CellSet) : Option (t_CellSet) :=
  (f_MaskEdges_onGrid v1 v2).bind fun c2 =>
  if c2 = 0 then
  some o0
else
  if xin v2 48 = true then
    if xin v2 48 = true then
      some (CellSet_u_rows o0 (vp_updL (CellSet_rows o0) v2.toNatClampNeg ((CellSet_rows o0 v2.toNatClampNeg) ||| ((1 : Int64) <<< (v1.toInt64 &&& 63)))))
    else none
  else none
set_option maxHeartbeats 4000000 in
set_option maxRecDepth 100000 in
theorem c_CellSet_add (l : Launch) (X : xG) {H : Heap} (h0 a0_0 : Nat) (o0 : t_CellSet) (v1 : Int32) (v2 : Int32) {res : t_CellSet} (hP0 : va_P X.1 vwCl (w_CellSet X h0 a0_0 o0) H) (hnd : [h0, a0_0].Nodup) (hf : f_CellSet_add v1 v2 o0 = some res) : xM l y_CellSet_add (Cond.code y_CellSet_add prog_3_method_3_code 3 none :: xT) ({ frames := 1, cells := 0, slots := 0, locals := 21 } : Room) (xK X) [.ref h0, .int v1, .int v2] H (xAl [h0, a0_0]) none (fun H1 => va_P X.1 vwCl (w_CellSet X h0 a0_0 res) H1) := by
  refine Met.ofW (cc := prog_3_method_3_code) (maxL := 3) (ret := none) (by decide) rfl ?_
  intro p e s m args below meth c s₁ B hml hv
  obtain ⟨ha, hH, hKK⟩ := hv
  subst hH
  have hx := B.exec
  have hb := B.bytes
  have hr := B.returns
  have ht : ∀ w ∈ xT, w.before args s = true := fun w h => atoms_spec (ws := (Cond.code y_CellSet_add prog_3_method_3_code 3 none :: xT)) B.pre w (List.mem_cons_of_mem _ h)
  have hown : s.vm.findClass "MaskEdges$CellSet" = some m.cls := findClass_of_methodNamed B.named
  have hlocks := B.notSynchronized
  have hK := hKK.1
  rw [show entryFrame m args 3 = entryFrame m ([.ref h0, .int v1, .int v2] : List Value).toArray 3 from by rw [ha]]
  clear ha
  have hP := hP0
  have hD : va_D (xAl [h0, a0_0]) (w_CellSet X h0 a0_0 o0) := xDl rfl hnd
  have hS : va_S (xAl [h0, a0_0]) s.heap s.heap [] := va_S.rf
  have hl := lv_entry ([.ref h0, .int v1, .int v2]) (n := 3) (Nat.le_of_ble_eq_true rfl)
  rw [lg_entry_eq]
  generalize (lg_sl ([.ref h0, .int v1, .int v2]) ++ List.replicate (3 - (lg_sl ([.ref h0, .int v1, .int v2])).length) Slot.unset).toArray = ls at hl ⊢
  replace hl : lv_has ls 3 [(0, .ref h0), (1, .int v1), (2, .int v2)] := hl
  refine x_Q (fun Q hQ => ?_)
  unfold f_CellSet_add at hf
  refine lv_iload_n hx hb d_CellSet_add_0 rfl (lv_at hl 1 rfl) ?_
  refine lv_iload_n hx hb d_CellSet_add_1 rfl (lv_at hl 2 rfl) ?_
  obtain ⟨c2, e2, hf⟩ := x_b hf
  refine xcR (va_runSN (As := [.int v1, .int v2]) (rest := []) ⟨hx, hb, hml, hown, ht⟩ (c_MaskEdges_onGrid l X v1 v2 e2) ⟨va_cnB 2 ht (xgC xw_225) rfl rfl rfl (hKK.2 _ xn_5) (ht _ xw_37) (by decide +kernel) ⟨Nat.le_of_ble_eq_true rfl, Nat.le_of_ble_eq_true rfl⟩, ht _ xw_224, trivial⟩ (xPS hKK) rfl rfl hl.1 rfl (lv_room (Nat.le_of_ble_eq_true rfl)) d_CellSet_add_2 ⟨Nat.zero_le _, Nat.zero_le _⟩) ?_
  refine W.eq (g2 := F0 m 5 ls [.int c2]) rfl ?_
  refine lv_if_eq (tgt := 20) hx hb d_CellSet_add_5 (by decide) (fun hc => ?_) (fun hc => ?_)
  · replace hf := x_t hc hf
    replace hf := x_s hf
    subst hf
    subst hQ
    exact W.vret hx hb hr (fun t ht hW => ⟨⟨rfl, by rw [ht]; exact hP⟩, hS.F ht⟩) hS.2.2 d_CellSet_add_20
  · replace hf := x_f hc hf
    refine lv_aload_n hx hb d_CellSet_add_8 rfl (lv_at hl 0 rfl) ?_
    refine va_get (D := X.1) (ci := 1) (v := .ref a0_0) (C := "MaskEdges$CellSet") (T := F_CellSet) (N := 1) hx hb ht in_CellSet hown hK hP 0 rfl rfl 0 (by decide) (ht _ xw_62) (fun _ h9 => h9) rfl d_CellSet_add_9 ?_
    refine lv_iload_n hx hb d_CellSet_add_12 rfl (lv_at hl 2 rfl) ?_
    refine lv_dup2_11 hx hb d_CellSet_add_13 rfl rfl ?_
    obtain ⟨g14, hf⟩ := x_g hf
    refine va_lald hx hb hK hP 1 1 rfl rfl (xin_in g14) d_CellSet_add_14 ?_
    refine lv_lconst (v := (1 : Int64)) hx hb d_CellSet_add_15 (by decide) ?_
    refine lv_iload_n hx hb d_CellSet_add_16 rfl (lv_at hl 1 rfl) ?_
    refine lv_lshl hx hb d_CellSet_add_17 rfl ?_
    refine lv_lor hx hb d_CellSet_add_18 ?_
    obtain ⟨g19, hf⟩ := x_g hf
    refine va_last hx hb hK hP hD hS 1 1 rfl rfl (xin_in g19) d_CellSet_add_19 (fun H locs hP hD hS => ?_)
    replace hP : va_P X.1 vwCl (w_CellSet X h0 a0_0 (CellSet_u_rows o0 (vp_updL (CellSet_rows o0) v2.toNatClampNeg ((CellSet_rows o0 v2.toNatClampNeg) ||| ((1 : Int64) <<< (v1.toInt64 &&& 63)))))) H := hP
    replace hD : va_D _ (w_CellSet X h0 a0_0 (CellSet_u_rows o0 (vp_updL (CellSet_rows o0) v2.toNatClampNeg ((CellSet_rows o0 v2.toNatClampNeg) ||| ((1 : Int64) <<< (v1.toInt64 &&& 63)))))) := hD
    replace hf := x_s hf
    subst hf
    subst hQ
    exact W.vret hx hb hr (fun t ht hW => ⟨⟨rfl, by rw [ht]; exact hP⟩, hS.F ht⟩) hS.2.2 d_CellSet_add_20
def f_CellSet_copyFrom_2 (o1 : t_CellSet) (r2 : Int32 → t_CellSet → Option (t_CellSet)) (v2 : Int32) (o0 : t_CellSet) : Option (t_CellSet) :=
  if (48 : Int32) ≤ v2 then
  some o0
else
  if xin v2 48 = true then
    if xin v2 48 = true then
      r2 (v2 + (1 : Int32)) (CellSet_u_rows o0 (vp_updL (CellSet_rows o0) v2.toNatClampNeg (CellSet_rows o1 v2.toNatClampNeg)))
    else none
  else none
def f_CellSet_copyFrom (o1 : t_CellSet) (o0 : t_CellSet) : Option (t_CellSet) :=
  (xloop (fun r => f_CellSet_copyFrom_2 o1 r) (fun _ _ => none) 100000) (0 : Int32) o0
set_option maxHeartbeats 4000000 in
set_option maxRecDepth 100000 in
theorem c_CellSet_copyFrom (l : Launch) (X : xG) {H : Heap} (h0 a0_0 : Nat) (o0 : t_CellSet) (h1 a1_0 : Nat) (o1 : t_CellSet) {res : t_CellSet} (hP0 : va_P X.1 vwCl (w_CellSet X h0 a0_0 o0) H) (hP1 : va_P X.1 vwCl (w_CellSet X h1 a1_0 o1) H) (hnd : [h0, a0_0].Nodup) (hno1 : ∀ q ∈ [h1, a1_0], ¬ xAl [h0, a0_0] q) (hf : f_CellSet_copyFrom o1 o0 = some res) : xM l y_CellSet_copyFrom (Cond.code y_CellSet_copyFrom prog_3_method_4_code 3 none :: xT) ({ frames := 0, cells := 0, slots := 0, locals := 0 } : Room) (xK X) [.ref h0, .ref h1] H (xAl [h0, a0_0]) none (fun H1 => va_P X.1 vwCl (w_CellSet X h0 a0_0 res) H1) := by
  refine Met.ofW (cc := prog_3_method_4_code) (maxL := 3) (ret := none) (by decide) rfl ?_
  intro p e s m args below meth c s₁ B hml hv
  obtain ⟨ha, hH, hKK⟩ := hv
  subst hH
  have hx := B.exec
  have hb := B.bytes
  have hr := B.returns
  have ht : ∀ w ∈ xT, w.before args s = true := fun w h => atoms_spec (ws := (Cond.code y_CellSet_copyFrom prog_3_method_4_code 3 none :: xT)) B.pre w (List.mem_cons_of_mem _ h)
  have hown : s.vm.findClass "MaskEdges$CellSet" = some m.cls := findClass_of_methodNamed B.named
  have hlocks := B.notSynchronized
  have hK := hKK.1
  rw [show entryFrame m args 3 = entryFrame m ([.ref h0, .ref h1] : List Value).toArray 3 from by rw [ha]]
  clear ha
  have hP := hP0
  have hD : va_D (xAl [h0, a0_0]) (w_CellSet X h0 a0_0 o0) := xDl rfl hnd
  have hS : va_S (xAl [h0, a0_0]) s.heap s.heap [] := va_S.rf
  have hl := lv_entry ([.ref h0, .ref h1]) (n := 3) (Nat.le_of_ble_eq_true rfl)
  rw [lg_entry_eq]
  generalize (lg_sl ([.ref h0, .ref h1]) ++ List.replicate (3 - (lg_sl ([.ref h0, .ref h1])).length) Slot.unset).toArray = ls at hl ⊢
  replace hl : lv_has ls 3 [(0, .ref h0), (1, .ref h1)] := hl
  refine x_Q (fun Q hQ => ?_)
  have hL2 : ∀ (n : Nat), ∀ (v2 : Int32) (o0 : t_CellSet), ∀ (H : Heap) (locs : List Loc), va_P X.1 vwCl (w_CellSet X h0 a0_0 o0) H → va_S (xAl [h0, a0_0]) s.heap H locs → ∀ (ls : Array Slot), lv_has ls 3 [(0, .ref h0), (1, .ref h1), (2, .int v2)] → (xloop (fun r => f_CellSet_copyFrom_2 o1 r) (fun _ _ => none) n) v2 o0 = some res → W p l e (headSpec (Cond.code y_CellSet_copyFrom prog_3_method_4_code 3 none :: xT) ({ frames := 0, cells := 0, slots := 0, locals := 0 } : Room)).room s m args below meth c H locs 0 0 Q (F0 m 2 ls []) := by
    intro n
    induction n with
    | zero => intro v2 o0 H locs hP hS ls hl hf; cases hf
    | succ n ih =>
      intro v2 o0 H locs hP hS ls hl hf
      replace hf : f_CellSet_copyFrom_2 o1 (xloop (fun r => f_CellSet_copyFrom_2 o1 r) (fun _ _ => none) n) v2 o0 = some res := hf
      have hr2 := ih
      clear ih
      unfold f_CellSet_copyFrom_2 at hf
      have hD : va_D (xAl [h0, a0_0]) (w_CellSet X h0 a0_0 o0) := xDl rfl hnd
      refine lv_iload_n hx hb d_CellSet_copyFrom_2 rfl (lv_at hl 2 rfl) ?_
      refine lv_bipush (v := (48 : Int32)) hx hb d_CellSet_copyFrom_3 (by decide) ?_
      refine lv_icmp_ge (tgt := 26) hx hb d_CellSet_copyFrom_5 (by decide) (fun hc => ?_) (fun hc => ?_)
      · replace hf := x_t hc hf
        replace hf := x_s hf
        subst hf
        subst hQ
        exact W.vret hx hb hr (fun t ht hW => ⟨⟨rfl, by rw [ht]; exact hP⟩, hS.F ht⟩) hS.2.2 d_CellSet_copyFrom_26
      · replace hf := x_f hc hf
        refine lv_aload_n hx hb d_CellSet_copyFrom_8 rfl (lv_at hl 0 rfl) ?_
        refine va_get (D := X.1) (ci := 1) (v := .ref a0_0) (C := "MaskEdges$CellSet") (T := F_CellSet) (N := 1) hx hb ht in_CellSet hown hK hP 0 rfl rfl 0 (by decide) (ht _ xw_62) (fun _ h9 => h9) rfl d_CellSet_copyFrom_9 ?_
        refine lv_iload_n hx hb d_CellSet_copyFrom_12 rfl (lv_at hl 2 rfl) ?_
        refine lv_aload_n hx hb d_CellSet_copyFrom_13 rfl (lv_at hl 1 rfl) ?_
        refine va_get (D := X.1) (ci := 1) (v := .ref a1_0) (C := "MaskEdges$CellSet") (T := F_CellSet) (N := 1) hx hb ht in_CellSet hown hK (xkept hP1 hno1 hS) 0 rfl rfl 0 (by decide) (ht _ xw_62) (fun _ h9 => h9) rfl d_CellSet_copyFrom_14 ?_
        refine lv_iload_n hx hb d_CellSet_copyFrom_17 rfl (lv_at hl 2 rfl) ?_
        obtain ⟨g18, hf⟩ := x_g hf
        refine va_lald hx hb hK (xkept hP1 hno1 hS) 1 1 rfl rfl (xin_in g18) d_CellSet_copyFrom_18 ?_
        obtain ⟨g19, hf⟩ := x_g hf
        refine va_last hx hb hK hP hD hS 1 1 rfl rfl (xin_in g19) d_CellSet_copyFrom_19 (fun H locs hP hD hS => ?_)
        replace hP : va_P X.1 vwCl (w_CellSet X h0 a0_0 (CellSet_u_rows o0 (vp_updL (CellSet_rows o0) v2.toNatClampNeg (CellSet_rows o1 v2.toNatClampNeg)))) H := hP
        replace hD : va_D _ (w_CellSet X h0 a0_0 (CellSet_u_rows o0 (vp_updL (CellSet_rows o0) v2.toNatClampNeg (CellSet_rows o1 v2.toNatClampNeg)))) := hD
        refine lv_iinc (v := (v2 + (1 : Int32))) (lv' := [(2, .int (v2 + (1 : Int32))), (0, .ref h0), (1, .ref h1)]) hx hb d_CellSet_copyFrom_20 hl (k := 2) rfl rfl (by decide) rfl (fun ls hl => ?_)
        refine lv_goto (tgt := 2) hx hb d_CellSet_copyFrom_23 (by decide) ?_
        exact hr2 (v2 + (1 : Int32)) (CellSet_u_rows o0 (vp_updL (CellSet_rows o0) v2.toNatClampNeg (CellSet_rows o1 v2.toNatClampNeg))) _ _ hP hS ls (lv_sub hl [1, 2, 0] rfl) hf
  unfold f_CellSet_copyFrom at hf
  refine lv_iconst (v := (0 : Int32)) hx hb d_CellSet_copyFrom_0 (by decide) ?_
  refine lv_istore_n (lv' := [(2, .int (0 : Int32)), (0, .ref h0), (1, .ref h1)]) hx hb d_CellSet_copyFrom_1 rfl hl (by decide) rfl (fun ls hl => ?_)
  exact (hL2 100000) (0 : Int32) o0 _ _ hP hS ls (lv_sub hl [1, 2, 0] rfl) hf
def f_CellSet_addAll_2 (o1 : t_CellSet) (r2 : Int32 → t_CellSet → Option (t_CellSet)) (v2 : Int32) (o0 : t_CellSet) : Option (t_CellSet) :=
  if (48 : Int32) ≤ v2 then
  some o0
else
  if xin v2 48 = true then
    if xin v2 48 = true then
      if xin v2 48 = true then
        r2 (v2 + (1 : Int32)) (CellSet_u_rows o0 (vp_updL (CellSet_rows o0) v2.toNatClampNeg ((CellSet_rows o0 v2.toNatClampNeg) ||| (CellSet_rows o1 v2.toNatClampNeg))))
      else none
    else none
  else none
def f_CellSet_addAll (o1 : t_CellSet) (o0 : t_CellSet) : Option (t_CellSet) :=
  (xloop (fun r => f_CellSet_addAll_2 o1 r) (fun _ _ => none) 100000) (0 : Int32) o0
set_option maxHeartbeats 4000000 in
set_option maxRecDepth 100000 in
theorem c_CellSet_addAll (l : Launch) (X : xG) {H : Heap} (h0 a0_0 : Nat) (o0 : t_CellSet) (h1 a1_0 : Nat) (o1 : t_CellSet) {res : t_CellSet} (hP0 : va_P X.1 vwCl (w_CellSet X h0 a0_0 o0) H) (hP1 : va_P X.1 vwCl (w_CellSet X h1 a1_0 o1) H) (hnd : [h0, a0_0].Nodup) (hno1 : ∀ q ∈ [h1, a1_0], ¬ xAl [h0, a0_0] q) (hf : f_CellSet_addAll o1 o0 = some res) : xM l y_CellSet_addAll (Cond.code y_CellSet_addAll prog_3_method_5_code 3 none :: xT) ({ frames := 0, cells := 0, slots := 0, locals := 0 } : Room) (xK X) [.ref h0, .ref h1] H (xAl [h0, a0_0]) none (fun H1 => va_P X.1 vwCl (w_CellSet X h0 a0_0 res) H1) := by
  refine Met.ofW (cc := prog_3_method_5_code) (maxL := 3) (ret := none) (by decide) rfl ?_
  intro p e s m args below meth c s₁ B hml hv
  obtain ⟨ha, hH, hKK⟩ := hv
  subst hH
  have hx := B.exec
  have hb := B.bytes
  have hr := B.returns
  have ht : ∀ w ∈ xT, w.before args s = true := fun w h => atoms_spec (ws := (Cond.code y_CellSet_addAll prog_3_method_5_code 3 none :: xT)) B.pre w (List.mem_cons_of_mem _ h)
  have hown : s.vm.findClass "MaskEdges$CellSet" = some m.cls := findClass_of_methodNamed B.named
  have hlocks := B.notSynchronized
  have hK := hKK.1
  rw [show entryFrame m args 3 = entryFrame m ([.ref h0, .ref h1] : List Value).toArray 3 from by rw [ha]]
  clear ha
  have hP := hP0
  have hD : va_D (xAl [h0, a0_0]) (w_CellSet X h0 a0_0 o0) := xDl rfl hnd
  have hS : va_S (xAl [h0, a0_0]) s.heap s.heap [] := va_S.rf
  have hl := lv_entry ([.ref h0, .ref h1]) (n := 3) (Nat.le_of_ble_eq_true rfl)
  rw [lg_entry_eq]
  generalize (lg_sl ([.ref h0, .ref h1]) ++ List.replicate (3 - (lg_sl ([.ref h0, .ref h1])).length) Slot.unset).toArray = ls at hl ⊢
  replace hl : lv_has ls 3 [(0, .ref h0), (1, .ref h1)] := hl
  refine x_Q (fun Q hQ => ?_)
  have hL2 : ∀ (n : Nat), ∀ (v2 : Int32) (o0 : t_CellSet), ∀ (H : Heap) (locs : List Loc), va_P X.1 vwCl (w_CellSet X h0 a0_0 o0) H → va_S (xAl [h0, a0_0]) s.heap H locs → ∀ (ls : Array Slot), lv_has ls 3 [(0, .ref h0), (1, .ref h1), (2, .int v2)] → (xloop (fun r => f_CellSet_addAll_2 o1 r) (fun _ _ => none) n) v2 o0 = some res → W p l e (headSpec (Cond.code y_CellSet_addAll prog_3_method_5_code 3 none :: xT) ({ frames := 0, cells := 0, slots := 0, locals := 0 } : Room)).room s m args below meth c H locs 0 0 Q (F0 m 2 ls []) := by
    intro n
    induction n with
    | zero => intro v2 o0 H locs hP hS ls hl hf; cases hf
    | succ n ih =>
      intro v2 o0 H locs hP hS ls hl hf
      replace hf : f_CellSet_addAll_2 o1 (xloop (fun r => f_CellSet_addAll_2 o1 r) (fun _ _ => none) n) v2 o0 = some res := hf
      have hr2 := ih
      clear ih
      unfold f_CellSet_addAll_2 at hf
      have hD : va_D (xAl [h0, a0_0]) (w_CellSet X h0 a0_0 o0) := xDl rfl hnd
      refine lv_iload_n hx hb d_CellSet_addAll_2 rfl (lv_at hl 2 rfl) ?_
      refine lv_bipush (v := (48 : Int32)) hx hb d_CellSet_addAll_3 (by decide) ?_
      refine lv_icmp_ge (tgt := 29) hx hb d_CellSet_addAll_5 (by decide) (fun hc => ?_) (fun hc => ?_)
      · replace hf := x_t hc hf
        replace hf := x_s hf
        subst hf
        subst hQ
        exact W.vret hx hb hr (fun t ht hW => ⟨⟨rfl, by rw [ht]; exact hP⟩, hS.F ht⟩) hS.2.2 d_CellSet_addAll_29
      · replace hf := x_f hc hf
        refine lv_aload_n hx hb d_CellSet_addAll_8 rfl (lv_at hl 0 rfl) ?_
        refine va_get (D := X.1) (ci := 1) (v := .ref a0_0) (C := "MaskEdges$CellSet") (T := F_CellSet) (N := 1) hx hb ht in_CellSet hown hK hP 0 rfl rfl 0 (by decide) (ht _ xw_62) (fun _ h9 => h9) rfl d_CellSet_addAll_9 ?_
        refine lv_iload_n hx hb d_CellSet_addAll_12 rfl (lv_at hl 2 rfl) ?_
        refine lv_dup2_11 hx hb d_CellSet_addAll_13 rfl rfl ?_
        obtain ⟨g14, hf⟩ := x_g hf
        refine va_lald hx hb hK hP 1 1 rfl rfl (xin_in g14) d_CellSet_addAll_14 ?_
        refine lv_aload_n hx hb d_CellSet_addAll_15 rfl (lv_at hl 1 rfl) ?_
        refine va_get (D := X.1) (ci := 1) (v := .ref a1_0) (C := "MaskEdges$CellSet") (T := F_CellSet) (N := 1) hx hb ht in_CellSet hown hK (xkept hP1 hno1 hS) 0 rfl rfl 0 (by decide) (ht _ xw_62) (fun _ h9 => h9) rfl d_CellSet_addAll_16 ?_
        refine lv_iload_n hx hb d_CellSet_addAll_19 rfl (lv_at hl 2 rfl) ?_
        obtain ⟨g20, hf⟩ := x_g hf
        refine va_lald hx hb hK (xkept hP1 hno1 hS) 1 1 rfl rfl (xin_in g20) d_CellSet_addAll_20 ?_
        refine lv_lor hx hb d_CellSet_addAll_21 ?_
        obtain ⟨g22, hf⟩ := x_g hf
        refine va_last hx hb hK hP hD hS 1 1 rfl rfl (xin_in g22) d_CellSet_addAll_22 (fun H locs hP hD hS => ?_)
        replace hP : va_P X.1 vwCl (w_CellSet X h0 a0_0 (CellSet_u_rows o0 (vp_updL (CellSet_rows o0) v2.toNatClampNeg ((CellSet_rows o0 v2.toNatClampNeg) ||| (CellSet_rows o1 v2.toNatClampNeg))))) H := hP
        replace hD : va_D _ (w_CellSet X h0 a0_0 (CellSet_u_rows o0 (vp_updL (CellSet_rows o0) v2.toNatClampNeg ((CellSet_rows o0 v2.toNatClampNeg) ||| (CellSet_rows o1 v2.toNatClampNeg))))) := hD
        refine lv_iinc (v := (v2 + (1 : Int32))) (lv' := [(2, .int (v2 + (1 : Int32))), (0, .ref h0), (1, .ref h1)]) hx hb d_CellSet_addAll_23 hl (k := 2) rfl rfl (by decide) rfl (fun ls hl => ?_)
        refine lv_goto (tgt := 2) hx hb d_CellSet_addAll_26 (by decide) ?_
        exact hr2 (v2 + (1 : Int32)) (CellSet_u_rows o0 (vp_updL (CellSet_rows o0) v2.toNatClampNeg ((CellSet_rows o0 v2.toNatClampNeg) ||| (CellSet_rows o1 v2.toNatClampNeg)))) _ _ hP hS ls (lv_sub hl [1, 2, 0] rfl) hf
  unfold f_CellSet_addAll at hf
  refine lv_iconst (v := (0 : Int32)) hx hb d_CellSet_addAll_0 (by decide) ?_
  refine lv_istore_n (lv' := [(2, .int (0 : Int32)), (0, .ref h0), (1, .ref h1)]) hx hb d_CellSet_addAll_1 rfl hl (by decide) rfl (fun ls hl => ?_)
  exact (hL2 100000) (0 : Int32) o0 _ _ hP hS ls (lv_sub hl [1, 2, 0] rfl) hf
def f_CellSet_addBox_33 (o1 : t_Box) (r33 : Int64 → Int32 → Int32 → t_CellSet → Option (t_CellSet)) (v2 : Int64) (v4 : Int32) (v5 : Int32) (o0 : t_CellSet) : Option (t_CellSet) :=
  if v4 ≤ v5 then
  some o0
else
  if xin v5 48 = true then
    if xin v5 48 = true then
      r33 v2 v4 (v5 + (1 : Int32)) (CellSet_u_rows o0 (vp_updL (CellSet_rows o0) v5.toNatClampNeg ((CellSet_rows o0 v5.toNatClampNeg) ||| v2)))
    else none
  else none
def f_CellSet_addBox (o1 : t_Box) (o0 : t_CellSet) : Option (t_CellSet) :=
  (f_MaskEdges_columnBits (Box_left o1) (Box_right o1)).bind fun c8 =>
  (xloop (fun r => f_CellSet_addBox_33 o1 r) (fun _ _ _ _ => none) 100000) c8 (if (48 : Int32) < (Box_bottom o1) then (48 : Int32) else (Box_bottom o1)) (if (Box_top o1) < (0 : Int32) then (0 : Int32) else (Box_top o1)) o0
set_option maxHeartbeats 4000000 in
set_option maxRecDepth 100000 in
theorem c_CellSet_addBox (l : Launch) (X : xG) {H : Heap} (h0 a0_0 : Nat) (o0 : t_CellSet) (h1 : Nat) (o1 : t_Box) {res : t_CellSet} (hP0 : va_P X.1 vwCl (w_CellSet X h0 a0_0 o0) H) (hP1 : va_P X.1 vwCl (w_Box X h1 o1) H) (hnd : [h0, a0_0].Nodup) (hno1 : ∀ q ∈ [h1], ¬ xAl [h0, a0_0] q) (hf : f_CellSet_addBox o1 o0 = some res) : xM l y_CellSet_addBox (Cond.code y_CellSet_addBox prog_3_method_6_code 6 none :: xT) ({ frames := 1, cells := 0, slots := 0, locals := 23 } : Room) (xK X) [.ref h0, .ref h1] H (xAl [h0, a0_0]) none (fun H1 => va_P X.1 vwCl (w_CellSet X h0 a0_0 res) H1) := by
  refine Met.ofW (cc := prog_3_method_6_code) (maxL := 6) (ret := none) (by decide) rfl ?_
  intro p e s m args below meth c s₁ B hml hv
  obtain ⟨ha, hH, hKK⟩ := hv
  subst hH
  have hx := B.exec
  have hb := B.bytes
  have hr := B.returns
  have ht : ∀ w ∈ xT, w.before args s = true := fun w h => atoms_spec (ws := (Cond.code y_CellSet_addBox prog_3_method_6_code 6 none :: xT)) B.pre w (List.mem_cons_of_mem _ h)
  have hown : s.vm.findClass "MaskEdges$CellSet" = some m.cls := findClass_of_methodNamed B.named
  have hlocks := B.notSynchronized
  have hK := hKK.1
  rw [show entryFrame m args 6 = entryFrame m ([.ref h0, .ref h1] : List Value).toArray 6 from by rw [ha]]
  clear ha
  have hP := hP0
  have hD : va_D (xAl [h0, a0_0]) (w_CellSet X h0 a0_0 o0) := xDl rfl hnd
  have hS : va_S (xAl [h0, a0_0]) s.heap s.heap [] := va_S.rf
  have hl := lv_entry ([.ref h0, .ref h1]) (n := 6) (Nat.le_of_ble_eq_true rfl)
  rw [lg_entry_eq]
  generalize (lg_sl ([.ref h0, .ref h1]) ++ List.replicate (6 - (lg_sl ([.ref h0, .ref h1])).length) Slot.unset).toArray = ls at hl ⊢
  replace hl : lv_has ls 6 [(0, .ref h0), (1, .ref h1)] := hl
  refine x_Q (fun Q hQ => ?_)
  have hL33 : ∀ (n : Nat), ∀ (v2 : Int64) (v4 : Int32) (v5 : Int32) (o0 : t_CellSet), ∀ (H : Heap) (locs : List Loc), va_P X.1 vwCl (w_CellSet X h0 a0_0 o0) H → va_S (xAl [h0, a0_0]) s.heap H locs → ∀ (ls : Array Slot), lv_has ls 6 [(0, .ref h0), (2, .long v2), (4, .int v4), (5, .int v5)] → (xloop (fun r => f_CellSet_addBox_33 o1 r) (fun _ _ _ _ => none) n) v2 v4 v5 o0 = some res → W p l e (headSpec (Cond.code y_CellSet_addBox prog_3_method_6_code 6 none :: xT) ({ frames := 1, cells := 0, slots := 0, locals := 23 } : Room)).room s m args below meth c H locs 0 0 Q (F0 m 33 ls []) := by
    intro n
    induction n with
    | zero => intro v2 v4 v5 o0 H locs hP hS ls hl hf; cases hf
    | succ n ih =>
      intro v2 v4 v5 o0 H locs hP hS ls hl hf
      replace hf : f_CellSet_addBox_33 o1 (xloop (fun r => f_CellSet_addBox_33 o1 r) (fun _ _ _ _ => none) n) v2 v4 v5 o0 = some res := hf
      have hr33 := ih
      clear ih
      unfold f_CellSet_addBox_33 at hf
      have hD : va_D (xAl [h0, a0_0]) (w_CellSet X h0 a0_0 o0) := xDl rfl hnd
      refine lv_iload hx hb d_CellSet_addBox_33 (lv_at hl 3 rfl) ?_
      refine lv_iload hx hb d_CellSet_addBox_35 (lv_at hl 2 rfl) ?_
      refine lv_icmp_ge (tgt := 57) hx hb d_CellSet_addBox_37 (by decide) (fun hc => ?_) (fun hc => ?_)
      · replace hf := x_t hc hf
        replace hf := x_s hf
        subst hf
        subst hQ
        exact W.vret hx hb hr (fun t ht hW => ⟨⟨rfl, by rw [ht]; exact hP⟩, hS.F ht⟩) hS.2.2 d_CellSet_addBox_57
      · replace hf := x_f hc hf
        refine lv_aload_n hx hb d_CellSet_addBox_40 rfl (lv_at hl 0 rfl) ?_
        refine va_get (D := X.1) (ci := 1) (v := .ref a0_0) (C := "MaskEdges$CellSet") (T := F_CellSet) (N := 1) hx hb ht in_CellSet hown hK hP 0 rfl rfl 0 (by decide) (ht _ xw_62) (fun _ h9 => h9) rfl d_CellSet_addBox_41 ?_
        refine lv_iload hx hb d_CellSet_addBox_44 (lv_at hl 3 rfl) ?_
        refine lv_dup2_11 hx hb d_CellSet_addBox_46 rfl rfl ?_
        obtain ⟨g47, hf⟩ := x_g hf
        refine va_lald hx hb hK hP 1 1 rfl rfl (xin_in g47) d_CellSet_addBox_47 ?_
        refine lv_lload_n hx hb d_CellSet_addBox_48 rfl (lv_at hl 1 rfl) ?_
        refine lv_lor hx hb d_CellSet_addBox_49 ?_
        obtain ⟨g50, hf⟩ := x_g hf
        refine va_last hx hb hK hP hD hS 1 1 rfl rfl (xin_in g50) d_CellSet_addBox_50 (fun H locs hP hD hS => ?_)
        replace hP : va_P X.1 vwCl (w_CellSet X h0 a0_0 (CellSet_u_rows o0 (vp_updL (CellSet_rows o0) v5.toNatClampNeg ((CellSet_rows o0 v5.toNatClampNeg) ||| v2)))) H := hP
        replace hD : va_D _ (w_CellSet X h0 a0_0 (CellSet_u_rows o0 (vp_updL (CellSet_rows o0) v5.toNatClampNeg ((CellSet_rows o0 v5.toNatClampNeg) ||| v2)))) := hD
        refine lv_iinc (v := (v5 + (1 : Int32))) (lv' := [(5, .int (v5 + (1 : Int32))), (0, .ref h0), (2, .long v2), (4, .int v4)]) hx hb d_CellSet_addBox_51 hl (k := 3) rfl rfl (by decide) rfl (fun ls hl => ?_)
        refine lv_goto (tgt := 33) hx hb d_CellSet_addBox_54 (by decide) ?_
        exact hr33 v2 v4 (v5 + (1 : Int32)) (CellSet_u_rows o0 (vp_updL (CellSet_rows o0) v5.toNatClampNeg ((CellSet_rows o0 v5.toNatClampNeg) ||| v2))) _ _ hP hS ls (lv_sub hl [1, 2, 3, 0] rfl) hf
  unfold f_CellSet_addBox at hf
  refine lv_aload_n hx hb d_CellSet_addBox_0 rfl (lv_at hl 1 rfl) ?_
  refine va_get (D := X.1) (ci := 0) (v := .int (Box_left o1)) (C := "MaskEdges$Box") (T := F_Box) (N := 4) hx hb ht in_Box hown hK (xkept hP1 hno1 hS) 0 rfl rfl 0 (by decide) (ht _ xw_85) (fun _ h9 => h9) rfl d_CellSet_addBox_1 ?_
  refine lv_aload_n hx hb d_CellSet_addBox_4 rfl (lv_at hl 1 rfl) ?_
  refine va_get (D := X.1) (ci := 0) (v := .int (Box_right o1)) (C := "MaskEdges$Box") (T := F_Box) (N := 4) hx hb ht in_Box hown hK (xkept hP1 hno1 hS) 0 rfl rfl 2 (by decide) (ht _ xw_91) (fun _ h9 => h9) rfl d_CellSet_addBox_5 ?_
  obtain ⟨c8, e8, hf⟩ := x_b hf
  refine xcR (va_runSN (As := [.int (Box_left o1), .int (Box_right o1)]) (rest := []) ⟨hx, hb, hml, hown, ht⟩ (c_MaskEdges_columnBits l X (Box_left o1) (Box_right o1) e8) ⟨va_cnB 2 ht (xgC xw_247) rfl rfl rfl (hKK.2 _ xn_6) (ht _ xw_37) (by decide +kernel) ⟨Nat.le_of_ble_eq_true rfl, Nat.le_of_ble_eq_true rfl⟩, ht _ xw_246, trivial⟩ (xPS hKK) rfl rfl hl.1 rfl (lv_room (Nat.le_of_ble_eq_true rfl)) d_CellSet_addBox_8 ⟨Nat.zero_le _, Nat.zero_le _⟩) ?_
  refine W.eq (g2 := F0 m 11 ls [.long c8]) rfl ?_
  refine lv_lstore_n (lv' := [(2, .long c8), (0, .ref h0), (1, .ref h1)]) hx hb d_CellSet_addBox_11 rfl hl (by decide) rfl (fun ls hl => ?_)
  refine lv_aload_n hx hb d_CellSet_addBox_12 rfl (lv_at hl 2 rfl) ?_
  refine va_get (D := X.1) (ci := 0) (v := .int (Box_bottom o1)) (C := "MaskEdges$Box") (T := F_Box) (N := 4) hx hb ht in_Box hown hK (xkept hP1 hno1 hS) 0 rfl rfl 3 (by decide) (ht _ xw_94) (fun _ h9 => h9) rfl d_CellSet_addBox_13 ?_
  refine lv_bipush (v := (48 : Int32)) hx hb d_CellSet_addBox_16 (by decide) ?_
  refine va_mmin hx hb (hml.trans hl.1.symm) hown (ht _ xw_248) (ht _ xw_215) (ht _ xw_44) (ht _ xw_math_min) (Nat.le_of_ble_eq_true rfl) (Nat.le_of_ble_eq_true rfl) (Nat.zero_le _) (Nat.zero_le _) d_CellSet_addBox_18 ?_
  refine lv_istore (lv' := [(4, .int (if (48 : Int32) < (Box_bottom o1) then (48 : Int32) else (Box_bottom o1))), (2, .long c8), (0, .ref h0), (1, .ref h1)]) hx hb d_CellSet_addBox_21 hl (by decide) rfl (fun ls hl => ?_)
  refine lv_aload_n hx hb d_CellSet_addBox_23 rfl (lv_at hl 3 rfl) ?_
  refine va_get (D := X.1) (ci := 0) (v := .int (Box_top o1)) (C := "MaskEdges$Box") (T := F_Box) (N := 4) hx hb ht in_Box hown hK (xkept hP1 hno1 hS) 0 rfl rfl 1 (by decide) (ht _ xw_88) (fun _ h9 => h9) rfl d_CellSet_addBox_24 ?_
  refine lv_iconst (v := (0 : Int32)) hx hb d_CellSet_addBox_27 (by decide) ?_
  refine va_mmax hx hb (hml.trans hl.1.symm) hown (ht _ xw_249) (ht _ xw_218) (ht _ xw_44) (ht _ xw_math_max) (Nat.le_of_ble_eq_true rfl) (Nat.le_of_ble_eq_true rfl) (Nat.zero_le _) (Nat.zero_le _) d_CellSet_addBox_28 ?_
  refine lv_istore (lv' := [(5, .int (if (Box_top o1) < (0 : Int32) then (0 : Int32) else (Box_top o1))), (4, .int (if (48 : Int32) < (Box_bottom o1) then (48 : Int32) else (Box_bottom o1))), (2, .long c8), (0, .ref h0), (1, .ref h1)]) hx hb d_CellSet_addBox_31 hl (by decide) rfl (fun ls hl => ?_)
  exact (hL33 100000) c8 (if (48 : Int32) < (Box_bottom o1) then (48 : Int32) else (Box_bottom o1)) (if (Box_top o1) < (0 : Int32) then (0 : Int32) else (Box_top o1)) o0 _ _ hP hS ls (lv_sub hl [3, 2, 1, 0] rfl) hf
def f_CellSet_removeBox_37 (o1 : t_Box) (r37 : Int64 → Int32 → Int32 → t_CellSet → Option (t_CellSet)) (v2 : Int64) (v4 : Int32) (v5 : Int32) (o0 : t_CellSet) : Option (t_CellSet) :=
  if v4 ≤ v5 then
  some o0
else
  if xin v5 48 = true then
    if xin v5 48 = true then
      r37 v2 v4 (v5 + (1 : Int32)) (CellSet_u_rows o0 (vp_updL (CellSet_rows o0) v5.toNatClampNeg ((CellSet_rows o0 v5.toNatClampNeg) &&& v2)))
    else none
  else none
def f_CellSet_removeBox (o1 : t_Box) (o0 : t_CellSet) : Option (t_CellSet) :=
  (f_MaskEdges_columnBits (Box_left o1) (Box_right o1)).bind fun c8 =>
  (xloop (fun r => f_CellSet_removeBox_37 o1 r) (fun _ _ _ _ => none) 100000) (c8 ^^^ (-1 : Int64)) (if (48 : Int32) < (Box_bottom o1) then (48 : Int32) else (Box_bottom o1)) (if (Box_top o1) < (0 : Int32) then (0 : Int32) else (Box_top o1)) o0
set_option maxHeartbeats 4000000 in
set_option maxRecDepth 100000 in
theorem c_CellSet_removeBox (l : Launch) (X : xG) {H : Heap} (h0 a0_0 : Nat) (o0 : t_CellSet) (h1 : Nat) (o1 : t_Box) {res : t_CellSet} (hP0 : va_P X.1 vwCl (w_CellSet X h0 a0_0 o0) H) (hP1 : va_P X.1 vwCl (w_Box X h1 o1) H) (hnd : [h0, a0_0].Nodup) (hno1 : ∀ q ∈ [h1], ¬ xAl [h0, a0_0] q) (hf : f_CellSet_removeBox o1 o0 = some res) : xM l y_CellSet_removeBox (Cond.code y_CellSet_removeBox prog_3_method_7_code 6 none :: xT) ({ frames := 1, cells := 0, slots := 0, locals := 23 } : Room) (xK X) [.ref h0, .ref h1] H (xAl [h0, a0_0]) none (fun H1 => va_P X.1 vwCl (w_CellSet X h0 a0_0 res) H1) := by
  refine Met.ofW (cc := prog_3_method_7_code) (maxL := 6) (ret := none) (by decide) rfl ?_
  intro p e s m args below meth c s₁ B hml hv
  obtain ⟨ha, hH, hKK⟩ := hv
  subst hH
  have hx := B.exec
  have hb := B.bytes
  have hr := B.returns
  have ht : ∀ w ∈ xT, w.before args s = true := fun w h => atoms_spec (ws := (Cond.code y_CellSet_removeBox prog_3_method_7_code 6 none :: xT)) B.pre w (List.mem_cons_of_mem _ h)
  have hown : s.vm.findClass "MaskEdges$CellSet" = some m.cls := findClass_of_methodNamed B.named
  have hlocks := B.notSynchronized
  have hK := hKK.1
  rw [show entryFrame m args 6 = entryFrame m ([.ref h0, .ref h1] : List Value).toArray 6 from by rw [ha]]
  clear ha
  have hP := hP0
  have hD : va_D (xAl [h0, a0_0]) (w_CellSet X h0 a0_0 o0) := xDl rfl hnd
  have hS : va_S (xAl [h0, a0_0]) s.heap s.heap [] := va_S.rf
  have hl := lv_entry ([.ref h0, .ref h1]) (n := 6) (Nat.le_of_ble_eq_true rfl)
  rw [lg_entry_eq]
  generalize (lg_sl ([.ref h0, .ref h1]) ++ List.replicate (6 - (lg_sl ([.ref h0, .ref h1])).length) Slot.unset).toArray = ls at hl ⊢
  replace hl : lv_has ls 6 [(0, .ref h0), (1, .ref h1)] := hl
  refine x_Q (fun Q hQ => ?_)
  have hL37 : ∀ (n : Nat), ∀ (v2 : Int64) (v4 : Int32) (v5 : Int32) (o0 : t_CellSet), ∀ (H : Heap) (locs : List Loc), va_P X.1 vwCl (w_CellSet X h0 a0_0 o0) H → va_S (xAl [h0, a0_0]) s.heap H locs → ∀ (ls : Array Slot), lv_has ls 6 [(0, .ref h0), (2, .long v2), (4, .int v4), (5, .int v5)] → (xloop (fun r => f_CellSet_removeBox_37 o1 r) (fun _ _ _ _ => none) n) v2 v4 v5 o0 = some res → W p l e (headSpec (Cond.code y_CellSet_removeBox prog_3_method_7_code 6 none :: xT) ({ frames := 1, cells := 0, slots := 0, locals := 23 } : Room)).room s m args below meth c H locs 0 0 Q (F0 m 37 ls []) := by
    intro n
    induction n with
    | zero => intro v2 v4 v5 o0 H locs hP hS ls hl hf; cases hf
    | succ n ih =>
      intro v2 v4 v5 o0 H locs hP hS ls hl hf
      replace hf : f_CellSet_removeBox_37 o1 (xloop (fun r => f_CellSet_removeBox_37 o1 r) (fun _ _ _ _ => none) n) v2 v4 v5 o0 = some res := hf
      have hr37 := ih
      clear ih
      unfold f_CellSet_removeBox_37 at hf
      have hD : va_D (xAl [h0, a0_0]) (w_CellSet X h0 a0_0 o0) := xDl rfl hnd
      refine lv_iload hx hb d_CellSet_removeBox_37 (lv_at hl 3 rfl) ?_
      refine lv_iload hx hb d_CellSet_removeBox_39 (lv_at hl 2 rfl) ?_
      refine lv_icmp_ge (tgt := 61) hx hb d_CellSet_removeBox_41 (by decide) (fun hc => ?_) (fun hc => ?_)
      · replace hf := x_t hc hf
        replace hf := x_s hf
        subst hf
        subst hQ
        exact W.vret hx hb hr (fun t ht hW => ⟨⟨rfl, by rw [ht]; exact hP⟩, hS.F ht⟩) hS.2.2 d_CellSet_removeBox_61
      · replace hf := x_f hc hf
        refine lv_aload_n hx hb d_CellSet_removeBox_44 rfl (lv_at hl 0 rfl) ?_
        refine va_get (D := X.1) (ci := 1) (v := .ref a0_0) (C := "MaskEdges$CellSet") (T := F_CellSet) (N := 1) hx hb ht in_CellSet hown hK hP 0 rfl rfl 0 (by decide) (ht _ xw_62) (fun _ h9 => h9) rfl d_CellSet_removeBox_45 ?_
        refine lv_iload hx hb d_CellSet_removeBox_48 (lv_at hl 3 rfl) ?_
        refine lv_dup2_11 hx hb d_CellSet_removeBox_50 rfl rfl ?_
        obtain ⟨g51, hf⟩ := x_g hf
        refine va_lald hx hb hK hP 1 1 rfl rfl (xin_in g51) d_CellSet_removeBox_51 ?_
        refine lv_lload_n hx hb d_CellSet_removeBox_52 rfl (lv_at hl 1 rfl) ?_
        refine lv_land hx hb d_CellSet_removeBox_53 ?_
        obtain ⟨g54, hf⟩ := x_g hf
        refine va_last hx hb hK hP hD hS 1 1 rfl rfl (xin_in g54) d_CellSet_removeBox_54 (fun H locs hP hD hS => ?_)
        replace hP : va_P X.1 vwCl (w_CellSet X h0 a0_0 (CellSet_u_rows o0 (vp_updL (CellSet_rows o0) v5.toNatClampNeg ((CellSet_rows o0 v5.toNatClampNeg) &&& v2)))) H := hP
        replace hD : va_D _ (w_CellSet X h0 a0_0 (CellSet_u_rows o0 (vp_updL (CellSet_rows o0) v5.toNatClampNeg ((CellSet_rows o0 v5.toNatClampNeg) &&& v2)))) := hD
        refine lv_iinc (v := (v5 + (1 : Int32))) (lv' := [(5, .int (v5 + (1 : Int32))), (0, .ref h0), (2, .long v2), (4, .int v4)]) hx hb d_CellSet_removeBox_55 hl (k := 3) rfl rfl (by decide) rfl (fun ls hl => ?_)
        refine lv_goto (tgt := 37) hx hb d_CellSet_removeBox_58 (by decide) ?_
        exact hr37 v2 v4 (v5 + (1 : Int32)) (CellSet_u_rows o0 (vp_updL (CellSet_rows o0) v5.toNatClampNeg ((CellSet_rows o0 v5.toNatClampNeg) &&& v2))) _ _ hP hS ls (lv_sub hl [1, 2, 3, 0] rfl) hf
  unfold f_CellSet_removeBox at hf
  refine lv_aload_n hx hb d_CellSet_removeBox_0 rfl (lv_at hl 1 rfl) ?_
  refine va_get (D := X.1) (ci := 0) (v := .int (Box_left o1)) (C := "MaskEdges$Box") (T := F_Box) (N := 4) hx hb ht in_Box hown hK (xkept hP1 hno1 hS) 0 rfl rfl 0 (by decide) (ht _ xw_85) (fun _ h9 => h9) rfl d_CellSet_removeBox_1 ?_
  refine lv_aload_n hx hb d_CellSet_removeBox_4 rfl (lv_at hl 1 rfl) ?_
  refine va_get (D := X.1) (ci := 0) (v := .int (Box_right o1)) (C := "MaskEdges$Box") (T := F_Box) (N := 4) hx hb ht in_Box hown hK (xkept hP1 hno1 hS) 0 rfl rfl 2 (by decide) (ht _ xw_91) (fun _ h9 => h9) rfl d_CellSet_removeBox_5 ?_
  obtain ⟨c8, e8, hf⟩ := x_b hf
  refine xcR (va_runSN (As := [.int (Box_left o1), .int (Box_right o1)]) (rest := []) ⟨hx, hb, hml, hown, ht⟩ (c_MaskEdges_columnBits l X (Box_left o1) (Box_right o1) e8) ⟨va_cnB 2 ht (xgC xw_247) rfl rfl rfl (hKK.2 _ xn_6) (ht _ xw_37) (by decide +kernel) ⟨Nat.le_of_ble_eq_true rfl, Nat.le_of_ble_eq_true rfl⟩, ht _ xw_246, trivial⟩ (xPS hKK) rfl rfl hl.1 rfl (lv_room (Nat.le_of_ble_eq_true rfl)) d_CellSet_removeBox_8 ⟨Nat.zero_le _, Nat.zero_le _⟩) ?_
  refine W.eq (g2 := F0 m 11 ls [.long c8]) rfl ?_
  refine lv_ldc2 (v := (-1 : Int64)) hx hb hown (ht _ xw_254) d_CellSet_removeBox_11 ?_
  refine lv_lxor hx hb d_CellSet_removeBox_14 ?_
  refine lv_lstore_n (lv' := [(2, .long (c8 ^^^ (-1 : Int64))), (0, .ref h0), (1, .ref h1)]) hx hb d_CellSet_removeBox_15 rfl hl (by decide) rfl (fun ls hl => ?_)
  refine lv_aload_n hx hb d_CellSet_removeBox_16 rfl (lv_at hl 2 rfl) ?_
  refine va_get (D := X.1) (ci := 0) (v := .int (Box_bottom o1)) (C := "MaskEdges$Box") (T := F_Box) (N := 4) hx hb ht in_Box hown hK (xkept hP1 hno1 hS) 0 rfl rfl 3 (by decide) (ht _ xw_94) (fun _ h9 => h9) rfl d_CellSet_removeBox_17 ?_
  refine lv_bipush (v := (48 : Int32)) hx hb d_CellSet_removeBox_20 (by decide) ?_
  refine va_mmin hx hb (hml.trans hl.1.symm) hown (ht _ xw_248) (ht _ xw_215) (ht _ xw_44) (ht _ xw_math_min) (Nat.le_of_ble_eq_true rfl) (Nat.le_of_ble_eq_true rfl) (Nat.zero_le _) (Nat.zero_le _) d_CellSet_removeBox_22 ?_
  refine lv_istore (lv' := [(4, .int (if (48 : Int32) < (Box_bottom o1) then (48 : Int32) else (Box_bottom o1))), (2, .long (c8 ^^^ (-1 : Int64))), (0, .ref h0), (1, .ref h1)]) hx hb d_CellSet_removeBox_25 hl (by decide) rfl (fun ls hl => ?_)
  refine lv_aload_n hx hb d_CellSet_removeBox_27 rfl (lv_at hl 3 rfl) ?_
  refine va_get (D := X.1) (ci := 0) (v := .int (Box_top o1)) (C := "MaskEdges$Box") (T := F_Box) (N := 4) hx hb ht in_Box hown hK (xkept hP1 hno1 hS) 0 rfl rfl 1 (by decide) (ht _ xw_88) (fun _ h9 => h9) rfl d_CellSet_removeBox_28 ?_
  refine lv_iconst (v := (0 : Int32)) hx hb d_CellSet_removeBox_31 (by decide) ?_
  refine va_mmax hx hb (hml.trans hl.1.symm) hown (ht _ xw_249) (ht _ xw_218) (ht _ xw_44) (ht _ xw_math_max) (Nat.le_of_ble_eq_true rfl) (Nat.le_of_ble_eq_true rfl) (Nat.zero_le _) (Nat.zero_le _) d_CellSet_removeBox_32 ?_
  refine lv_istore (lv' := [(5, .int (if (Box_top o1) < (0 : Int32) then (0 : Int32) else (Box_top o1))), (4, .int (if (48 : Int32) < (Box_bottom o1) then (48 : Int32) else (Box_bottom o1))), (2, .long (c8 ^^^ (-1 : Int64))), (0, .ref h0), (1, .ref h1)]) hx hb d_CellSet_removeBox_35 hl (by decide) rfl (fun ls hl => ?_)
  exact (hL37 100000) (c8 ^^^ (-1 : Int64)) (if (48 : Int32) < (Box_bottom o1) then (48 : Int32) else (Box_bottom o1)) (if (Box_top o1) < (0 : Int32) then (0 : Int32) else (Box_top o1)) o0 _ _ hP hS ls (lv_sub hl [3, 2, 1, 0] rfl) hf
def f_CellSet_meets_33 (o0 : t_CellSet) (o1 : t_Box) (r33 : Int64 → Int32 → Int32 → Option (Int32)) (v2 : Int64) (v4 : Int32) (v5 : Int32) : Option (Int32) :=
  if v4 ≤ v5 then
  some (0 : Int32)
else
  if xin v5 48 = true then
    if (lg_cmp ((CellSet_rows o0 v5.toNatClampNeg) &&& v2) (0 : Int64)) = 0 then
      r33 v2 v4 (v5 + (1 : Int32))
    else
      some (1 : Int32)
  else none
def f_CellSet_meets (o0 : t_CellSet) (o1 : t_Box) : Option (Int32) :=
  (f_MaskEdges_columnBits (Box_left o1) (Box_right o1)).bind fun c8 =>
  (xloop (fun r => f_CellSet_meets_33 o0 o1 r) (fun _ _ _ => none) 100000) c8 (if (48 : Int32) < (Box_bottom o1) then (48 : Int32) else (Box_bottom o1)) (if (Box_top o1) < (0 : Int32) then (0 : Int32) else (Box_top o1))
set_option maxHeartbeats 4000000 in
set_option maxRecDepth 100000 in
theorem c_CellSet_meets (l : Launch) (X : xG) {H : Heap} (h0 a0_0 : Nat) (o0 : t_CellSet) (h1 : Nat) (o1 : t_Box) {res : Int32} (hP0 : va_P X.1 vwCl (w_CellSet X h0 a0_0 o0) H) (hP1 : va_P X.1 vwCl (w_Box X h1 o1) H) (hf : f_CellSet_meets o0 o1 = some res) : xM l y_CellSet_meets (Cond.code y_CellSet_meets prog_3_method_8_code 6 (some .boolean) :: xT) ({ frames := 1, cells := 0, slots := 0, locals := 23 } : Room) (xK X) [.ref h0, .ref h1] H xNo (some (.int res)) (fun H1 => H1 = H) := by
  refine Met.ofW (cc := prog_3_method_8_code) (maxL := 6) (ret := (some .boolean)) (by decide) rfl ?_
  intro p e s m args below meth c s₁ B hml hv
  obtain ⟨ha, hH, hKK⟩ := hv
  subst hH
  have hx := B.exec
  have hb := B.bytes
  have hr := B.returns
  have ht : ∀ w ∈ xT, w.before args s = true := fun w h => atoms_spec (ws := (Cond.code y_CellSet_meets prog_3_method_8_code 6 (some .boolean) :: xT)) B.pre w (List.mem_cons_of_mem _ h)
  have hown : s.vm.findClass "MaskEdges$CellSet" = some m.cls := findClass_of_methodNamed B.named
  have hlocks := B.notSynchronized
  have hK := hKK.1
  rw [show entryFrame m args 6 = entryFrame m ([.ref h0, .ref h1] : List Value).toArray 6 from by rw [ha]]
  clear ha
  have hl := lv_entry ([.ref h0, .ref h1]) (n := 6) (Nat.le_of_ble_eq_true rfl)
  rw [lg_entry_eq]
  generalize (lg_sl ([.ref h0, .ref h1]) ++ List.replicate (6 - (lg_sl ([.ref h0, .ref h1])).length) Slot.unset).toArray = ls at hl ⊢
  replace hl : lv_has ls 6 [(0, .ref h0), (1, .ref h1)] := hl
  refine x_Q (fun Q hQ => ?_)
  have hL33 : ∀ (n : Nat), ∀ (v2 : Int64) (v4 : Int32) (v5 : Int32), ∀ (ls : Array Slot), lv_has ls 6 [(0, .ref h0), (2, .long v2), (4, .int v4), (5, .int v5)] → (xloop (fun r => f_CellSet_meets_33 o0 o1 r) (fun _ _ _ => none) n) v2 v4 v5 = some res → W p l e (headSpec (Cond.code y_CellSet_meets prog_3_method_8_code 6 (some .boolean) :: xT) ({ frames := 1, cells := 0, slots := 0, locals := 23 } : Room)).room s m args below meth c s.heap [] 0 0 Q (F0 m 33 ls []) := by
    intro n
    induction n with
    | zero => intro v2 v4 v5 ls hl hf; cases hf
    | succ n ih =>
      intro v2 v4 v5 ls hl hf
      replace hf : f_CellSet_meets_33 o0 o1 (xloop (fun r => f_CellSet_meets_33 o0 o1 r) (fun _ _ _ => none) n) v2 v4 v5 = some res := hf
      have hr33 := ih
      clear ih
      unfold f_CellSet_meets_33 at hf
      refine lv_iload hx hb d_CellSet_meets_33 (lv_at hl 3 rfl) ?_
      refine lv_iload hx hb d_CellSet_meets_35 (lv_at hl 2 rfl) ?_
      refine lv_icmp_ge (tgt := 62) hx hb d_CellSet_meets_37 (by decide) (fun hc => ?_) (fun hc => ?_)
      · replace hf := x_t hc hf
        refine lv_iconst (v := (0 : Int32)) hx hb d_CellSet_meets_62 (by decide) ?_
        replace hf := x_s hf
        subst hf
        subst hQ
        exact W.zret (v := (0 : Int32)) hx hb hr (xz_n (by decide)) (fun t ht hW => ⟨⟨rfl, ht⟩, x_F0 ht⟩) x_l0 d_CellSet_meets_63
      · replace hf := x_f hc hf
        refine lv_aload_n hx hb d_CellSet_meets_40 rfl (lv_at hl 0 rfl) ?_
        refine va_get (D := X.1) (ci := 1) (v := .ref a0_0) (C := "MaskEdges$CellSet") (T := F_CellSet) (N := 1) hx hb ht in_CellSet hown hK hP0 0 rfl rfl 0 (by decide) (ht _ xw_62) (fun _ h9 => h9) rfl d_CellSet_meets_41 ?_
        refine lv_iload hx hb d_CellSet_meets_44 (lv_at hl 3 rfl) ?_
        obtain ⟨g46, hf⟩ := x_g hf
        refine va_lald hx hb hK hP0 1 1 rfl rfl (xin_in g46) d_CellSet_meets_46 ?_
        refine lv_lload_n hx hb d_CellSet_meets_47 rfl (lv_at hl 1 rfl) ?_
        refine lv_land hx hb d_CellSet_meets_48 ?_
        refine lv_lconst (v := (0 : Int64)) hx hb d_CellSet_meets_49 (by decide) ?_
        refine W.lcmp hx hb d_CellSet_meets_50 ?_
        refine lv_if_eq (tgt := 56) hx hb d_CellSet_meets_51 (by decide) (fun hc => ?_) (fun hc => ?_)
        · replace hf := x_t hc hf
          refine lv_iinc (v := (v5 + (1 : Int32))) (lv' := [(5, .int (v5 + (1 : Int32))), (0, .ref h0), (2, .long v2), (4, .int v4)]) hx hb d_CellSet_meets_56 hl (k := 3) rfl rfl (by decide) rfl (fun ls hl => ?_)
          refine lv_goto (tgt := 33) hx hb d_CellSet_meets_59 (by decide) ?_
          exact hr33 v2 v4 (v5 + (1 : Int32))  ls (lv_sub hl [1, 2, 3, 0] rfl) hf
        · replace hf := x_f hc hf
          refine lv_iconst (v := (1 : Int32)) hx hb d_CellSet_meets_54 (by decide) ?_
          replace hf := x_s hf
          subst hf
          subst hQ
          exact W.zret (v := (1 : Int32)) hx hb hr (xz_n (by decide)) (fun t ht hW => ⟨⟨rfl, ht⟩, x_F0 ht⟩) x_l0 d_CellSet_meets_55
  unfold f_CellSet_meets at hf
  refine lv_aload_n hx hb d_CellSet_meets_0 rfl (lv_at hl 1 rfl) ?_
  refine va_get (D := X.1) (ci := 0) (v := .int (Box_left o1)) (C := "MaskEdges$Box") (T := F_Box) (N := 4) hx hb ht in_Box hown hK hP1 0 rfl rfl 0 (by decide) (ht _ xw_85) (fun _ h9 => h9) rfl d_CellSet_meets_1 ?_
  refine lv_aload_n hx hb d_CellSet_meets_4 rfl (lv_at hl 1 rfl) ?_
  refine va_get (D := X.1) (ci := 0) (v := .int (Box_right o1)) (C := "MaskEdges$Box") (T := F_Box) (N := 4) hx hb ht in_Box hown hK hP1 0 rfl rfl 2 (by decide) (ht _ xw_91) (fun _ h9 => h9) rfl d_CellSet_meets_5 ?_
  obtain ⟨c8, e8, hf⟩ := x_b hf
  refine xcR (va_runSN (As := [.int (Box_left o1), .int (Box_right o1)]) (rest := []) ⟨hx, hb, hml, hown, ht⟩ (c_MaskEdges_columnBits l X (Box_left o1) (Box_right o1) e8) ⟨va_cnB 2 ht (xgC xw_247) rfl rfl rfl (hKK.2 _ xn_6) (ht _ xw_37) (by decide +kernel) ⟨Nat.le_of_ble_eq_true rfl, Nat.le_of_ble_eq_true rfl⟩, ht _ xw_246, trivial⟩ (xPS hKK) rfl rfl hl.1 rfl (lv_room (Nat.le_of_ble_eq_true rfl)) d_CellSet_meets_8 ⟨Nat.zero_le _, Nat.zero_le _⟩) ?_
  refine W.eq (g2 := F0 m 11 ls [.long c8]) rfl ?_
  refine lv_lstore_n (lv' := [(2, .long c8), (0, .ref h0), (1, .ref h1)]) hx hb d_CellSet_meets_11 rfl hl (by decide) rfl (fun ls hl => ?_)
  refine lv_aload_n hx hb d_CellSet_meets_12 rfl (lv_at hl 2 rfl) ?_
  refine va_get (D := X.1) (ci := 0) (v := .int (Box_bottom o1)) (C := "MaskEdges$Box") (T := F_Box) (N := 4) hx hb ht in_Box hown hK hP1 0 rfl rfl 3 (by decide) (ht _ xw_94) (fun _ h9 => h9) rfl d_CellSet_meets_13 ?_
  refine lv_bipush (v := (48 : Int32)) hx hb d_CellSet_meets_16 (by decide) ?_
  refine va_mmin hx hb (hml.trans hl.1.symm) hown (ht _ xw_248) (ht _ xw_215) (ht _ xw_44) (ht _ xw_math_min) (Nat.le_of_ble_eq_true rfl) (Nat.le_of_ble_eq_true rfl) (Nat.zero_le _) (Nat.zero_le _) d_CellSet_meets_18 ?_
  refine lv_istore (lv' := [(4, .int (if (48 : Int32) < (Box_bottom o1) then (48 : Int32) else (Box_bottom o1))), (2, .long c8), (0, .ref h0), (1, .ref h1)]) hx hb d_CellSet_meets_21 hl (by decide) rfl (fun ls hl => ?_)
  refine lv_aload_n hx hb d_CellSet_meets_23 rfl (lv_at hl 3 rfl) ?_
  refine va_get (D := X.1) (ci := 0) (v := .int (Box_top o1)) (C := "MaskEdges$Box") (T := F_Box) (N := 4) hx hb ht in_Box hown hK hP1 0 rfl rfl 1 (by decide) (ht _ xw_88) (fun _ h9 => h9) rfl d_CellSet_meets_24 ?_
  refine lv_iconst (v := (0 : Int32)) hx hb d_CellSet_meets_27 (by decide) ?_
  refine va_mmax hx hb (hml.trans hl.1.symm) hown (ht _ xw_249) (ht _ xw_218) (ht _ xw_44) (ht _ xw_math_max) (Nat.le_of_ble_eq_true rfl) (Nat.le_of_ble_eq_true rfl) (Nat.zero_le _) (Nat.zero_le _) d_CellSet_meets_28 ?_
  refine lv_istore (lv' := [(5, .int (if (Box_top o1) < (0 : Int32) then (0 : Int32) else (Box_top o1))), (4, .int (if (48 : Int32) < (Box_bottom o1) then (48 : Int32) else (Box_bottom o1))), (2, .long c8), (0, .ref h0), (1, .ref h1)]) hx hb d_CellSet_meets_31 hl (by decide) rfl (fun ls hl => ?_)
  exact (hL33 100000) c8 (if (48 : Int32) < (Box_bottom o1) then (48 : Int32) else (Box_bottom o1)) (if (Box_top o1) < (0 : Int32) then (0 : Int32) else (Box_top o1))  ls (lv_sub hl [3, 2, 1, 0] rfl) hf
def f_CellSet_countAround_37 (o0 : t_CellSet) (r37 : Int64 → Int32 → Int32 → Int32 → Option (Int32)) (v4 : Int64) (v6 : Int32) (v7 : Int32) (v8 : Int32) : Option (Int32) :=
  if v6 ≤ v8 then
  some v7
else
  if xin v8 48 = true then
    (f_Long_bitCount ((CellSet_rows o0 v8.toNatClampNeg) &&& v4)).bind fun c56 =>
      r37 v4 v6 (v7 + c56) (v8 + (1 : Int32))
  else none
def f_CellSet_countAround (o0 : t_CellSet) (v1 : Int32) (v2 : Int32) (v3 : Int32) : Option (Int32) :=
  (f_MaskEdges_columnBits (v1 - v3) ((v1 + v3) + (1 : Int32))).bind fun c8 =>
  (xloop (fun r => f_CellSet_countAround_37 o0 r) (fun _ _ _ _ => none) 100000) c8 (if (48 : Int32) < ((v2 + v3) + (1 : Int32)) then (48 : Int32) else ((v2 + v3) + (1 : Int32))) (0 : Int32) (if (v2 - v3) < (0 : Int32) then (0 : Int32) else (v2 - v3))
set_option maxHeartbeats 4000000 in
set_option maxRecDepth 100000 in
theorem c_CellSet_countAround (l : Launch) (X : xG) {H : Heap} (h0 a0_0 : Nat) (o0 : t_CellSet) (v1 : Int32) (v2 : Int32) (v3 : Int32) {res : Int32} (hP0 : va_P X.1 vwCl (w_CellSet X h0 a0_0 o0) H) (hf : f_CellSet_countAround o0 v1 v2 v3 = some res) : xM l y_CellSet_countAround (Cond.code y_CellSet_countAround prog_3_method_9_code 9 (some .int) :: xT) ({ frames := 1, cells := 0, slots := 0, locals := 23 } : Room) (xK X) [.ref h0, .int v1, .int v2, .int v3] H xNo (some (.int res)) (fun H1 => H1 = H) := by
  refine Met.ofW (cc := prog_3_method_9_code) (maxL := 9) (ret := (some .int)) (by decide) rfl ?_
  intro p e s m args below meth c s₁ B hml hv
  obtain ⟨ha, hH, hKK⟩ := hv
  subst hH
  have hx := B.exec
  have hb := B.bytes
  have hr := B.returns
  have ht : ∀ w ∈ xT, w.before args s = true := fun w h => atoms_spec (ws := (Cond.code y_CellSet_countAround prog_3_method_9_code 9 (some .int) :: xT)) B.pre w (List.mem_cons_of_mem _ h)
  have hown : s.vm.findClass "MaskEdges$CellSet" = some m.cls := findClass_of_methodNamed B.named
  have hlocks := B.notSynchronized
  have hK := hKK.1
  rw [show entryFrame m args 9 = entryFrame m ([.ref h0, .int v1, .int v2, .int v3] : List Value).toArray 9 from by rw [ha]]
  clear ha
  have hl := lv_entry ([.ref h0, .int v1, .int v2, .int v3]) (n := 9) (Nat.le_of_ble_eq_true rfl)
  rw [lg_entry_eq]
  generalize (lg_sl ([.ref h0, .int v1, .int v2, .int v3]) ++ List.replicate (9 - (lg_sl ([.ref h0, .int v1, .int v2, .int v3])).length) Slot.unset).toArray = ls at hl ⊢
  replace hl : lv_has ls 9 [(0, .ref h0), (1, .int v1), (2, .int v2), (3, .int v3)] := hl
  refine x_Q (fun Q hQ => ?_)
  have hL37 : ∀ (n : Nat), ∀ (v4 : Int64) (v6 : Int32) (v7 : Int32) (v8 : Int32), ∀ (ls : Array Slot), lv_has ls 9 [(0, .ref h0), (4, .long v4), (6, .int v6), (7, .int v7), (8, .int v8)] → (xloop (fun r => f_CellSet_countAround_37 o0 r) (fun _ _ _ _ => none) n) v4 v6 v7 v8 = some res → W p l e (headSpec (Cond.code y_CellSet_countAround prog_3_method_9_code 9 (some .int) :: xT) ({ frames := 1, cells := 0, slots := 0, locals := 23 } : Room)).room s m args below meth c s.heap [] 0 0 Q (F0 m 37 ls []) := by
    intro n
    induction n with
    | zero => intro v4 v6 v7 v8 ls hl hf; cases hf
    | succ n ih =>
      intro v4 v6 v7 v8 ls hl hf
      replace hf : f_CellSet_countAround_37 o0 (xloop (fun r => f_CellSet_countAround_37 o0 r) (fun _ _ _ _ => none) n) v4 v6 v7 v8 = some res := hf
      have hr37 := ih
      clear ih
      unfold f_CellSet_countAround_37 at hf
      refine lv_iload hx hb d_CellSet_countAround_37 (lv_at hl 4 rfl) ?_
      refine lv_iload hx hb d_CellSet_countAround_39 (lv_at hl 2 rfl) ?_
      refine lv_icmp_ge (tgt := 68) hx hb d_CellSet_countAround_41 (by decide) (fun hc => ?_) (fun hc => ?_)
      · replace hf := x_t hc hf
        refine lv_iload hx hb d_CellSet_countAround_68 (lv_at hl 3 rfl) ?_
        replace hf := x_s hf
        subst hf
        subst hQ
        exact W.iret (v := v7) hx hb hr (fun t ht hW => ⟨⟨rfl, ht⟩, x_F0 ht⟩) x_l0 d_CellSet_countAround_70
      · replace hf := x_f hc hf
        refine lv_iload hx hb d_CellSet_countAround_44 (lv_at hl 3 rfl) ?_
        refine lv_aload_n hx hb d_CellSet_countAround_46 rfl (lv_at hl 0 rfl) ?_
        refine va_get (D := X.1) (ci := 1) (v := .ref a0_0) (C := "MaskEdges$CellSet") (T := F_CellSet) (N := 1) hx hb ht in_CellSet hown hK hP0 0 rfl rfl 0 (by decide) (ht _ xw_62) (fun _ h9 => h9) rfl d_CellSet_countAround_47 ?_
        refine lv_iload hx hb d_CellSet_countAround_50 (lv_at hl 4 rfl) ?_
        obtain ⟨g52, hf⟩ := x_g hf
        refine va_lald hx hb hK hP0 1 1 rfl rfl (xin_in g52) d_CellSet_countAround_52 ?_
        refine lv_lload hx hb d_CellSet_countAround_53 (lv_at hl 1 rfl) ?_
        refine lv_land hx hb d_CellSet_countAround_55 ?_
        obtain ⟨c56, e56, hf⟩ := x_b hf
        refine xcR (va_runS (As := [.long ((CellSet_rows o0 v8.toNatClampNeg) &&& v4)]) (rest := [.int v7]) ⟨hx, hb, hml, hown, ht⟩ (c_Long_bitCount l X ((CellSet_rows o0 v8.toNatClampNeg) &&& v4) e56) ⟨callB_of 1 ht (xgC xw_327) rfl rfl rfl (ht _ xw_45) (ht _ xw_325) (by decide +kernel) ⟨Nat.le_of_ble_eq_true rfl, Nat.le_of_ble_eq_true rfl⟩, ht _ xw_326⟩ (xPS hKK) rfl rfl hl.1 rfl (lv_room (Nat.le_of_ble_eq_true rfl)) d_CellSet_countAround_56 ⟨Nat.zero_le _, Nat.zero_le _⟩) ?_
        refine W.eq (g2 := F0 m 59 ls [.int c56, .int v7]) rfl ?_
        refine lv_iadd hx hb d_CellSet_countAround_59 ?_
        refine lv_istore (lv' := [(7, .int (v7 + c56)), (0, .ref h0), (4, .long v4), (6, .int v6), (8, .int v8)]) hx hb d_CellSet_countAround_60 hl (by decide) rfl (fun ls hl => ?_)
        refine lv_iinc (v := (v8 + (1 : Int32))) (lv' := [(8, .int (v8 + (1 : Int32))), (7, .int (v7 + c56)), (0, .ref h0), (4, .long v4), (6, .int v6)]) hx hb d_CellSet_countAround_62 hl (k := 4) rfl rfl (by decide) rfl (fun ls hl => ?_)
        refine lv_goto (tgt := 37) hx hb d_CellSet_countAround_65 (by decide) ?_
        exact hr37 v4 v6 (v7 + c56) (v8 + (1 : Int32))  ls (lv_sub hl [2, 3, 4, 1, 0] rfl) hf
  unfold f_CellSet_countAround at hf
  refine lv_iload_n hx hb d_CellSet_countAround_0 rfl (lv_at hl 1 rfl) ?_
  refine lv_iload_n hx hb d_CellSet_countAround_1 rfl (lv_at hl 3 rfl) ?_
  refine lv_isub hx hb d_CellSet_countAround_2 ?_
  refine lv_iload_n hx hb d_CellSet_countAround_3 rfl (lv_at hl 1 rfl) ?_
  refine lv_iload_n hx hb d_CellSet_countAround_4 rfl (lv_at hl 3 rfl) ?_
  refine lv_iadd hx hb d_CellSet_countAround_5 ?_
  refine lv_iconst (v := (1 : Int32)) hx hb d_CellSet_countAround_6 (by decide) ?_
  refine lv_iadd hx hb d_CellSet_countAround_7 ?_
  obtain ⟨c8, e8, hf⟩ := x_b hf
  refine xcR (va_runSN (As := [.int (v1 - v3), .int ((v1 + v3) + (1 : Int32))]) (rest := []) ⟨hx, hb, hml, hown, ht⟩ (c_MaskEdges_columnBits l X (v1 - v3) ((v1 + v3) + (1 : Int32)) e8) ⟨va_cnB 2 ht (xgC xw_247) rfl rfl rfl (hKK.2 _ xn_6) (ht _ xw_37) (by decide +kernel) ⟨Nat.le_of_ble_eq_true rfl, Nat.le_of_ble_eq_true rfl⟩, ht _ xw_246, trivial⟩ (xPS hKK) rfl rfl hl.1 rfl (lv_room (Nat.le_of_ble_eq_true rfl)) d_CellSet_countAround_8 ⟨Nat.zero_le _, Nat.zero_le _⟩) ?_
  refine W.eq (g2 := F0 m 11 ls [.long c8]) rfl ?_
  refine lv_lstore (lv' := [(4, .long c8), (0, .ref h0), (1, .int v1), (2, .int v2), (3, .int v3)]) hx hb d_CellSet_countAround_11 hl (by decide) rfl (fun ls hl => ?_)
  refine lv_iload_n hx hb d_CellSet_countAround_13 rfl (lv_at hl 3 rfl) ?_
  refine lv_iload_n hx hb d_CellSet_countAround_14 rfl (lv_at hl 4 rfl) ?_
  refine lv_iadd hx hb d_CellSet_countAround_15 ?_
  refine lv_iconst (v := (1 : Int32)) hx hb d_CellSet_countAround_16 (by decide) ?_
  refine lv_iadd hx hb d_CellSet_countAround_17 ?_
  refine lv_bipush (v := (48 : Int32)) hx hb d_CellSet_countAround_18 (by decide) ?_
  refine va_mmin hx hb (hml.trans hl.1.symm) hown (ht _ xw_248) (ht _ xw_215) (ht _ xw_44) (ht _ xw_math_min) (Nat.le_of_ble_eq_true rfl) (Nat.le_of_ble_eq_true rfl) (Nat.zero_le _) (Nat.zero_le _) d_CellSet_countAround_20 ?_
  refine lv_istore (lv' := [(6, .int (if (48 : Int32) < ((v2 + v3) + (1 : Int32)) then (48 : Int32) else ((v2 + v3) + (1 : Int32)))), (4, .long c8), (0, .ref h0), (1, .int v1), (2, .int v2), (3, .int v3)]) hx hb d_CellSet_countAround_23 hl (by decide) rfl (fun ls hl => ?_)
  refine lv_iconst (v := (0 : Int32)) hx hb d_CellSet_countAround_25 (by decide) ?_
  refine lv_istore (lv' := [(7, .int (0 : Int32)), (6, .int (if (48 : Int32) < ((v2 + v3) + (1 : Int32)) then (48 : Int32) else ((v2 + v3) + (1 : Int32)))), (4, .long c8), (0, .ref h0), (1, .int v1), (2, .int v2), (3, .int v3)]) hx hb d_CellSet_countAround_26 hl (by decide) rfl (fun ls hl => ?_)
  refine lv_iload_n hx hb d_CellSet_countAround_28 rfl (lv_at hl 5 rfl) ?_
  refine lv_iload_n hx hb d_CellSet_countAround_29 rfl (lv_at hl 6 rfl) ?_
  refine lv_isub hx hb d_CellSet_countAround_30 ?_
  refine lv_iconst (v := (0 : Int32)) hx hb d_CellSet_countAround_31 (by decide) ?_
  refine va_mmax hx hb (hml.trans hl.1.symm) hown (ht _ xw_249) (ht _ xw_218) (ht _ xw_44) (ht _ xw_math_max) (Nat.le_of_ble_eq_true rfl) (Nat.le_of_ble_eq_true rfl) (Nat.zero_le _) (Nat.zero_le _) d_CellSet_countAround_32 ?_
  refine lv_istore (lv' := [(8, .int (if (v2 - v3) < (0 : Int32) then (0 : Int32) else (v2 - v3))), (7, .int (0 : Int32)), (6, .int (if (48 : Int32) < ((v2 + v3) + (1 : Int32)) then (48 : Int32) else ((v2 + v3) + (1 : Int32)))), (4, .long c8), (0, .ref h0), (1, .int v1), (2, .int v2), (3, .int v3)]) hx hb d_CellSet_countAround_35 hl (by decide) rfl (fun ls hl => ?_)
  exact (hL37 100000) c8 (if (48 : Int32) < ((v2 + v3) + (1 : Int32)) then (48 : Int32) else ((v2 + v3) + (1 : Int32))) (0 : Int32) (if (v2 - v3) < (0 : Int32) then (0 : Int32) else (v2 - v3))  ls (lv_sub hl [4, 3, 2, 1, 0] rfl) hf
