def f_MaskEdgesModel_putPiece_174 (r116 : Int32 → Int32 → Int32 → Int32 → Int32 → ySt → Option (ySt)) (v1 : Int32) (v2 : Int32) (v3 : Int32) (v5 : Int32) (v6 : Int32) (s0 : Int32) (s1 : Int32) (s2 : Int32) (ST : ySt) : Option (ySt) :=
  (f_MaskEdgesModel_put s2 s1 s0 ST).bind fun c174 =>
  r116 v1 v2 v3 v5 (v6 + (1 : Int32)) c174
def f_MaskEdgesModel_putPiece_160 (r116 : Int32 → Int32 → Int32 → Int32 → Int32 → ySt → Option (ySt)) (v1 : Int32) (v2 : Int32) (v3 : Int32) (v5 : Int32) (v6 : Int32) (s0 : Int32) (s1 : Int32) (ST : ySt) : Option (ySt) :=
  if xin v1 120 = true then
  if (Y_moves ST v1.toNatClampNeg) ≤ 0 then
    (f_MaskEdgesModel_putPiece_174 r116) v1 v2 v3 v5 v6 (0 : Int32) s0 s1 ST
  else
    (f_MaskEdgesModel_putPiece_174 r116) v1 v2 v3 v5 v6 (1 : Int32) s0 s1 ST
else none
def f_MaskEdgesModel_putPiece_144 (r116 : Int32 → Int32 → Int32 → Int32 → Int32 → ySt → Option (ySt)) (v1 : Int32) (v2 : Int32) (v3 : Int32) (v5 : Int32) (v6 : Int32) (s0 : Int32) (ST : ySt) : Option (ySt) :=
  if xin v1 120 = true then
  if (Y_isAlongX ST v1.toNatClampNeg) = 0 then
    (f_MaskEdgesModel_putPiece_160 r116) v1 v2 v3 v5 v6 v6 s0 ST
  else
    (f_MaskEdgesModel_putPiece_160 r116) v1 v2 v3 v5 v6 v5 s0 ST
else none
def f_MaskEdgesModel_putPiece_116 (r116 : Int32 → Int32 → Int32 → Int32 → Int32 → ySt → Option (ySt)) (k183 : Int32 → Int32 → Int32 → ySt → Option (ySt)) (v1 : Int32) (v2 : Int32) (v3 : Int32) (v5 : Int32) (v6 : Int32) (ST : ySt) : Option (ySt) :=
  if xin v1 120 = true then
  if (Y_to ST v1.toNatClampNeg) ≤ v6 then
    k183 v1 v2 v3 ST
  else
    if xin v1 120 = true then
      if (Y_isAlongX ST v1.toNatClampNeg) = 0 then
        (f_MaskEdgesModel_putPiece_144 r116) v1 v2 v3 v5 v6 v5 ST
      else
        (f_MaskEdgesModel_putPiece_144 r116) v1 v2 v3 v5 v6 v6 ST
    else none
else none
def f_MaskEdgesModel_putPiece_183 (r28 : Int32 → Int32 → Int32 → ySt → Option (ySt)) (v1 : Int32) (v2 : Int32) (v3 : Int32) (ST : ySt) : Option (ySt) :=
  r28 v1 v2 (v3 + (1 : Int32)) ST
def f_MaskEdgesModel_putPiece_106 (r28 : Int32 → Int32 → Int32 → ySt → Option (ySt)) (v1 : Int32) (v2 : Int32) (v3 : Int32) (s0 : Int32) (ST : ySt) : Option (ySt) :=
  if xin v1 120 = true then
  (xloop (fun r => f_MaskEdgesModel_putPiece_116 r (f_MaskEdgesModel_putPiece_183 r28)) (fun _ _ _ _ _ _ => none) 100000) v1 v2 v3 s0 (Y_from ST v1.toNatClampNeg) ST
else none
def f_MaskEdgesModel_putPiece_78 (r28 : Int32 → Int32 → Int32 → ySt → Option (ySt)) (v1 : Int32) (v2 : Int32) (v3 : Int32) (s0 : Int32) (ST : ySt) : Option (ySt) :=
  if s0 = 0 then
  if xin v1 120 = true then
    (f_MaskEdgesModel_putPiece_106 r28) v1 v2 v3 (((Y_across ST v1.toNatClampNeg) - (1 : Int32)) - v3) ST
  else none
else
  if xin v1 120 = true then
    (f_MaskEdgesModel_putPiece_106 r28) v1 v2 v3 ((Y_across ST v1.toNatClampNeg) + v3) ST
  else none
def f_MaskEdgesModel_putPiece_70 (r28 : Int32 → Int32 → Int32 → ySt → Option (ySt)) (v1 : Int32) (v2 : Int32) (v3 : Int32) (s0 : Int32) (s1 : Int32) (ST : ySt) : Option (ySt) :=
  if s1 = s0 then
  (f_MaskEdgesModel_putPiece_78 r28) v1 v2 v3 (1 : Int32) ST
else
  (f_MaskEdgesModel_putPiece_78 r28) v1 v2 v3 (0 : Int32) ST
def f_MaskEdgesModel_putPiece_56 (r28 : Int32 → Int32 → Int32 → ySt → Option (ySt)) (v1 : Int32) (v2 : Int32) (v3 : Int32) (s0 : Int32) (ST : ySt) : Option (ySt) :=
  if xin v1 120 = true then
  if (Y_moves ST v1.toNatClampNeg) ≤ 0 then
    (f_MaskEdgesModel_putPiece_70 r28) v1 v2 v3 (0 : Int32) s0 ST
  else
    (f_MaskEdgesModel_putPiece_70 r28) v1 v2 v3 (1 : Int32) s0 ST
else none
def f_MaskEdgesModel_putPiece_28 (r28 : Int32 → Int32 → Int32 → ySt → Option (ySt)) (v1 : Int32) (v2 : Int32) (v3 : Int32) (ST : ySt) : Option (ySt) :=
  if v2 ≤ v3 then
  some ST
else
  if xin v1 120 = true then
    if (Y_out ST v1.toNatClampNeg) = 0 then
      some ST
    else
      if xin v1 120 = true then
        if (Y_out ST v1.toNatClampNeg) ≤ 0 then
          (f_MaskEdgesModel_putPiece_56 r28) v1 v2 v3 (0 : Int32) ST
        else
          (f_MaskEdgesModel_putPiece_56 r28) v1 v2 v3 (1 : Int32) ST
      else none
  else none
def f_MaskEdgesModel_putPiece_25 (v1 : Int32) (s0 : Int32) (ST : ySt) : Option (ySt) :=
  (xloop (fun r => f_MaskEdgesModel_putPiece_28 r) (fun _ _ _ _ => none) 100000) v1 s0 (0 : Int32) ST
def f_MaskEdgesModel_putPiece (v1 : Int32) (ST : ySt) : Option (ySt) :=
  if xin v1 120 = true then
  if 0 ≤ (Y_moves ST v1.toNatClampNeg) then
    if xin v1 120 = true then
      f_MaskEdgesModel_putPiece_25 v1 (Y_moves ST v1.toNatClampNeg) ST
    else none
  else
    if xin v1 120 = true then
      f_MaskEdgesModel_putPiece_25 v1 (-(Y_moves ST v1.toNatClampNeg)) ST
    else none
else none
set_option maxHeartbeats 4000000 in
set_option maxRecDepth 100000 in
theorem c_MaskEdgesModel_putPiece (l : Launch) (X : xG) {H : Heap} (ad : Nat → Nat) (ST : ySt) (v1 : Int32) {res : ySt} (hP : va_P X.1 vwCl (wY X ad ST) H) (hA : okB ad) (hf : f_MaskEdgesModel_putPiece v1 ST = some res) : xM l y_MaskEdgesModel_putPiece (Cond.code y_MaskEdgesModel_putPiece prog_8_method_18_code 7 none :: xT) ({ frames := 3, cells := 0, slots := 0, locals := 69 } : Room) (xK X) [.ref (ad 0), .int v1] H (yA ad) none (fun H1 => va_P X.1 vwCl (wY X ad res) H1) := by
  refine Met.ofW (cc := prog_8_method_18_code) (maxL := 7) (ret := none) (by decide) rfl ?_
  intro p e s m args below meth c s₁ B hml hv
  obtain ⟨ha, hH, hKK⟩ := hv
  subst hH
  have hx := B.exec
  have hb := B.bytes
  have hr := B.returns
  have ht : ∀ w ∈ xT, w.before args s = true := fun w h => atoms_spec (ws := (Cond.code y_MaskEdgesModel_putPiece prog_8_method_18_code 7 none :: xT)) B.pre w (List.mem_cons_of_mem _ h)
  have hown : s.vm.findClass "MaskEdgesModel" = some m.cls := findClass_of_methodNamed B.named
  have hlocks := B.notSynchronized
  have hK := hKK.1
  rw [show entryFrame m args 7 = entryFrame m ([.ref (ad 0), .int v1] : List Value).toArray 7 from by rw [ha]]
  clear ha
  have hS : va_S (yA ad) s.heap s.heap [] := va_S.rf
  have hl := lv_entry ([.ref (ad 0), .int v1]) (n := 7) (Nat.le_of_ble_eq_true rfl)
  rw [lg_entry_eq]
  generalize (lg_sl ([.ref (ad 0), .int v1]) ++ List.replicate (7 - (lg_sl ([.ref (ad 0), .int v1])).length) Slot.unset).toArray = ls at hl ⊢
  replace hl : lv_has ls 7 [(0, .ref (ad 0)), (1, .int v1)] := hl
  refine x_Q (fun Q hQ => ?_)
  have hL174 : ∀ (r116 : Int32 → Int32 → Int32 → Int32 → Int32 → ySt → Option (ySt)) (hr116 : ∀ (v1 : Int32) (v2 : Int32) (v3 : Int32) (v5 : Int32) (v6 : Int32) (ST : ySt), ∀ (H : Heap) (locs : List Loc), va_P X.1 vwCl (wY X ad ST) H → va_S (yA ad) s.heap H locs → ∀ (ls : Array Slot), lv_has ls 7 [(0, .ref (ad 0)), (1, .int v1), (2, .int v2), (3, .int v3), (5, .int v5), (6, .int v6)] → r116 v1 v2 v3 v5 v6 ST = some res → W p l e (headSpec (Cond.code y_MaskEdgesModel_putPiece prog_8_method_18_code 7 none :: xT) ({ frames := 3, cells := 0, slots := 0, locals := 69 } : Room)).room s m args below meth c H locs 0 0 Q (F0 m 116 ls [])), ∀ (v1 : Int32) (v2 : Int32) (v3 : Int32) (v5 : Int32) (v6 : Int32) (s0 : Int32) (s1 : Int32) (s2 : Int32) (ST : ySt), ∀ (H : Heap) (locs : List Loc), va_P X.1 vwCl (wY X ad ST) H → va_S (yA ad) s.heap H locs → ∀ (ls : Array Slot), lv_has ls 7 [(0, .ref (ad 0)), (1, .int v1), (2, .int v2), (3, .int v3), (5, .int v5), (6, .int v6)] → f_MaskEdgesModel_putPiece_174 r116 v1 v2 v3 v5 v6 s0 s1 s2 ST = some res → W p l e (headSpec (Cond.code y_MaskEdgesModel_putPiece prog_8_method_18_code 7 none :: xT) ({ frames := 3, cells := 0, slots := 0, locals := 69 } : Room)).room s m args below meth c H locs 0 0 Q (F0 m 174 ls [.int s0, .int s1, .int s2, .ref (ad 0)]) := by
    intro r116 hr116 v1 v2 v3 v5 v6 s0 s1 s2 ST H locs hP hS ls hl hf
    unfold f_MaskEdgesModel_putPiece_174 at hf
    obtain ⟨c174, e174, hf⟩ := x_b hf
    refine xc (va_runV (As := [.int s2, .int s1, .int s0]) (rest := []) ⟨hx, hb, hml, hown, ht⟩ (c_MaskEdgesModel_put l X ad ST s2 s1 s0 hP hA e174) (cwV 3 ht (xgV xw_568 xw_569 xw_25 xw_43 xw_570) rfl rfl rfl (by decide +kernel) ⟨Nat.le_of_ble_eq_true rfl, Nat.le_of_ble_eq_true rfl⟩) (xPV hKK (va_recv hK hP (ci := 6) (q0 := 0) rfl yg0)) rfl rfl hl.1 rfl (lv_room (Nat.le_of_ble_eq_true rfl)) d_MaskEdgesModel_putPiece_174 ⟨Nat.zero_le _, Nat.zero_le _⟩) (fun H1 L hq hz => ?_)
    replace hS := xS_call hS hz (fun _ h => h)
    replace hP : va_P X.1 vwCl (wY X ad c174) H1 := hq
    clear hq hz
    refine W.eq (g2 := F0 m 177 ls []) rfl ?_
    refine lv_iinc (v := (v6 + (1 : Int32))) (lv' := [(6, .int (v6 + (1 : Int32))), (0, .ref (ad 0)), (1, .int v1), (2, .int v2), (3, .int v3), (5, .int v5)]) hx hb d_MaskEdgesModel_putPiece_177 hl (k := 5) rfl rfl (by decide) rfl (fun ls hl => ?_)
    refine lv_goto (tgt := 116) hx hb d_MaskEdgesModel_putPiece_180 (by decide) ?_
    exact hr116 v1 v2 v3 v5 (v6 + (1 : Int32)) c174 _ _ hP hS ls (lv_sub hl [1, 2, 3, 4, 5, 0] rfl) hf
  have hL160 : ∀ (r116 : Int32 → Int32 → Int32 → Int32 → Int32 → ySt → Option (ySt)) (hr116 : ∀ (v1 : Int32) (v2 : Int32) (v3 : Int32) (v5 : Int32) (v6 : Int32) (ST : ySt), ∀ (H : Heap) (locs : List Loc), va_P X.1 vwCl (wY X ad ST) H → va_S (yA ad) s.heap H locs → ∀ (ls : Array Slot), lv_has ls 7 [(0, .ref (ad 0)), (1, .int v1), (2, .int v2), (3, .int v3), (5, .int v5), (6, .int v6)] → r116 v1 v2 v3 v5 v6 ST = some res → W p l e (headSpec (Cond.code y_MaskEdgesModel_putPiece prog_8_method_18_code 7 none :: xT) ({ frames := 3, cells := 0, slots := 0, locals := 69 } : Room)).room s m args below meth c H locs 0 0 Q (F0 m 116 ls [])), ∀ (v1 : Int32) (v2 : Int32) (v3 : Int32) (v5 : Int32) (v6 : Int32) (s0 : Int32) (s1 : Int32) (ST : ySt), ∀ (H : Heap) (locs : List Loc), va_P X.1 vwCl (wY X ad ST) H → va_S (yA ad) s.heap H locs → ∀ (ls : Array Slot), lv_has ls 7 [(0, .ref (ad 0)), (1, .int v1), (2, .int v2), (3, .int v3), (5, .int v5), (6, .int v6)] → f_MaskEdgesModel_putPiece_160 r116 v1 v2 v3 v5 v6 s0 s1 ST = some res → W p l e (headSpec (Cond.code y_MaskEdgesModel_putPiece prog_8_method_18_code 7 none :: xT) ({ frames := 3, cells := 0, slots := 0, locals := 69 } : Room)).room s m args below meth c H locs 0 0 Q (F0 m 160 ls [.int s0, .int s1, .ref (ad 0)]) := by
    intro r116 hr116 v1 v2 v3 v5 v6 s0 s1 ST H locs hP hS ls hl hf
    unfold f_MaskEdgesModel_putPiece_160 at hf
    refine lv_aload_n hx hb d_MaskEdgesModel_putPiece_160 rfl (lv_at hl 0 rfl) ?_
    refine va_get (D := X.1) (ci := 6) (v := .ref (ad 14)) (C := "MaskEdgesModel") (T := F_MaskEdgesModel) (N := 28) hx hb ht in_MaskEdgesModel hown hK hP 0 yg0 rfl 17 (by decide) (ht _ xw_464) (fun _ h9 => h9) rfl d_MaskEdgesModel_putPiece_161 ?_
    refine lv_iload_n hx hb d_MaskEdgesModel_putPiece_164 rfl (lv_at hl 1 rfl) ?_
    obtain ⟨g165, hf⟩ := x_g hf
    refine va_iald hx hb hK hP 14 0 yg14 rfl (xin_in g165) d_MaskEdgesModel_putPiece_165 ?_
    refine lv_if_le (tgt := 173) hx hb d_MaskEdgesModel_putPiece_166 (by decide) (fun hc => ?_) (fun hc => ?_)
    · replace hf := x_t hc hf
      refine lv_iconst (v := (0 : Int32)) hx hb d_MaskEdgesModel_putPiece_173 (by decide) ?_
      exact (hL174 _ hr116) v1 v2 v3 v5 v6 (0 : Int32) s0 s1 ST _ _ hP hS ls (lv_sub hl [0, 1, 2, 3, 4, 5] rfl) hf
    · replace hf := x_f hc hf
      refine lv_iconst (v := (1 : Int32)) hx hb d_MaskEdgesModel_putPiece_169 (by decide) ?_
      refine lv_goto (tgt := 174) hx hb d_MaskEdgesModel_putPiece_170 (by decide) ?_
      exact (hL174 _ hr116) v1 v2 v3 v5 v6 (1 : Int32) s0 s1 ST _ _ hP hS ls (lv_sub hl [0, 1, 2, 3, 4, 5] rfl) hf
  have hL144 : ∀ (r116 : Int32 → Int32 → Int32 → Int32 → Int32 → ySt → Option (ySt)) (hr116 : ∀ (v1 : Int32) (v2 : Int32) (v3 : Int32) (v5 : Int32) (v6 : Int32) (ST : ySt), ∀ (H : Heap) (locs : List Loc), va_P X.1 vwCl (wY X ad ST) H → va_S (yA ad) s.heap H locs → ∀ (ls : Array Slot), lv_has ls 7 [(0, .ref (ad 0)), (1, .int v1), (2, .int v2), (3, .int v3), (5, .int v5), (6, .int v6)] → r116 v1 v2 v3 v5 v6 ST = some res → W p l e (headSpec (Cond.code y_MaskEdgesModel_putPiece prog_8_method_18_code 7 none :: xT) ({ frames := 3, cells := 0, slots := 0, locals := 69 } : Room)).room s m args below meth c H locs 0 0 Q (F0 m 116 ls [])), ∀ (v1 : Int32) (v2 : Int32) (v3 : Int32) (v5 : Int32) (v6 : Int32) (s0 : Int32) (ST : ySt), ∀ (H : Heap) (locs : List Loc), va_P X.1 vwCl (wY X ad ST) H → va_S (yA ad) s.heap H locs → ∀ (ls : Array Slot), lv_has ls 7 [(0, .ref (ad 0)), (1, .int v1), (2, .int v2), (3, .int v3), (5, .int v5), (6, .int v6)] → f_MaskEdgesModel_putPiece_144 r116 v1 v2 v3 v5 v6 s0 ST = some res → W p l e (headSpec (Cond.code y_MaskEdgesModel_putPiece prog_8_method_18_code 7 none :: xT) ({ frames := 3, cells := 0, slots := 0, locals := 69 } : Room)).room s m args below meth c H locs 0 0 Q (F0 m 144 ls [.int s0, .ref (ad 0)]) := by
    intro r116 hr116 v1 v2 v3 v5 v6 s0 ST H locs hP hS ls hl hf
    unfold f_MaskEdgesModel_putPiece_144 at hf
    refine lv_aload_n hx hb d_MaskEdgesModel_putPiece_144 rfl (lv_at hl 0 rfl) ?_
    refine va_get (D := X.1) (ci := 6) (v := .ref (ad 10)) (C := "MaskEdgesModel") (T := F_MaskEdgesModel) (N := 28) hx hb ht in_MaskEdgesModel hown hK hP 0 yg0 rfl 13 (by decide) (ht _ xw_460) (fun _ h9 => h9) rfl d_MaskEdgesModel_putPiece_145 ?_
    refine lv_iload_n hx hb d_MaskEdgesModel_putPiece_148 rfl (lv_at hl 1 rfl) ?_
    obtain ⟨g149, hf⟩ := x_g hf
    refine va_zald hx hb hK hP 10 5 yg10 rfl (xin_in g149) d_MaskEdgesModel_putPiece_149 ?_
    refine lv_if_eq (tgt := 158) hx hb d_MaskEdgesModel_putPiece_150 (by decide) (fun hc => ?_) (fun hc => ?_)
    · replace hf := x_t hc hf
      refine lv_iload hx hb d_MaskEdgesModel_putPiece_158 (lv_at hl 5 rfl) ?_
      exact (hL160 _ hr116) v1 v2 v3 v5 v6 v6 s0 ST _ _ hP hS ls (lv_sub hl [0, 1, 2, 3, 4, 5] rfl) hf
    · replace hf := x_f hc hf
      refine lv_iload hx hb d_MaskEdgesModel_putPiece_153 (lv_at hl 4 rfl) ?_
      refine lv_goto (tgt := 160) hx hb d_MaskEdgesModel_putPiece_155 (by decide) ?_
      exact (hL160 _ hr116) v1 v2 v3 v5 v6 v5 s0 ST _ _ hP hS ls (lv_sub hl [0, 1, 2, 3, 4, 5] rfl) hf
  have hL116 : ∀ (k183 : Int32 → Int32 → Int32 → ySt → Option (ySt)) (hk183 : ∀ (v1 : Int32) (v2 : Int32) (v3 : Int32) (ST : ySt), ∀ (H : Heap) (locs : List Loc), va_P X.1 vwCl (wY X ad ST) H → va_S (yA ad) s.heap H locs → ∀ (ls : Array Slot), lv_has ls 7 [(0, .ref (ad 0)), (1, .int v1), (2, .int v2), (3, .int v3)] → k183 v1 v2 v3 ST = some res → W p l e (headSpec (Cond.code y_MaskEdgesModel_putPiece prog_8_method_18_code 7 none :: xT) ({ frames := 3, cells := 0, slots := 0, locals := 69 } : Room)).room s m args below meth c H locs 0 0 Q (F0 m 183 ls [])), ∀ (n : Nat), ∀ (v1 : Int32) (v2 : Int32) (v3 : Int32) (v5 : Int32) (v6 : Int32) (ST : ySt), ∀ (H : Heap) (locs : List Loc), va_P X.1 vwCl (wY X ad ST) H → va_S (yA ad) s.heap H locs → ∀ (ls : Array Slot), lv_has ls 7 [(0, .ref (ad 0)), (1, .int v1), (2, .int v2), (3, .int v3), (5, .int v5), (6, .int v6)] → (xloop (fun r => f_MaskEdgesModel_putPiece_116 r k183) (fun _ _ _ _ _ _ => none) n) v1 v2 v3 v5 v6 ST = some res → W p l e (headSpec (Cond.code y_MaskEdgesModel_putPiece prog_8_method_18_code 7 none :: xT) ({ frames := 3, cells := 0, slots := 0, locals := 69 } : Room)).room s m args below meth c H locs 0 0 Q (F0 m 116 ls []) := by
    intro k183 hk183
    intro n
    induction n with
    | zero => intro v1 v2 v3 v5 v6 ST H locs hP hS ls hl hf; cases hf
    | succ n ih =>
      intro v1 v2 v3 v5 v6 ST H locs hP hS ls hl hf
      replace hf : f_MaskEdgesModel_putPiece_116 (xloop (fun r => f_MaskEdgesModel_putPiece_116 r k183) (fun _ _ _ _ _ _ => none) n) k183 v1 v2 v3 v5 v6 ST = some res := hf
      have hr116 := ih
      clear ih
      unfold f_MaskEdgesModel_putPiece_116 at hf
      refine lv_iload hx hb d_MaskEdgesModel_putPiece_116 (lv_at hl 5 rfl) ?_
      refine lv_aload_n hx hb d_MaskEdgesModel_putPiece_118 rfl (lv_at hl 0 rfl) ?_
      refine va_get (D := X.1) (ci := 6) (v := .ref (ad 9)) (C := "MaskEdgesModel") (T := F_MaskEdgesModel) (N := 28) hx hb ht in_MaskEdgesModel hown hK hP 0 yg0 rfl 12 (by decide) (ht _ xw_459) (fun _ h9 => h9) rfl d_MaskEdgesModel_putPiece_119 ?_
      refine lv_iload_n hx hb d_MaskEdgesModel_putPiece_122 rfl (lv_at hl 1 rfl) ?_
      obtain ⟨g123, hf⟩ := x_g hf
      refine va_iald hx hb hK hP 9 0 yg9 rfl (xin_in g123) d_MaskEdgesModel_putPiece_123 ?_
      refine lv_icmp_ge (tgt := 183) hx hb d_MaskEdgesModel_putPiece_124 (by decide) (fun hc => ?_) (fun hc => ?_)
      · replace hf := x_t hc hf
        exact hk183 v1 v2 v3 ST _ _ hP hS ls (lv_sub hl [0, 1, 2, 3] rfl) hf
      · replace hf := x_f hc hf
        refine lv_aload_n hx hb d_MaskEdgesModel_putPiece_127 rfl (lv_at hl 0 rfl) ?_
        refine lv_aload_n hx hb d_MaskEdgesModel_putPiece_128 rfl (lv_at hl 0 rfl) ?_
        refine va_get (D := X.1) (ci := 6) (v := .ref (ad 10)) (C := "MaskEdgesModel") (T := F_MaskEdgesModel) (N := 28) hx hb ht in_MaskEdgesModel hown hK hP 0 yg0 rfl 13 (by decide) (ht _ xw_460) (fun _ h9 => h9) rfl d_MaskEdgesModel_putPiece_129 ?_
        refine lv_iload_n hx hb d_MaskEdgesModel_putPiece_132 rfl (lv_at hl 1 rfl) ?_
        obtain ⟨g133, hf⟩ := x_g hf
        refine va_zald hx hb hK hP 10 5 yg10 rfl (xin_in g133) d_MaskEdgesModel_putPiece_133 ?_
        refine lv_if_eq (tgt := 142) hx hb d_MaskEdgesModel_putPiece_134 (by decide) (fun hc => ?_) (fun hc => ?_)
        · replace hf := x_t hc hf
          refine lv_iload hx hb d_MaskEdgesModel_putPiece_142 (lv_at hl 4 rfl) ?_
          exact (hL144 _ hr116) v1 v2 v3 v5 v6 v5 ST _ _ hP hS ls (lv_sub hl [0, 1, 2, 3, 4, 5] rfl) hf
        · replace hf := x_f hc hf
          refine lv_iload hx hb d_MaskEdgesModel_putPiece_137 (lv_at hl 5 rfl) ?_
          refine lv_goto (tgt := 144) hx hb d_MaskEdgesModel_putPiece_139 (by decide) ?_
          exact (hL144 _ hr116) v1 v2 v3 v5 v6 v6 ST _ _ hP hS ls (lv_sub hl [0, 1, 2, 3, 4, 5] rfl) hf
  have hL183 : ∀ (r28 : Int32 → Int32 → Int32 → ySt → Option (ySt)) (hr28 : ∀ (v1 : Int32) (v2 : Int32) (v3 : Int32) (ST : ySt), ∀ (H : Heap) (locs : List Loc), va_P X.1 vwCl (wY X ad ST) H → va_S (yA ad) s.heap H locs → ∀ (ls : Array Slot), lv_has ls 7 [(0, .ref (ad 0)), (1, .int v1), (2, .int v2), (3, .int v3)] → r28 v1 v2 v3 ST = some res → W p l e (headSpec (Cond.code y_MaskEdgesModel_putPiece prog_8_method_18_code 7 none :: xT) ({ frames := 3, cells := 0, slots := 0, locals := 69 } : Room)).room s m args below meth c H locs 0 0 Q (F0 m 28 ls [])), ∀ (v1 : Int32) (v2 : Int32) (v3 : Int32) (ST : ySt), ∀ (H : Heap) (locs : List Loc), va_P X.1 vwCl (wY X ad ST) H → va_S (yA ad) s.heap H locs → ∀ (ls : Array Slot), lv_has ls 7 [(0, .ref (ad 0)), (1, .int v1), (2, .int v2), (3, .int v3)] → f_MaskEdgesModel_putPiece_183 r28 v1 v2 v3 ST = some res → W p l e (headSpec (Cond.code y_MaskEdgesModel_putPiece prog_8_method_18_code 7 none :: xT) ({ frames := 3, cells := 0, slots := 0, locals := 69 } : Room)).room s m args below meth c H locs 0 0 Q (F0 m 183 ls []) := by
    intro r28 hr28 v1 v2 v3 ST H locs hP hS ls hl hf
    unfold f_MaskEdgesModel_putPiece_183 at hf
    refine lv_iinc (v := (v3 + (1 : Int32))) (lv' := [(3, .int (v3 + (1 : Int32))), (0, .ref (ad 0)), (1, .int v1), (2, .int v2)]) hx hb d_MaskEdgesModel_putPiece_183 hl (k := 3) rfl rfl (by decide) rfl (fun ls hl => ?_)
    refine lv_goto (tgt := 28) hx hb d_MaskEdgesModel_putPiece_186 (by decide) ?_
    exact hr28 v1 v2 (v3 + (1 : Int32)) ST _ _ hP hS ls (lv_sub hl [1, 2, 3, 0] rfl) hf
  have hL106 : ∀ (r28 : Int32 → Int32 → Int32 → ySt → Option (ySt)) (hr28 : ∀ (v1 : Int32) (v2 : Int32) (v3 : Int32) (ST : ySt), ∀ (H : Heap) (locs : List Loc), va_P X.1 vwCl (wY X ad ST) H → va_S (yA ad) s.heap H locs → ∀ (ls : Array Slot), lv_has ls 7 [(0, .ref (ad 0)), (1, .int v1), (2, .int v2), (3, .int v3)] → r28 v1 v2 v3 ST = some res → W p l e (headSpec (Cond.code y_MaskEdgesModel_putPiece prog_8_method_18_code 7 none :: xT) ({ frames := 3, cells := 0, slots := 0, locals := 69 } : Room)).room s m args below meth c H locs 0 0 Q (F0 m 28 ls [])), ∀ (v1 : Int32) (v2 : Int32) (v3 : Int32) (s0 : Int32) (ST : ySt), ∀ (H : Heap) (locs : List Loc), va_P X.1 vwCl (wY X ad ST) H → va_S (yA ad) s.heap H locs → ∀ (ls : Array Slot), lv_has ls 7 [(0, .ref (ad 0)), (1, .int v1), (2, .int v2), (3, .int v3)] → f_MaskEdgesModel_putPiece_106 r28 v1 v2 v3 s0 ST = some res → W p l e (headSpec (Cond.code y_MaskEdgesModel_putPiece prog_8_method_18_code 7 none :: xT) ({ frames := 3, cells := 0, slots := 0, locals := 69 } : Room)).room s m args below meth c H locs 0 0 Q (F0 m 106 ls [.int s0]) := by
    intro r28 hr28 v1 v2 v3 s0 ST H locs hP hS ls hl hf
    unfold f_MaskEdgesModel_putPiece_106 at hf
    refine lv_istore (lv' := [(5, .int s0), (0, .ref (ad 0)), (1, .int v1), (2, .int v2), (3, .int v3)]) hx hb d_MaskEdgesModel_putPiece_106 hl (by decide) rfl (fun ls hl => ?_)
    refine lv_aload_n hx hb d_MaskEdgesModel_putPiece_108 rfl (lv_at hl 1 rfl) ?_
    refine va_get (D := X.1) (ci := 6) (v := .ref (ad 8)) (C := "MaskEdgesModel") (T := F_MaskEdgesModel) (N := 28) hx hb ht in_MaskEdgesModel hown hK hP 0 yg0 rfl 11 (by decide) (ht _ xw_458) (fun _ h9 => h9) rfl d_MaskEdgesModel_putPiece_109 ?_
    refine lv_iload_n hx hb d_MaskEdgesModel_putPiece_112 rfl (lv_at hl 2 rfl) ?_
    obtain ⟨g113, hf⟩ := x_g hf
    refine va_iald hx hb hK hP 8 0 yg8 rfl (xin_in g113) d_MaskEdgesModel_putPiece_113 ?_
    refine lv_istore (lv' := [(6, .int (Y_from ST v1.toNatClampNeg)), (5, .int s0), (0, .ref (ad 0)), (1, .int v1), (2, .int v2), (3, .int v3)]) hx hb d_MaskEdgesModel_putPiece_114 hl (by decide) rfl (fun ls hl => ?_)
    exact (hL116 _ (hL183 _ hr28) 100000) v1 v2 v3 s0 (Y_from ST v1.toNatClampNeg) ST _ _ hP hS ls (lv_sub hl [2, 3, 4, 5, 1, 0] rfl) hf
  have hL78 : ∀ (r28 : Int32 → Int32 → Int32 → ySt → Option (ySt)) (hr28 : ∀ (v1 : Int32) (v2 : Int32) (v3 : Int32) (ST : ySt), ∀ (H : Heap) (locs : List Loc), va_P X.1 vwCl (wY X ad ST) H → va_S (yA ad) s.heap H locs → ∀ (ls : Array Slot), lv_has ls 7 [(0, .ref (ad 0)), (1, .int v1), (2, .int v2), (3, .int v3)] → r28 v1 v2 v3 ST = some res → W p l e (headSpec (Cond.code y_MaskEdgesModel_putPiece prog_8_method_18_code 7 none :: xT) ({ frames := 3, cells := 0, slots := 0, locals := 69 } : Room)).room s m args below meth c H locs 0 0 Q (F0 m 28 ls [])), ∀ (v1 : Int32) (v2 : Int32) (v3 : Int32) (s0 : Int32) (ST : ySt), ∀ (H : Heap) (locs : List Loc), va_P X.1 vwCl (wY X ad ST) H → va_S (yA ad) s.heap H locs → ∀ (ls : Array Slot), lv_has ls 7 [(0, .ref (ad 0)), (1, .int v1), (2, .int v2), (3, .int v3)] → f_MaskEdgesModel_putPiece_78 r28 v1 v2 v3 s0 ST = some res → W p l e (headSpec (Cond.code y_MaskEdgesModel_putPiece prog_8_method_18_code 7 none :: xT) ({ frames := 3, cells := 0, slots := 0, locals := 69 } : Room)).room s m args below meth c H locs 0 0 Q (F0 m 78 ls [.int s0]) := by
    intro r28 hr28 v1 v2 v3 s0 ST H locs hP hS ls hl hf
    unfold f_MaskEdgesModel_putPiece_78 at hf
    refine lv_istore (lv' := [(4, .int s0), (0, .ref (ad 0)), (1, .int v1), (2, .int v2), (3, .int v3)]) hx hb d_MaskEdgesModel_putPiece_78 hl (by decide) rfl (fun ls hl => ?_)
    refine lv_iload hx hb d_MaskEdgesModel_putPiece_80 (lv_at hl 0 rfl) ?_
    refine lv_if_eq (tgt := 96) hx hb d_MaskEdgesModel_putPiece_82 (by decide) (fun hc => ?_) (fun hc => ?_)
    · replace hf := x_t hc hf
      refine lv_aload_n hx hb d_MaskEdgesModel_putPiece_96 rfl (lv_at hl 1 rfl) ?_
      refine va_get (D := X.1) (ci := 6) (v := .ref (ad 7)) (C := "MaskEdgesModel") (T := F_MaskEdgesModel) (N := 28) hx hb ht in_MaskEdgesModel hown hK hP 0 yg0 rfl 10 (by decide) (ht _ xw_457) (fun _ h9 => h9) rfl d_MaskEdgesModel_putPiece_97 ?_
      refine lv_iload_n hx hb d_MaskEdgesModel_putPiece_100 rfl (lv_at hl 2 rfl) ?_
      obtain ⟨g101, hf⟩ := x_g hf
      refine va_iald hx hb hK hP 7 0 yg7 rfl (xin_in g101) d_MaskEdgesModel_putPiece_101 ?_
      refine lv_iconst (v := (1 : Int32)) hx hb d_MaskEdgesModel_putPiece_102 (by decide) ?_
      refine lv_isub hx hb d_MaskEdgesModel_putPiece_103 ?_
      refine lv_iload_n hx hb d_MaskEdgesModel_putPiece_104 rfl (lv_at hl 4 rfl) ?_
      refine lv_isub hx hb d_MaskEdgesModel_putPiece_105 ?_
      exact (hL106 _ hr28) v1 v2 v3 (((Y_across ST v1.toNatClampNeg) - (1 : Int32)) - v3) ST _ _ hP hS ls (lv_sub hl [1, 2, 3, 4] rfl) hf
    · replace hf := x_f hc hf
      refine lv_aload_n hx hb d_MaskEdgesModel_putPiece_85 rfl (lv_at hl 1 rfl) ?_
      refine va_get (D := X.1) (ci := 6) (v := .ref (ad 7)) (C := "MaskEdgesModel") (T := F_MaskEdgesModel) (N := 28) hx hb ht in_MaskEdgesModel hown hK hP 0 yg0 rfl 10 (by decide) (ht _ xw_457) (fun _ h9 => h9) rfl d_MaskEdgesModel_putPiece_86 ?_
      refine lv_iload_n hx hb d_MaskEdgesModel_putPiece_89 rfl (lv_at hl 2 rfl) ?_
      obtain ⟨g90, hf⟩ := x_g hf
      refine va_iald hx hb hK hP 7 0 yg7 rfl (xin_in g90) d_MaskEdgesModel_putPiece_90 ?_
      refine lv_iload_n hx hb d_MaskEdgesModel_putPiece_91 rfl (lv_at hl 4 rfl) ?_
      refine lv_iadd hx hb d_MaskEdgesModel_putPiece_92 ?_
      refine lv_goto (tgt := 106) hx hb d_MaskEdgesModel_putPiece_93 (by decide) ?_
      exact (hL106 _ hr28) v1 v2 v3 ((Y_across ST v1.toNatClampNeg) + v3) ST _ _ hP hS ls (lv_sub hl [1, 2, 3, 4] rfl) hf
  have hL70 : ∀ (r28 : Int32 → Int32 → Int32 → ySt → Option (ySt)) (hr28 : ∀ (v1 : Int32) (v2 : Int32) (v3 : Int32) (ST : ySt), ∀ (H : Heap) (locs : List Loc), va_P X.1 vwCl (wY X ad ST) H → va_S (yA ad) s.heap H locs → ∀ (ls : Array Slot), lv_has ls 7 [(0, .ref (ad 0)), (1, .int v1), (2, .int v2), (3, .int v3)] → r28 v1 v2 v3 ST = some res → W p l e (headSpec (Cond.code y_MaskEdgesModel_putPiece prog_8_method_18_code 7 none :: xT) ({ frames := 3, cells := 0, slots := 0, locals := 69 } : Room)).room s m args below meth c H locs 0 0 Q (F0 m 28 ls [])), ∀ (v1 : Int32) (v2 : Int32) (v3 : Int32) (s0 : Int32) (s1 : Int32) (ST : ySt), ∀ (H : Heap) (locs : List Loc), va_P X.1 vwCl (wY X ad ST) H → va_S (yA ad) s.heap H locs → ∀ (ls : Array Slot), lv_has ls 7 [(0, .ref (ad 0)), (1, .int v1), (2, .int v2), (3, .int v3)] → f_MaskEdgesModel_putPiece_70 r28 v1 v2 v3 s0 s1 ST = some res → W p l e (headSpec (Cond.code y_MaskEdgesModel_putPiece prog_8_method_18_code 7 none :: xT) ({ frames := 3, cells := 0, slots := 0, locals := 69 } : Room)).room s m args below meth c H locs 0 0 Q (F0 m 70 ls [.int s0, .int s1]) := by
    intro r28 hr28 v1 v2 v3 s0 s1 ST H locs hP hS ls hl hf
    unfold f_MaskEdgesModel_putPiece_70 at hf
    refine lv_icmp_ne (tgt := 77) hx hb d_MaskEdgesModel_putPiece_70 (by decide) (fun hc => ?_) (fun hc => ?_)
    · replace hf := x_f hc hf
      refine lv_iconst (v := (0 : Int32)) hx hb d_MaskEdgesModel_putPiece_77 (by decide) ?_
      exact (hL78 _ hr28) v1 v2 v3 (0 : Int32) ST _ _ hP hS ls (lv_sub hl [0, 1, 2, 3] rfl) hf
    · replace hf := x_t hc hf
      refine lv_iconst (v := (1 : Int32)) hx hb d_MaskEdgesModel_putPiece_73 (by decide) ?_
      refine lv_goto (tgt := 78) hx hb d_MaskEdgesModel_putPiece_74 (by decide) ?_
      exact (hL78 _ hr28) v1 v2 v3 (1 : Int32) ST _ _ hP hS ls (lv_sub hl [0, 1, 2, 3] rfl) hf
  have hL56 : ∀ (r28 : Int32 → Int32 → Int32 → ySt → Option (ySt)) (hr28 : ∀ (v1 : Int32) (v2 : Int32) (v3 : Int32) (ST : ySt), ∀ (H : Heap) (locs : List Loc), va_P X.1 vwCl (wY X ad ST) H → va_S (yA ad) s.heap H locs → ∀ (ls : Array Slot), lv_has ls 7 [(0, .ref (ad 0)), (1, .int v1), (2, .int v2), (3, .int v3)] → r28 v1 v2 v3 ST = some res → W p l e (headSpec (Cond.code y_MaskEdgesModel_putPiece prog_8_method_18_code 7 none :: xT) ({ frames := 3, cells := 0, slots := 0, locals := 69 } : Room)).room s m args below meth c H locs 0 0 Q (F0 m 28 ls [])), ∀ (v1 : Int32) (v2 : Int32) (v3 : Int32) (s0 : Int32) (ST : ySt), ∀ (H : Heap) (locs : List Loc), va_P X.1 vwCl (wY X ad ST) H → va_S (yA ad) s.heap H locs → ∀ (ls : Array Slot), lv_has ls 7 [(0, .ref (ad 0)), (1, .int v1), (2, .int v2), (3, .int v3)] → f_MaskEdgesModel_putPiece_56 r28 v1 v2 v3 s0 ST = some res → W p l e (headSpec (Cond.code y_MaskEdgesModel_putPiece prog_8_method_18_code 7 none :: xT) ({ frames := 3, cells := 0, slots := 0, locals := 69 } : Room)).room s m args below meth c H locs 0 0 Q (F0 m 56 ls [.int s0]) := by
    intro r28 hr28 v1 v2 v3 s0 ST H locs hP hS ls hl hf
    unfold f_MaskEdgesModel_putPiece_56 at hf
    refine lv_aload_n hx hb d_MaskEdgesModel_putPiece_56 rfl (lv_at hl 0 rfl) ?_
    refine va_get (D := X.1) (ci := 6) (v := .ref (ad 14)) (C := "MaskEdgesModel") (T := F_MaskEdgesModel) (N := 28) hx hb ht in_MaskEdgesModel hown hK hP 0 yg0 rfl 17 (by decide) (ht _ xw_464) (fun _ h9 => h9) rfl d_MaskEdgesModel_putPiece_57 ?_
    refine lv_iload_n hx hb d_MaskEdgesModel_putPiece_60 rfl (lv_at hl 1 rfl) ?_
    obtain ⟨g61, hf⟩ := x_g hf
    refine va_iald hx hb hK hP 14 0 yg14 rfl (xin_in g61) d_MaskEdgesModel_putPiece_61 ?_
    refine lv_if_le (tgt := 69) hx hb d_MaskEdgesModel_putPiece_62 (by decide) (fun hc => ?_) (fun hc => ?_)
    · replace hf := x_t hc hf
      refine lv_iconst (v := (0 : Int32)) hx hb d_MaskEdgesModel_putPiece_69 (by decide) ?_
      exact (hL70 _ hr28) v1 v2 v3 (0 : Int32) s0 ST _ _ hP hS ls (lv_sub hl [0, 1, 2, 3] rfl) hf
    · replace hf := x_f hc hf
      refine lv_iconst (v := (1 : Int32)) hx hb d_MaskEdgesModel_putPiece_65 (by decide) ?_
      refine lv_goto (tgt := 70) hx hb d_MaskEdgesModel_putPiece_66 (by decide) ?_
      exact (hL70 _ hr28) v1 v2 v3 (1 : Int32) s0 ST _ _ hP hS ls (lv_sub hl [0, 1, 2, 3] rfl) hf
  have hL28 : ∀ (n : Nat), ∀ (v1 : Int32) (v2 : Int32) (v3 : Int32) (ST : ySt), ∀ (H : Heap) (locs : List Loc), va_P X.1 vwCl (wY X ad ST) H → va_S (yA ad) s.heap H locs → ∀ (ls : Array Slot), lv_has ls 7 [(0, .ref (ad 0)), (1, .int v1), (2, .int v2), (3, .int v3)] → (xloop (fun r => f_MaskEdgesModel_putPiece_28 r) (fun _ _ _ _ => none) n) v1 v2 v3 ST = some res → W p l e (headSpec (Cond.code y_MaskEdgesModel_putPiece prog_8_method_18_code 7 none :: xT) ({ frames := 3, cells := 0, slots := 0, locals := 69 } : Room)).room s m args below meth c H locs 0 0 Q (F0 m 28 ls []) := by
    intro n
    induction n with
    | zero => intro v1 v2 v3 ST H locs hP hS ls hl hf; cases hf
    | succ n ih =>
      intro v1 v2 v3 ST H locs hP hS ls hl hf
      replace hf : f_MaskEdgesModel_putPiece_28 (xloop (fun r => f_MaskEdgesModel_putPiece_28 r) (fun _ _ _ _ => none) n) v1 v2 v3 ST = some res := hf
      have hr28 := ih
      clear ih
      unfold f_MaskEdgesModel_putPiece_28 at hf
      refine lv_iload_n hx hb d_MaskEdgesModel_putPiece_28 rfl (lv_at hl 3 rfl) ?_
      refine lv_iload_n hx hb d_MaskEdgesModel_putPiece_29 rfl (lv_at hl 2 rfl) ?_
      refine lv_icmp_ge (tgt := 189) hx hb d_MaskEdgesModel_putPiece_30 (by decide) (fun hc => ?_) (fun hc => ?_)
      · replace hf := x_t hc hf
        replace hf := x_s hf
        subst hf
        subst hQ
        exact W.vret hx hb hr (fun t ht hW => ⟨⟨rfl, by rw [ht]; exact hP⟩, hS.F ht⟩) hS.2.2 d_MaskEdgesModel_putPiece_189
      · replace hf := x_f hc hf
        refine lv_aload_n hx hb d_MaskEdgesModel_putPiece_33 rfl (lv_at hl 0 rfl) ?_
        refine va_get (D := X.1) (ci := 6) (v := .ref (ad 13)) (C := "MaskEdgesModel") (T := F_MaskEdgesModel) (N := 28) hx hb ht in_MaskEdgesModel hown hK hP 0 yg0 rfl 16 (by decide) (ht _ xw_463) (fun _ h9 => h9) rfl d_MaskEdgesModel_putPiece_34 ?_
        refine lv_iload_n hx hb d_MaskEdgesModel_putPiece_37 rfl (lv_at hl 1 rfl) ?_
        obtain ⟨g38, hf⟩ := x_g hf
        refine va_iald hx hb hK hP 13 0 yg13 rfl (xin_in g38) d_MaskEdgesModel_putPiece_38 ?_
        refine lv_if_eq (tgt := 189) hx hb d_MaskEdgesModel_putPiece_39 (by decide) (fun hc => ?_) (fun hc => ?_)
        · replace hf := x_t hc hf
          replace hf := x_s hf
          subst hf
          subst hQ
          exact W.vret hx hb hr (fun t ht hW => ⟨⟨rfl, by rw [ht]; exact hP⟩, hS.F ht⟩) hS.2.2 d_MaskEdgesModel_putPiece_189
        · replace hf := x_f hc hf
          refine lv_aload_n hx hb d_MaskEdgesModel_putPiece_42 rfl (lv_at hl 0 rfl) ?_
          refine va_get (D := X.1) (ci := 6) (v := .ref (ad 13)) (C := "MaskEdgesModel") (T := F_MaskEdgesModel) (N := 28) hx hb ht in_MaskEdgesModel hown hK hP 0 yg0 rfl 16 (by decide) (ht _ xw_463) (fun _ h9 => h9) rfl d_MaskEdgesModel_putPiece_43 ?_
          refine lv_iload_n hx hb d_MaskEdgesModel_putPiece_46 rfl (lv_at hl 1 rfl) ?_
          obtain ⟨g47, hf⟩ := x_g hf
          refine va_iald hx hb hK hP 13 0 yg13 rfl (xin_in g47) d_MaskEdgesModel_putPiece_47 ?_
          refine lv_if_le (tgt := 55) hx hb d_MaskEdgesModel_putPiece_48 (by decide) (fun hc => ?_) (fun hc => ?_)
          · replace hf := x_t hc hf
            refine lv_iconst (v := (0 : Int32)) hx hb d_MaskEdgesModel_putPiece_55 (by decide) ?_
            exact (hL56 _ hr28) v1 v2 v3 (0 : Int32) ST _ _ hP hS ls (lv_sub hl [0, 1, 2, 3] rfl) hf
          · replace hf := x_f hc hf
            refine lv_iconst (v := (1 : Int32)) hx hb d_MaskEdgesModel_putPiece_51 (by decide) ?_
            refine lv_goto (tgt := 56) hx hb d_MaskEdgesModel_putPiece_52 (by decide) ?_
            exact (hL56 _ hr28) v1 v2 v3 (1 : Int32) ST _ _ hP hS ls (lv_sub hl [0, 1, 2, 3] rfl) hf
  have hL25 : ∀ (v1 : Int32) (s0 : Int32) (ST : ySt), ∀ (H : Heap) (locs : List Loc), va_P X.1 vwCl (wY X ad ST) H → va_S (yA ad) s.heap H locs → ∀ (ls : Array Slot), lv_has ls 7 [(0, .ref (ad 0)), (1, .int v1)] → f_MaskEdgesModel_putPiece_25 v1 s0 ST = some res → W p l e (headSpec (Cond.code y_MaskEdgesModel_putPiece prog_8_method_18_code 7 none :: xT) ({ frames := 3, cells := 0, slots := 0, locals := 69 } : Room)).room s m args below meth c H locs 0 0 Q (F0 m 25 ls [.int s0]) := by
    intro v1 s0 ST H locs hP hS ls hl hf
    unfold f_MaskEdgesModel_putPiece_25 at hf
    refine lv_istore_n (lv' := [(2, .int s0), (0, .ref (ad 0)), (1, .int v1)]) hx hb d_MaskEdgesModel_putPiece_25 rfl hl (by decide) rfl (fun ls hl => ?_)
    refine lv_iconst (v := (0 : Int32)) hx hb d_MaskEdgesModel_putPiece_26 (by decide) ?_
    refine lv_istore_n (lv' := [(3, .int (0 : Int32)), (2, .int s0), (0, .ref (ad 0)), (1, .int v1)]) hx hb d_MaskEdgesModel_putPiece_27 rfl hl (by decide) rfl (fun ls hl => ?_)
    exact (hL28 100000) v1 s0 (0 : Int32) ST _ _ hP hS ls (lv_sub hl [2, 3, 1, 0] rfl) hf
  unfold f_MaskEdgesModel_putPiece at hf
  refine lv_aload_n hx hb d_MaskEdgesModel_putPiece_0 rfl (lv_at hl 0 rfl) ?_
  refine va_get (D := X.1) (ci := 6) (v := .ref (ad 14)) (C := "MaskEdgesModel") (T := F_MaskEdgesModel) (N := 28) hx hb ht in_MaskEdgesModel hown hK hP 0 yg0 rfl 17 (by decide) (ht _ xw_464) (fun _ h9 => h9) rfl d_MaskEdgesModel_putPiece_1 ?_
  refine lv_iload_n hx hb d_MaskEdgesModel_putPiece_4 rfl (lv_at hl 1 rfl) ?_
  obtain ⟨g5, hf⟩ := x_g hf
  refine va_iald hx hb hK hP 14 0 yg14 rfl (xin_in g5) d_MaskEdgesModel_putPiece_5 ?_
  refine lv_if_ge (tgt := 19) hx hb d_MaskEdgesModel_putPiece_6 (by decide) (fun hc => ?_) (fun hc => ?_)
  · replace hf := x_t hc hf
    refine lv_aload_n hx hb d_MaskEdgesModel_putPiece_19 rfl (lv_at hl 0 rfl) ?_
    refine va_get (D := X.1) (ci := 6) (v := .ref (ad 14)) (C := "MaskEdgesModel") (T := F_MaskEdgesModel) (N := 28) hx hb ht in_MaskEdgesModel hown hK hP 0 yg0 rfl 17 (by decide) (ht _ xw_464) (fun _ h9 => h9) rfl d_MaskEdgesModel_putPiece_20 ?_
    refine lv_iload_n hx hb d_MaskEdgesModel_putPiece_23 rfl (lv_at hl 1 rfl) ?_
    obtain ⟨g24, hf⟩ := x_g hf
    refine va_iald hx hb hK hP 14 0 yg14 rfl (xin_in g24) d_MaskEdgesModel_putPiece_24 ?_
    exact hL25 v1 (Y_moves ST v1.toNatClampNeg) ST _ _ hP hS ls (lv_sub hl [0, 1] rfl) hf
  · replace hf := x_f hc hf
    refine lv_aload_n hx hb d_MaskEdgesModel_putPiece_9 rfl (lv_at hl 0 rfl) ?_
    refine va_get (D := X.1) (ci := 6) (v := .ref (ad 14)) (C := "MaskEdgesModel") (T := F_MaskEdgesModel) (N := 28) hx hb ht in_MaskEdgesModel hown hK hP 0 yg0 rfl 17 (by decide) (ht _ xw_464) (fun _ h9 => h9) rfl d_MaskEdgesModel_putPiece_10 ?_
    refine lv_iload_n hx hb d_MaskEdgesModel_putPiece_13 rfl (lv_at hl 1 rfl) ?_
    obtain ⟨g14, hf⟩ := x_g hf
    refine va_iald hx hb hK hP 14 0 yg14 rfl (xin_in g14) d_MaskEdgesModel_putPiece_14 ?_
    refine lv_ineg hx hb d_MaskEdgesModel_putPiece_15 ?_
    refine lv_goto (tgt := 25) hx hb d_MaskEdgesModel_putPiece_16 (by decide) ?_
    exact hL25 v1 (-(Y_moves ST v1.toNatClampNeg)) ST _ _ hP hS ls (lv_sub hl [0, 1] rfl) hf
def f_MaskEdgesModel_make_10 (r10 : Int32 → Int32 → ySt → Option (ySt)) (k39 : Int32 → ySt → Option (ySt)) (v1 : Int32) (v2 : Int32) (ST : ySt) : Option (ySt) :=
  if (48 : Int32) ≤ v2 then
  k39 v1 ST
else
  (f_MaskEdgesModel_isTarget ST v2 v1).bind fun c29 =>
    if xin (((48 : Int32) * v1) + v2) 2304 = true then
    r10 v1 (v2 + (1 : Int32)) (Y_u_mask ST (upd (Y_mask ST) (((48 : Int32) * v1) + v2).toNatClampNeg (vp_nar .boolean c29)))
  else none
def f_MaskEdgesModel_make_39 (r2 : Int32 → ySt → Option (ySt)) (v1 : Int32) (ST : ySt) : Option (ySt) :=
  r2 (v1 + (1 : Int32)) ST
def f_MaskEdgesModel_make_2 (r2 : Int32 → ySt → Option (ySt)) (k45 : ySt → Option (ySt)) (v1 : Int32) (ST : ySt) : Option (ySt) :=
  if (48 : Int32) ≤ v1 then
  k45 ST
else
  (xloop (fun r => f_MaskEdgesModel_make_10 r (f_MaskEdgesModel_make_39 r2)) (fun _ _ _ => none) 100000) v1 (0 : Int32) ST
def f_MaskEdgesModel_make_47 (r47 : Int32 → ySt → Option (ySt)) (k66 : ySt → Option (ySt)) (v1 : Int32) (ST : ySt) : Option (ySt) :=
  if (Y_pieces ST) ≤ v1 then
  k66 ST
else
  (f_MaskEdgesModel_putPiece v1 ST).bind fun c57 =>
    r47 (v1 + (1 : Int32)) c57
def f_MaskEdgesModel_make_100 (r100 : Int32 → Int32 → Int32 → ySt → Option (ySt)) (k123 : Int32 → Int32 → ySt → Option (ySt)) (v1 : Int32) (v2 : Int32) (v3 : Int32) (ST : ySt) : Option (ySt) :=
  if xin v1 24 = true then
  if (Y_barFarX ST v1.toNatClampNeg) < v3 then
    k123 v1 v2 ST
  else
    (f_MaskEdgesModel_put v3 v2 (1 : Int32) ST).bind fun c114 =>
      r100 v1 v2 (v3 + (1 : Int32)) c114
else none
def f_MaskEdgesModel_make_123 (r83 : Int32 → Int32 → ySt → Option (ySt)) (v1 : Int32) (v2 : Int32) (ST : ySt) : Option (ySt) :=
  r83 v1 (v2 + (1 : Int32)) ST
def f_MaskEdgesModel_make_83 (r83 : Int32 → Int32 → ySt → Option (ySt)) (k129 : Int32 → ySt → Option (ySt)) (v1 : Int32) (v2 : Int32) (ST : ySt) : Option (ySt) :=
  if xin v1 24 = true then
  if (Y_barFarY ST v1.toNatClampNeg) < v2 then
    k129 v1 ST
  else
    if xin v1 24 = true then
      (xloop (fun r => f_MaskEdgesModel_make_100 r (f_MaskEdgesModel_make_123 r83)) (fun _ _ _ _ => none) 100000) v1 v2 (Y_barX ST v1.toNatClampNeg) ST
    else none
else none
def f_MaskEdgesModel_make_129 (r68 : Int32 → ySt → Option (ySt)) (v1 : Int32) (ST : ySt) : Option (ySt) :=
  r68 (v1 + (1 : Int32)) ST
def f_MaskEdgesModel_make_68 (r68 : Int32 → ySt → Option (ySt)) (k135 : ySt → Option (ySt)) (v1 : Int32) (ST : ySt) : Option (ySt) :=
  if (Y_bars ST) ≤ v1 then
  k135 ST
else
  if xin v1 24 = true then
    (xloop (fun r => f_MaskEdgesModel_make_83 r (f_MaskEdgesModel_make_129 r68)) (fun _ _ _ => none) 100000) v1 (Y_barY ST v1.toNatClampNeg) ST
  else none
def f_MaskEdgesModel_make_216 (r145 : Int32 → Int32 → ySt → Option (ySt)) (v1 : Int32) (v2 : Int32) (s0 : Int32) (s1 : Int32) (s2 : Int32) (ST : ySt) : Option (ySt) :=
  if xin s2 2401 = true then
  r145 v1 (v2 + (1 : Int32)) (Y_u_sums ST (upd (Y_sums ST) s2.toNatClampNeg (s1 + s0)))
else none
def f_MaskEdgesModel_make_145 (r145 : Int32 → Int32 → ySt → Option (ySt)) (k224 : Int32 → ySt → Option (ySt)) (v1 : Int32) (v2 : Int32) (ST : ySt) : Option (ySt) :=
  if (48 : Int32) ≤ v2 then
  k224 v1 ST
else
  if xin (((((49 : Int32) * (v1 + (1 : Int32))) + v2) + (1 : Int32)) - (1 : Int32)) 2401 = true then
    if xin (((((49 : Int32) * (v1 + (1 : Int32))) + v2) + (1 : Int32)) - (49 : Int32)) 2401 = true then
      if xin ((((((49 : Int32) * (v1 + (1 : Int32))) + v2) + (1 : Int32)) - (49 : Int32)) - (1 : Int32)) 2401 = true then
        if xin (((48 : Int32) * v1) + v2) 2304 = true then
          if (Y_mask ST (((48 : Int32) * v1) + v2).toNatClampNeg) = 0 then
            (f_MaskEdgesModel_make_216 r145) v1 v2 (0 : Int32) (((Y_sums ST (((((49 : Int32) * (v1 + (1 : Int32))) + v2) + (1 : Int32)) - (1 : Int32)).toNatClampNeg) + (Y_sums ST (((((49 : Int32) * (v1 + (1 : Int32))) + v2) + (1 : Int32)) - (49 : Int32)).toNatClampNeg)) - (Y_sums ST ((((((49 : Int32) * (v1 + (1 : Int32))) + v2) + (1 : Int32)) - (49 : Int32)) - (1 : Int32)).toNatClampNeg)) ((((49 : Int32) * (v1 + (1 : Int32))) + v2) + (1 : Int32)) ST
          else
            (f_MaskEdgesModel_make_216 r145) v1 v2 (1 : Int32) (((Y_sums ST (((((49 : Int32) * (v1 + (1 : Int32))) + v2) + (1 : Int32)) - (1 : Int32)).toNatClampNeg) + (Y_sums ST (((((49 : Int32) * (v1 + (1 : Int32))) + v2) + (1 : Int32)) - (49 : Int32)).toNatClampNeg)) - (Y_sums ST ((((((49 : Int32) * (v1 + (1 : Int32))) + v2) + (1 : Int32)) - (49 : Int32)) - (1 : Int32)).toNatClampNeg)) ((((49 : Int32) * (v1 + (1 : Int32))) + v2) + (1 : Int32)) ST
        else none
      else none
    else none
  else none
def f_MaskEdgesModel_make_224 (r137 : Int32 → ySt → Option (ySt)) (v1 : Int32) (ST : ySt) : Option (ySt) :=
  r137 (v1 + (1 : Int32)) ST
def f_MaskEdgesModel_make_137 (r137 : Int32 → ySt → Option (ySt)) (v1 : Int32) (ST : ySt) : Option (ySt) :=
  if (48 : Int32) ≤ v1 then
  some ST
else
  (xloop (fun r => f_MaskEdgesModel_make_145 r (f_MaskEdgesModel_make_224 r137)) (fun _ _ _ => none) 100000) v1 (0 : Int32) ST
def f_MaskEdgesModel_make_135 (ST : ySt) : Option (ySt) :=
  (xloop (fun r => f_MaskEdgesModel_make_137 r) (fun _ _ => none) 100000) (0 : Int32) ST
def f_MaskEdgesModel_make_66 (ST : ySt) : Option (ySt) :=
  (xloop (fun r => f_MaskEdgesModel_make_68 r f_MaskEdgesModel_make_135) (fun _ _ => none) 100000) (0 : Int32) ST
def f_MaskEdgesModel_make_45 (ST : ySt) : Option (ySt) :=
  (xloop (fun r => f_MaskEdgesModel_make_47 r f_MaskEdgesModel_make_66) (fun _ _ => none) 100000) (0 : Int32) ST
def f_MaskEdgesModel_make (ST : ySt) : Option (ySt) :=
  (xloop (fun r => f_MaskEdgesModel_make_2 r f_MaskEdgesModel_make_45) (fun _ _ => none) 100000) (0 : Int32) ST
set_option maxHeartbeats 4000000 in
set_option maxRecDepth 100000 in
theorem c_MaskEdgesModel_make (l : Launch) (X : xG) {H : Heap} (ad : Nat → Nat) (ST : ySt) {res : ySt} (hP : va_P X.1 vwCl (wY X ad ST) H) (hA : okB ad) (hf : f_MaskEdgesModel_make ST = some res) : xM l y_MaskEdgesModel_make (Cond.code y_MaskEdgesModel_make prog_8_method_19_code 4 none :: xT) ({ frames := 4, cells := 0, slots := 0, locals := 99 } : Room) (xK X) [.ref (ad 0)] H (yA ad) none (fun H1 => va_P X.1 vwCl (wY X ad res) H1) := by
  refine Met.ofW (cc := prog_8_method_19_code) (maxL := 4) (ret := none) (by decide) rfl ?_
  intro p e s m args below meth c s₁ B hml hv
  obtain ⟨ha, hH, hKK⟩ := hv
  subst hH
  have hx := B.exec
  have hb := B.bytes
  have hr := B.returns
  have ht : ∀ w ∈ xT, w.before args s = true := fun w h => atoms_spec (ws := (Cond.code y_MaskEdgesModel_make prog_8_method_19_code 4 none :: xT)) B.pre w (List.mem_cons_of_mem _ h)
  have hown : s.vm.findClass "MaskEdgesModel" = some m.cls := findClass_of_methodNamed B.named
  have hlocks := B.notSynchronized
  have hK := hKK.1
  rw [show entryFrame m args 4 = entryFrame m ([.ref (ad 0)] : List Value).toArray 4 from by rw [ha]]
  clear ha
  have hS : va_S (yA ad) s.heap s.heap [] := va_S.rf
  have hl := lv_entry ([.ref (ad 0)]) (n := 4) (Nat.le_of_ble_eq_true rfl)
  rw [lg_entry_eq]
  generalize (lg_sl ([.ref (ad 0)]) ++ List.replicate (4 - (lg_sl ([.ref (ad 0)])).length) Slot.unset).toArray = ls at hl ⊢
  replace hl : lv_has ls 4 [(0, .ref (ad 0))] := hl
  refine x_Q (fun Q hQ => ?_)
  have hL10 : ∀ (k39 : Int32 → ySt → Option (ySt)) (hk39 : ∀ (v1 : Int32) (ST : ySt), ∀ (H : Heap) (locs : List Loc), va_P X.1 vwCl (wY X ad ST) H → va_S (yA ad) s.heap H locs → ∀ (ls : Array Slot), lv_has ls 4 [(0, .ref (ad 0)), (1, .int v1)] → k39 v1 ST = some res → W p l e (headSpec (Cond.code y_MaskEdgesModel_make prog_8_method_19_code 4 none :: xT) ({ frames := 4, cells := 0, slots := 0, locals := 99 } : Room)).room s m args below meth c H locs 0 0 Q (F0 m 39 ls [])), ∀ (n : Nat), ∀ (v1 : Int32) (v2 : Int32) (ST : ySt), ∀ (H : Heap) (locs : List Loc), va_P X.1 vwCl (wY X ad ST) H → va_S (yA ad) s.heap H locs → ∀ (ls : Array Slot), lv_has ls 4 [(0, .ref (ad 0)), (1, .int v1), (2, .int v2)] → (xloop (fun r => f_MaskEdgesModel_make_10 r k39) (fun _ _ _ => none) n) v1 v2 ST = some res → W p l e (headSpec (Cond.code y_MaskEdgesModel_make prog_8_method_19_code 4 none :: xT) ({ frames := 4, cells := 0, slots := 0, locals := 99 } : Room)).room s m args below meth c H locs 0 0 Q (F0 m 10 ls []) := by
    intro k39 hk39
    intro n
    induction n with
    | zero => intro v1 v2 ST H locs hP hS ls hl hf; cases hf
    | succ n ih =>
      intro v1 v2 ST H locs hP hS ls hl hf
      replace hf : f_MaskEdgesModel_make_10 (xloop (fun r => f_MaskEdgesModel_make_10 r k39) (fun _ _ _ => none) n) k39 v1 v2 ST = some res := hf
      have hr10 := ih
      clear ih
      unfold f_MaskEdgesModel_make_10 at hf
      refine lv_iload_n hx hb d_MaskEdgesModel_make_10 rfl (lv_at hl 2 rfl) ?_
      refine lv_bipush (v := (48 : Int32)) hx hb d_MaskEdgesModel_make_11 (by decide) ?_
      refine lv_icmp_ge (tgt := 39) hx hb d_MaskEdgesModel_make_13 (by decide) (fun hc => ?_) (fun hc => ?_)
      · replace hf := x_t hc hf
        exact hk39 v1 ST _ _ hP hS ls (lv_sub hl [0, 1] rfl) hf
      · replace hf := x_f hc hf
        refine lv_aload_n hx hb d_MaskEdgesModel_make_16 rfl (lv_at hl 0 rfl) ?_
        refine va_get (D := X.1) (ci := 6) (v := .ref (ad 20)) (C := "MaskEdgesModel") (T := F_MaskEdgesModel) (N := 28) hx hb ht in_MaskEdgesModel hown hK hP 0 yg0 rfl 24 (by decide) (ht _ xw_471) (fun _ h9 => h9) rfl d_MaskEdgesModel_make_17 ?_
        refine lv_bipush (v := (48 : Int32)) hx hb d_MaskEdgesModel_make_20 (by decide) ?_
        refine lv_iload_n hx hb d_MaskEdgesModel_make_22 rfl (lv_at hl 1 rfl) ?_
        refine lv_imul hx hb d_MaskEdgesModel_make_23 ?_
        refine lv_iload_n hx hb d_MaskEdgesModel_make_24 rfl (lv_at hl 2 rfl) ?_
        refine lv_iadd hx hb d_MaskEdgesModel_make_25 ?_
        refine lv_aload_n hx hb d_MaskEdgesModel_make_26 rfl (lv_at hl 0 rfl) ?_
        refine lv_iload_n hx hb d_MaskEdgesModel_make_27 rfl (lv_at hl 2 rfl) ?_
        refine lv_iload_n hx hb d_MaskEdgesModel_make_28 rfl (lv_at hl 1 rfl) ?_
        obtain ⟨c29, e29, hf⟩ := x_b hf
        refine xcR (va_runV (As := [.int v2, .int v1]) (rest := [.int (((48 : Int32) * v1) + v2), .ref (ad 20)]) ⟨hx, hb, hml, hown, ht⟩ (c_MaskEdgesModel_isTarget l X ad ST v2 v1 hP e29) (cwV 2 ht (xgV xw_562 xw_563 xw_23 xw_43 xw_564) rfl rfl rfl (by decide +kernel) ⟨Nat.le_of_ble_eq_true rfl, Nat.le_of_ble_eq_true rfl⟩) (xPV hKK (va_recv hK hP (ci := 6) (q0 := 0) rfl yg0)) rfl rfl hl.1 rfl (lv_room (Nat.le_of_ble_eq_true rfl)) d_MaskEdgesModel_make_29 ⟨Nat.zero_le _, Nat.zero_le _⟩) ?_
        refine W.eq (g2 := F0 m 32 ls [.int c29, .int (((48 : Int32) * v1) + v2), .ref (ad 20)]) rfl ?_
        obtain ⟨g32, hf⟩ := x_g hf
        refine va_zast hx hb hK hP (yD hA) hS 20 5 yg20 rfl (xin_in g32) d_MaskEdgesModel_make_32 (fun H locs hP _ hS => ?_)
        replace hP : va_P X.1 vwCl (wY X ad (Y_u_mask ST (upd (Y_mask ST) (((48 : Int32) * v1) + v2).toNatClampNeg (vp_nar .boolean c29)))) H := xeq ym_mask hP
        refine lv_iinc (v := (v2 + (1 : Int32))) (lv' := [(2, .int (v2 + (1 : Int32))), (0, .ref (ad 0)), (1, .int v1)]) hx hb d_MaskEdgesModel_make_33 hl (k := 2) rfl rfl (by decide) rfl (fun ls hl => ?_)
        refine lv_goto (tgt := 10) hx hb d_MaskEdgesModel_make_36 (by decide) ?_
        exact hr10 v1 (v2 + (1 : Int32)) (Y_u_mask ST (upd (Y_mask ST) (((48 : Int32) * v1) + v2).toNatClampNeg (vp_nar .boolean c29))) _ _ hP hS ls (lv_sub hl [1, 2, 0] rfl) hf
  have hL39 : ∀ (r2 : Int32 → ySt → Option (ySt)) (hr2 : ∀ (v1 : Int32) (ST : ySt), ∀ (H : Heap) (locs : List Loc), va_P X.1 vwCl (wY X ad ST) H → va_S (yA ad) s.heap H locs → ∀ (ls : Array Slot), lv_has ls 4 [(0, .ref (ad 0)), (1, .int v1)] → r2 v1 ST = some res → W p l e (headSpec (Cond.code y_MaskEdgesModel_make prog_8_method_19_code 4 none :: xT) ({ frames := 4, cells := 0, slots := 0, locals := 99 } : Room)).room s m args below meth c H locs 0 0 Q (F0 m 2 ls [])), ∀ (v1 : Int32) (ST : ySt), ∀ (H : Heap) (locs : List Loc), va_P X.1 vwCl (wY X ad ST) H → va_S (yA ad) s.heap H locs → ∀ (ls : Array Slot), lv_has ls 4 [(0, .ref (ad 0)), (1, .int v1)] → f_MaskEdgesModel_make_39 r2 v1 ST = some res → W p l e (headSpec (Cond.code y_MaskEdgesModel_make prog_8_method_19_code 4 none :: xT) ({ frames := 4, cells := 0, slots := 0, locals := 99 } : Room)).room s m args below meth c H locs 0 0 Q (F0 m 39 ls []) := by
    intro r2 hr2 v1 ST H locs hP hS ls hl hf
    unfold f_MaskEdgesModel_make_39 at hf
    refine lv_iinc (v := (v1 + (1 : Int32))) (lv' := [(1, .int (v1 + (1 : Int32))), (0, .ref (ad 0))]) hx hb d_MaskEdgesModel_make_39 hl (k := 1) rfl rfl (by decide) rfl (fun ls hl => ?_)
    refine lv_goto (tgt := 2) hx hb d_MaskEdgesModel_make_42 (by decide) ?_
    exact hr2 (v1 + (1 : Int32)) ST _ _ hP hS ls (lv_sub hl [1, 0] rfl) hf
  have hL2 : ∀ (k45 : ySt → Option (ySt)) (hk45 : ∀ (ST : ySt), ∀ (H : Heap) (locs : List Loc), va_P X.1 vwCl (wY X ad ST) H → va_S (yA ad) s.heap H locs → ∀ (ls : Array Slot), lv_has ls 4 [(0, .ref (ad 0))] → k45 ST = some res → W p l e (headSpec (Cond.code y_MaskEdgesModel_make prog_8_method_19_code 4 none :: xT) ({ frames := 4, cells := 0, slots := 0, locals := 99 } : Room)).room s m args below meth c H locs 0 0 Q (F0 m 45 ls [])), ∀ (n : Nat), ∀ (v1 : Int32) (ST : ySt), ∀ (H : Heap) (locs : List Loc), va_P X.1 vwCl (wY X ad ST) H → va_S (yA ad) s.heap H locs → ∀ (ls : Array Slot), lv_has ls 4 [(0, .ref (ad 0)), (1, .int v1)] → (xloop (fun r => f_MaskEdgesModel_make_2 r k45) (fun _ _ => none) n) v1 ST = some res → W p l e (headSpec (Cond.code y_MaskEdgesModel_make prog_8_method_19_code 4 none :: xT) ({ frames := 4, cells := 0, slots := 0, locals := 99 } : Room)).room s m args below meth c H locs 0 0 Q (F0 m 2 ls []) := by
    intro k45 hk45
    intro n
    induction n with
    | zero => intro v1 ST H locs hP hS ls hl hf; cases hf
    | succ n ih =>
      intro v1 ST H locs hP hS ls hl hf
      replace hf : f_MaskEdgesModel_make_2 (xloop (fun r => f_MaskEdgesModel_make_2 r k45) (fun _ _ => none) n) k45 v1 ST = some res := hf
      have hr2 := ih
      clear ih
      unfold f_MaskEdgesModel_make_2 at hf
      refine lv_iload_n hx hb d_MaskEdgesModel_make_2 rfl (lv_at hl 1 rfl) ?_
      refine lv_bipush (v := (48 : Int32)) hx hb d_MaskEdgesModel_make_3 (by decide) ?_
      refine lv_icmp_ge (tgt := 45) hx hb d_MaskEdgesModel_make_5 (by decide) (fun hc => ?_) (fun hc => ?_)
      · replace hf := x_t hc hf
        exact hk45 ST _ _ hP hS ls (lv_sub hl [0] rfl) hf
      · replace hf := x_f hc hf
        refine lv_iconst (v := (0 : Int32)) hx hb d_MaskEdgesModel_make_8 (by decide) ?_
        refine lv_istore_n (lv' := [(2, .int (0 : Int32)), (0, .ref (ad 0)), (1, .int v1)]) hx hb d_MaskEdgesModel_make_9 rfl hl (by decide) rfl (fun ls hl => ?_)
        exact (hL10 _ (hL39 _ hr2) 100000) v1 (0 : Int32) ST _ _ hP hS ls (lv_sub hl [1, 2, 0] rfl) hf
  have hL47 : ∀ (k66 : ySt → Option (ySt)) (hk66 : ∀ (ST : ySt), ∀ (H : Heap) (locs : List Loc), va_P X.1 vwCl (wY X ad ST) H → va_S (yA ad) s.heap H locs → ∀ (ls : Array Slot), lv_has ls 4 [(0, .ref (ad 0))] → k66 ST = some res → W p l e (headSpec (Cond.code y_MaskEdgesModel_make prog_8_method_19_code 4 none :: xT) ({ frames := 4, cells := 0, slots := 0, locals := 99 } : Room)).room s m args below meth c H locs 0 0 Q (F0 m 66 ls [])), ∀ (n : Nat), ∀ (v1 : Int32) (ST : ySt), ∀ (H : Heap) (locs : List Loc), va_P X.1 vwCl (wY X ad ST) H → va_S (yA ad) s.heap H locs → ∀ (ls : Array Slot), lv_has ls 4 [(0, .ref (ad 0)), (1, .int v1)] → (xloop (fun r => f_MaskEdgesModel_make_47 r k66) (fun _ _ => none) n) v1 ST = some res → W p l e (headSpec (Cond.code y_MaskEdgesModel_make prog_8_method_19_code 4 none :: xT) ({ frames := 4, cells := 0, slots := 0, locals := 99 } : Room)).room s m args below meth c H locs 0 0 Q (F0 m 47 ls []) := by
    intro k66 hk66
    intro n
    induction n with
    | zero => intro v1 ST H locs hP hS ls hl hf; cases hf
    | succ n ih =>
      intro v1 ST H locs hP hS ls hl hf
      replace hf : f_MaskEdgesModel_make_47 (xloop (fun r => f_MaskEdgesModel_make_47 r k66) (fun _ _ => none) n) k66 v1 ST = some res := hf
      have hr47 := ih
      clear ih
      unfold f_MaskEdgesModel_make_47 at hf
      refine lv_iload_n hx hb d_MaskEdgesModel_make_47 rfl (lv_at hl 1 rfl) ?_
      refine lv_aload_n hx hb d_MaskEdgesModel_make_48 rfl (lv_at hl 0 rfl) ?_
      refine va_get (D := X.1) (ci := 6) (v := .int (Y_pieces ST)) (C := "MaskEdgesModel") (T := F_MaskEdgesModel) (N := 28) hx hb ht in_MaskEdgesModel hown hK hP 0 yg0 rfl 9 (by decide) (ht _ xw_456) (fun _ h9 => h9) rfl d_MaskEdgesModel_make_49 ?_
      refine lv_icmp_ge (tgt := 66) hx hb d_MaskEdgesModel_make_52 (by decide) (fun hc => ?_) (fun hc => ?_)
      · replace hf := x_t hc hf
        exact hk66 ST _ _ hP hS ls (lv_sub hl [0] rfl) hf
      · replace hf := x_f hc hf
        refine lv_aload_n hx hb d_MaskEdgesModel_make_55 rfl (lv_at hl 0 rfl) ?_
        refine lv_iload_n hx hb d_MaskEdgesModel_make_56 rfl (lv_at hl 1 rfl) ?_
        obtain ⟨c57, e57, hf⟩ := x_b hf
        refine xc (va_runV (As := [.int v1]) (rest := []) ⟨hx, hb, hml, hown, ht⟩ (c_MaskEdgesModel_putPiece l X ad ST v1 hP hA e57) (cwV 1 ht (xgV xw_565 xw_566 xw_24 xw_43 xw_567) rfl rfl rfl (by decide +kernel) ⟨Nat.le_of_ble_eq_true rfl, Nat.le_of_ble_eq_true rfl⟩) (xPV hKK (va_recv hK hP (ci := 6) (q0 := 0) rfl yg0)) rfl rfl hl.1 rfl (lv_room (Nat.le_of_ble_eq_true rfl)) d_MaskEdgesModel_make_57 ⟨Nat.zero_le _, Nat.zero_le _⟩) (fun H1 L hq hz => ?_)
        replace hS := xS_call hS hz (fun _ h => h)
        replace hP : va_P X.1 vwCl (wY X ad c57) H1 := hq
        clear hq hz
        refine W.eq (g2 := F0 m 60 ls []) rfl ?_
        refine lv_iinc (v := (v1 + (1 : Int32))) (lv' := [(1, .int (v1 + (1 : Int32))), (0, .ref (ad 0))]) hx hb d_MaskEdgesModel_make_60 hl (k := 1) rfl rfl (by decide) rfl (fun ls hl => ?_)
        refine lv_goto (tgt := 47) hx hb d_MaskEdgesModel_make_63 (by decide) ?_
        exact hr47 (v1 + (1 : Int32)) c57 _ _ hP hS ls (lv_sub hl [1, 0] rfl) hf
  have hL100 : ∀ (k123 : Int32 → Int32 → ySt → Option (ySt)) (hk123 : ∀ (v1 : Int32) (v2 : Int32) (ST : ySt), ∀ (H : Heap) (locs : List Loc), va_P X.1 vwCl (wY X ad ST) H → va_S (yA ad) s.heap H locs → ∀ (ls : Array Slot), lv_has ls 4 [(0, .ref (ad 0)), (1, .int v1), (2, .int v2)] → k123 v1 v2 ST = some res → W p l e (headSpec (Cond.code y_MaskEdgesModel_make prog_8_method_19_code 4 none :: xT) ({ frames := 4, cells := 0, slots := 0, locals := 99 } : Room)).room s m args below meth c H locs 0 0 Q (F0 m 123 ls [])), ∀ (n : Nat), ∀ (v1 : Int32) (v2 : Int32) (v3 : Int32) (ST : ySt), ∀ (H : Heap) (locs : List Loc), va_P X.1 vwCl (wY X ad ST) H → va_S (yA ad) s.heap H locs → ∀ (ls : Array Slot), lv_has ls 4 [(0, .ref (ad 0)), (1, .int v1), (2, .int v2), (3, .int v3)] → (xloop (fun r => f_MaskEdgesModel_make_100 r k123) (fun _ _ _ _ => none) n) v1 v2 v3 ST = some res → W p l e (headSpec (Cond.code y_MaskEdgesModel_make prog_8_method_19_code 4 none :: xT) ({ frames := 4, cells := 0, slots := 0, locals := 99 } : Room)).room s m args below meth c H locs 0 0 Q (F0 m 100 ls []) := by
    intro k123 hk123
    intro n
    induction n with
    | zero => intro v1 v2 v3 ST H locs hP hS ls hl hf; cases hf
    | succ n ih =>
      intro v1 v2 v3 ST H locs hP hS ls hl hf
      replace hf : f_MaskEdgesModel_make_100 (xloop (fun r => f_MaskEdgesModel_make_100 r k123) (fun _ _ _ _ => none) n) k123 v1 v2 v3 ST = some res := hf
      have hr100 := ih
      clear ih
      unfold f_MaskEdgesModel_make_100 at hf
      refine lv_iload_n hx hb d_MaskEdgesModel_make_100 rfl (lv_at hl 3 rfl) ?_
      refine lv_aload_n hx hb d_MaskEdgesModel_make_101 rfl (lv_at hl 0 rfl) ?_
      refine va_get (D := X.1) (ci := 6) (v := .ref (ad 18)) (C := "MaskEdgesModel") (T := F_MaskEdgesModel) (N := 28) hx hb ht in_MaskEdgesModel hown hK hP 0 yg0 rfl 22 (by decide) (ht _ xw_469) (fun _ h9 => h9) rfl d_MaskEdgesModel_make_102 ?_
      refine lv_iload_n hx hb d_MaskEdgesModel_make_105 rfl (lv_at hl 1 rfl) ?_
      obtain ⟨g106, hf⟩ := x_g hf
      refine va_iald hx hb hK hP 18 0 yg18 rfl (xin_in g106) d_MaskEdgesModel_make_106 ?_
      refine lv_icmp_gt (tgt := 123) hx hb d_MaskEdgesModel_make_107 (by decide) (fun hc => ?_) (fun hc => ?_)
      · replace hf := x_t hc hf
        exact hk123 v1 v2 ST _ _ hP hS ls (lv_sub hl [0, 1, 2] rfl) hf
      · replace hf := x_f hc hf
        refine lv_aload_n hx hb d_MaskEdgesModel_make_110 rfl (lv_at hl 0 rfl) ?_
        refine lv_iload_n hx hb d_MaskEdgesModel_make_111 rfl (lv_at hl 3 rfl) ?_
        refine lv_iload_n hx hb d_MaskEdgesModel_make_112 rfl (lv_at hl 2 rfl) ?_
        refine lv_iconst (v := (1 : Int32)) hx hb d_MaskEdgesModel_make_113 (by decide) ?_
        obtain ⟨c114, e114, hf⟩ := x_b hf
        refine xc (va_runV (As := [.int v3, .int v2, .int (1 : Int32)]) (rest := []) ⟨hx, hb, hml, hown, ht⟩ (c_MaskEdgesModel_put l X ad ST v3 v2 (1 : Int32) hP hA e114) (cwV 3 ht (xgV xw_568 xw_569 xw_25 xw_43 xw_570) rfl rfl rfl (by decide +kernel) ⟨Nat.le_of_ble_eq_true rfl, Nat.le_of_ble_eq_true rfl⟩) (xPV hKK (va_recv hK hP (ci := 6) (q0 := 0) rfl yg0)) rfl rfl hl.1 rfl (lv_room (Nat.le_of_ble_eq_true rfl)) d_MaskEdgesModel_make_114 ⟨Nat.zero_le _, Nat.zero_le _⟩) (fun H1 L hq hz => ?_)
        replace hS := xS_call hS hz (fun _ h => h)
        replace hP : va_P X.1 vwCl (wY X ad c114) H1 := hq
        clear hq hz
        refine W.eq (g2 := F0 m 117 ls []) rfl ?_
        refine lv_iinc (v := (v3 + (1 : Int32))) (lv' := [(3, .int (v3 + (1 : Int32))), (0, .ref (ad 0)), (1, .int v1), (2, .int v2)]) hx hb d_MaskEdgesModel_make_117 hl (k := 3) rfl rfl (by decide) rfl (fun ls hl => ?_)
        refine lv_goto (tgt := 100) hx hb d_MaskEdgesModel_make_120 (by decide) ?_
        exact hr100 v1 v2 (v3 + (1 : Int32)) c114 _ _ hP hS ls (lv_sub hl [1, 2, 3, 0] rfl) hf
  have hL123 : ∀ (r83 : Int32 → Int32 → ySt → Option (ySt)) (hr83 : ∀ (v1 : Int32) (v2 : Int32) (ST : ySt), ∀ (H : Heap) (locs : List Loc), va_P X.1 vwCl (wY X ad ST) H → va_S (yA ad) s.heap H locs → ∀ (ls : Array Slot), lv_has ls 4 [(0, .ref (ad 0)), (1, .int v1), (2, .int v2)] → r83 v1 v2 ST = some res → W p l e (headSpec (Cond.code y_MaskEdgesModel_make prog_8_method_19_code 4 none :: xT) ({ frames := 4, cells := 0, slots := 0, locals := 99 } : Room)).room s m args below meth c H locs 0 0 Q (F0 m 83 ls [])), ∀ (v1 : Int32) (v2 : Int32) (ST : ySt), ∀ (H : Heap) (locs : List Loc), va_P X.1 vwCl (wY X ad ST) H → va_S (yA ad) s.heap H locs → ∀ (ls : Array Slot), lv_has ls 4 [(0, .ref (ad 0)), (1, .int v1), (2, .int v2)] → f_MaskEdgesModel_make_123 r83 v1 v2 ST = some res → W p l e (headSpec (Cond.code y_MaskEdgesModel_make prog_8_method_19_code 4 none :: xT) ({ frames := 4, cells := 0, slots := 0, locals := 99 } : Room)).room s m args below meth c H locs 0 0 Q (F0 m 123 ls []) := by
    intro r83 hr83 v1 v2 ST H locs hP hS ls hl hf
    unfold f_MaskEdgesModel_make_123 at hf
    refine lv_iinc (v := (v2 + (1 : Int32))) (lv' := [(2, .int (v2 + (1 : Int32))), (0, .ref (ad 0)), (1, .int v1)]) hx hb d_MaskEdgesModel_make_123 hl (k := 2) rfl rfl (by decide) rfl (fun ls hl => ?_)
    refine lv_goto (tgt := 83) hx hb d_MaskEdgesModel_make_126 (by decide) ?_
    exact hr83 v1 (v2 + (1 : Int32)) ST _ _ hP hS ls (lv_sub hl [1, 2, 0] rfl) hf
  have hL83 : ∀ (k129 : Int32 → ySt → Option (ySt)) (hk129 : ∀ (v1 : Int32) (ST : ySt), ∀ (H : Heap) (locs : List Loc), va_P X.1 vwCl (wY X ad ST) H → va_S (yA ad) s.heap H locs → ∀ (ls : Array Slot), lv_has ls 4 [(0, .ref (ad 0)), (1, .int v1)] → k129 v1 ST = some res → W p l e (headSpec (Cond.code y_MaskEdgesModel_make prog_8_method_19_code 4 none :: xT) ({ frames := 4, cells := 0, slots := 0, locals := 99 } : Room)).room s m args below meth c H locs 0 0 Q (F0 m 129 ls [])), ∀ (n : Nat), ∀ (v1 : Int32) (v2 : Int32) (ST : ySt), ∀ (H : Heap) (locs : List Loc), va_P X.1 vwCl (wY X ad ST) H → va_S (yA ad) s.heap H locs → ∀ (ls : Array Slot), lv_has ls 4 [(0, .ref (ad 0)), (1, .int v1), (2, .int v2)] → (xloop (fun r => f_MaskEdgesModel_make_83 r k129) (fun _ _ _ => none) n) v1 v2 ST = some res → W p l e (headSpec (Cond.code y_MaskEdgesModel_make prog_8_method_19_code 4 none :: xT) ({ frames := 4, cells := 0, slots := 0, locals := 99 } : Room)).room s m args below meth c H locs 0 0 Q (F0 m 83 ls []) := by
    intro k129 hk129
    intro n
    induction n with
    | zero => intro v1 v2 ST H locs hP hS ls hl hf; cases hf
    | succ n ih =>
      intro v1 v2 ST H locs hP hS ls hl hf
      replace hf : f_MaskEdgesModel_make_83 (xloop (fun r => f_MaskEdgesModel_make_83 r k129) (fun _ _ _ => none) n) k129 v1 v2 ST = some res := hf
      have hr83 := ih
      clear ih
      unfold f_MaskEdgesModel_make_83 at hf
      refine lv_iload_n hx hb d_MaskEdgesModel_make_83 rfl (lv_at hl 2 rfl) ?_
      refine lv_aload_n hx hb d_MaskEdgesModel_make_84 rfl (lv_at hl 0 rfl) ?_
      refine va_get (D := X.1) (ci := 6) (v := .ref (ad 19)) (C := "MaskEdgesModel") (T := F_MaskEdgesModel) (N := 28) hx hb ht in_MaskEdgesModel hown hK hP 0 yg0 rfl 23 (by decide) (ht _ xw_470) (fun _ h9 => h9) rfl d_MaskEdgesModel_make_85 ?_
      refine lv_iload_n hx hb d_MaskEdgesModel_make_88 rfl (lv_at hl 1 rfl) ?_
      obtain ⟨g89, hf⟩ := x_g hf
      refine va_iald hx hb hK hP 19 0 yg19 rfl (xin_in g89) d_MaskEdgesModel_make_89 ?_
      refine lv_icmp_gt (tgt := 129) hx hb d_MaskEdgesModel_make_90 (by decide) (fun hc => ?_) (fun hc => ?_)
      · replace hf := x_t hc hf
        exact hk129 v1 ST _ _ hP hS ls (lv_sub hl [0, 1] rfl) hf
      · replace hf := x_f hc hf
        refine lv_aload_n hx hb d_MaskEdgesModel_make_93 rfl (lv_at hl 0 rfl) ?_
        refine va_get (D := X.1) (ci := 6) (v := .ref (ad 16)) (C := "MaskEdgesModel") (T := F_MaskEdgesModel) (N := 28) hx hb ht in_MaskEdgesModel hown hK hP 0 yg0 rfl 20 (by decide) (ht _ xw_467) (fun _ h9 => h9) rfl d_MaskEdgesModel_make_94 ?_
        refine lv_iload_n hx hb d_MaskEdgesModel_make_97 rfl (lv_at hl 1 rfl) ?_
        obtain ⟨g98, hf⟩ := x_g hf
        refine va_iald hx hb hK hP 16 0 yg16 rfl (xin_in g98) d_MaskEdgesModel_make_98 ?_
        refine lv_istore_n (lv' := [(3, .int (Y_barX ST v1.toNatClampNeg)), (0, .ref (ad 0)), (1, .int v1), (2, .int v2)]) hx hb d_MaskEdgesModel_make_99 rfl hl (by decide) rfl (fun ls hl => ?_)
        exact (hL100 _ (hL123 _ hr83) 100000) v1 v2 (Y_barX ST v1.toNatClampNeg) ST _ _ hP hS ls (lv_sub hl [1, 2, 3, 0] rfl) hf
  have hL129 : ∀ (r68 : Int32 → ySt → Option (ySt)) (hr68 : ∀ (v1 : Int32) (ST : ySt), ∀ (H : Heap) (locs : List Loc), va_P X.1 vwCl (wY X ad ST) H → va_S (yA ad) s.heap H locs → ∀ (ls : Array Slot), lv_has ls 4 [(0, .ref (ad 0)), (1, .int v1)] → r68 v1 ST = some res → W p l e (headSpec (Cond.code y_MaskEdgesModel_make prog_8_method_19_code 4 none :: xT) ({ frames := 4, cells := 0, slots := 0, locals := 99 } : Room)).room s m args below meth c H locs 0 0 Q (F0 m 68 ls [])), ∀ (v1 : Int32) (ST : ySt), ∀ (H : Heap) (locs : List Loc), va_P X.1 vwCl (wY X ad ST) H → va_S (yA ad) s.heap H locs → ∀ (ls : Array Slot), lv_has ls 4 [(0, .ref (ad 0)), (1, .int v1)] → f_MaskEdgesModel_make_129 r68 v1 ST = some res → W p l e (headSpec (Cond.code y_MaskEdgesModel_make prog_8_method_19_code 4 none :: xT) ({ frames := 4, cells := 0, slots := 0, locals := 99 } : Room)).room s m args below meth c H locs 0 0 Q (F0 m 129 ls []) := by
    intro r68 hr68 v1 ST H locs hP hS ls hl hf
    unfold f_MaskEdgesModel_make_129 at hf
    refine lv_iinc (v := (v1 + (1 : Int32))) (lv' := [(1, .int (v1 + (1 : Int32))), (0, .ref (ad 0))]) hx hb d_MaskEdgesModel_make_129 hl (k := 1) rfl rfl (by decide) rfl (fun ls hl => ?_)
    refine lv_goto (tgt := 68) hx hb d_MaskEdgesModel_make_132 (by decide) ?_
    exact hr68 (v1 + (1 : Int32)) ST _ _ hP hS ls (lv_sub hl [1, 0] rfl) hf
  have hL68 : ∀ (k135 : ySt → Option (ySt)) (hk135 : ∀ (ST : ySt), ∀ (H : Heap) (locs : List Loc), va_P X.1 vwCl (wY X ad ST) H → va_S (yA ad) s.heap H locs → ∀ (ls : Array Slot), lv_has ls 4 [(0, .ref (ad 0))] → k135 ST = some res → W p l e (headSpec (Cond.code y_MaskEdgesModel_make prog_8_method_19_code 4 none :: xT) ({ frames := 4, cells := 0, slots := 0, locals := 99 } : Room)).room s m args below meth c H locs 0 0 Q (F0 m 135 ls [])), ∀ (n : Nat), ∀ (v1 : Int32) (ST : ySt), ∀ (H : Heap) (locs : List Loc), va_P X.1 vwCl (wY X ad ST) H → va_S (yA ad) s.heap H locs → ∀ (ls : Array Slot), lv_has ls 4 [(0, .ref (ad 0)), (1, .int v1)] → (xloop (fun r => f_MaskEdgesModel_make_68 r k135) (fun _ _ => none) n) v1 ST = some res → W p l e (headSpec (Cond.code y_MaskEdgesModel_make prog_8_method_19_code 4 none :: xT) ({ frames := 4, cells := 0, slots := 0, locals := 99 } : Room)).room s m args below meth c H locs 0 0 Q (F0 m 68 ls []) := by
    intro k135 hk135
    intro n
    induction n with
    | zero => intro v1 ST H locs hP hS ls hl hf; cases hf
    | succ n ih =>
      intro v1 ST H locs hP hS ls hl hf
      replace hf : f_MaskEdgesModel_make_68 (xloop (fun r => f_MaskEdgesModel_make_68 r k135) (fun _ _ => none) n) k135 v1 ST = some res := hf
      have hr68 := ih
      clear ih
      unfold f_MaskEdgesModel_make_68 at hf
      refine lv_iload_n hx hb d_MaskEdgesModel_make_68 rfl (lv_at hl 1 rfl) ?_
      refine lv_aload_n hx hb d_MaskEdgesModel_make_69 rfl (lv_at hl 0 rfl) ?_
      refine va_get (D := X.1) (ci := 6) (v := .int (Y_bars ST)) (C := "MaskEdgesModel") (T := F_MaskEdgesModel) (N := 28) hx hb ht in_MaskEdgesModel hown hK hP 0 yg0 rfl 19 (by decide) (ht _ xw_466) (fun _ h9 => h9) rfl d_MaskEdgesModel_make_70 ?_
      refine lv_icmp_ge (tgt := 135) hx hb d_MaskEdgesModel_make_73 (by decide) (fun hc => ?_) (fun hc => ?_)
      · replace hf := x_t hc hf
        exact hk135 ST _ _ hP hS ls (lv_sub hl [0] rfl) hf
      · replace hf := x_f hc hf
        refine lv_aload_n hx hb d_MaskEdgesModel_make_76 rfl (lv_at hl 0 rfl) ?_
        refine va_get (D := X.1) (ci := 6) (v := .ref (ad 17)) (C := "MaskEdgesModel") (T := F_MaskEdgesModel) (N := 28) hx hb ht in_MaskEdgesModel hown hK hP 0 yg0 rfl 21 (by decide) (ht _ xw_468) (fun _ h9 => h9) rfl d_MaskEdgesModel_make_77 ?_
        refine lv_iload_n hx hb d_MaskEdgesModel_make_80 rfl (lv_at hl 1 rfl) ?_
        obtain ⟨g81, hf⟩ := x_g hf
        refine va_iald hx hb hK hP 17 0 yg17 rfl (xin_in g81) d_MaskEdgesModel_make_81 ?_
        refine lv_istore_n (lv' := [(2, .int (Y_barY ST v1.toNatClampNeg)), (0, .ref (ad 0)), (1, .int v1)]) hx hb d_MaskEdgesModel_make_82 rfl hl (by decide) rfl (fun ls hl => ?_)
        exact (hL83 _ (hL129 _ hr68) 100000) v1 (Y_barY ST v1.toNatClampNeg) ST _ _ hP hS ls (lv_sub hl [1, 2, 0] rfl) hf
  have hL216 : ∀ (r145 : Int32 → Int32 → ySt → Option (ySt)) (hr145 : ∀ (v1 : Int32) (v2 : Int32) (ST : ySt), ∀ (H : Heap) (locs : List Loc), va_P X.1 vwCl (wY X ad ST) H → va_S (yA ad) s.heap H locs → ∀ (ls : Array Slot), lv_has ls 4 [(0, .ref (ad 0)), (1, .int v1), (2, .int v2)] → r145 v1 v2 ST = some res → W p l e (headSpec (Cond.code y_MaskEdgesModel_make prog_8_method_19_code 4 none :: xT) ({ frames := 4, cells := 0, slots := 0, locals := 99 } : Room)).room s m args below meth c H locs 0 0 Q (F0 m 145 ls [])), ∀ (v1 : Int32) (v2 : Int32) (s0 : Int32) (s1 : Int32) (s2 : Int32) (ST : ySt), ∀ (H : Heap) (locs : List Loc), va_P X.1 vwCl (wY X ad ST) H → va_S (yA ad) s.heap H locs → ∀ (ls : Array Slot), lv_has ls 4 [(0, .ref (ad 0)), (1, .int v1), (2, .int v2)] → f_MaskEdgesModel_make_216 r145 v1 v2 s0 s1 s2 ST = some res → W p l e (headSpec (Cond.code y_MaskEdgesModel_make prog_8_method_19_code 4 none :: xT) ({ frames := 4, cells := 0, slots := 0, locals := 99 } : Room)).room s m args below meth c H locs 0 0 Q (F0 m 216 ls [.int s0, .int s1, .int s2, .ref (ad 21)]) := by
    intro r145 hr145 v1 v2 s0 s1 s2 ST H locs hP hS ls hl hf
    unfold f_MaskEdgesModel_make_216 at hf
    refine lv_iadd hx hb d_MaskEdgesModel_make_216 ?_
    obtain ⟨g217, hf⟩ := x_g hf
    refine va_iast hx hb hK hP (yD hA) hS 21 0 yg21 rfl (xin_in g217) d_MaskEdgesModel_make_217 (fun H locs hP _ hS => ?_)
    replace hP : va_P X.1 vwCl (wY X ad (Y_u_sums ST (upd (Y_sums ST) s2.toNatClampNeg (s1 + s0)))) H := xeq ym_sums hP
    refine lv_iinc (v := (v2 + (1 : Int32))) (lv' := [(2, .int (v2 + (1 : Int32))), (0, .ref (ad 0)), (1, .int v1)]) hx hb d_MaskEdgesModel_make_218 hl (k := 2) rfl rfl (by decide) rfl (fun ls hl => ?_)
    refine lv_goto (tgt := 145) hx hb d_MaskEdgesModel_make_221 (by decide) ?_
    exact hr145 v1 (v2 + (1 : Int32)) (Y_u_sums ST (upd (Y_sums ST) s2.toNatClampNeg (s1 + s0))) _ _ hP hS ls (lv_sub hl [1, 2, 0] rfl) hf
  have hL145 : ∀ (k224 : Int32 → ySt → Option (ySt)) (hk224 : ∀ (v1 : Int32) (ST : ySt), ∀ (H : Heap) (locs : List Loc), va_P X.1 vwCl (wY X ad ST) H → va_S (yA ad) s.heap H locs → ∀ (ls : Array Slot), lv_has ls 4 [(0, .ref (ad 0)), (1, .int v1)] → k224 v1 ST = some res → W p l e (headSpec (Cond.code y_MaskEdgesModel_make prog_8_method_19_code 4 none :: xT) ({ frames := 4, cells := 0, slots := 0, locals := 99 } : Room)).room s m args below meth c H locs 0 0 Q (F0 m 224 ls [])), ∀ (n : Nat), ∀ (v1 : Int32) (v2 : Int32) (ST : ySt), ∀ (H : Heap) (locs : List Loc), va_P X.1 vwCl (wY X ad ST) H → va_S (yA ad) s.heap H locs → ∀ (ls : Array Slot), lv_has ls 4 [(0, .ref (ad 0)), (1, .int v1), (2, .int v2)] → (xloop (fun r => f_MaskEdgesModel_make_145 r k224) (fun _ _ _ => none) n) v1 v2 ST = some res → W p l e (headSpec (Cond.code y_MaskEdgesModel_make prog_8_method_19_code 4 none :: xT) ({ frames := 4, cells := 0, slots := 0, locals := 99 } : Room)).room s m args below meth c H locs 0 0 Q (F0 m 145 ls []) := by
    intro k224 hk224
    intro n
    induction n with
    | zero => intro v1 v2 ST H locs hP hS ls hl hf; cases hf
    | succ n ih =>
      intro v1 v2 ST H locs hP hS ls hl hf
      replace hf : f_MaskEdgesModel_make_145 (xloop (fun r => f_MaskEdgesModel_make_145 r k224) (fun _ _ _ => none) n) k224 v1 v2 ST = some res := hf
      have hr145 := ih
      clear ih
      unfold f_MaskEdgesModel_make_145 at hf
      refine lv_iload_n hx hb d_MaskEdgesModel_make_145 rfl (lv_at hl 2 rfl) ?_
      refine lv_bipush (v := (48 : Int32)) hx hb d_MaskEdgesModel_make_146 (by decide) ?_
      refine lv_icmp_ge (tgt := 224) hx hb d_MaskEdgesModel_make_148 (by decide) (fun hc => ?_) (fun hc => ?_)
      · replace hf := x_t hc hf
        exact hk224 v1 ST _ _ hP hS ls (lv_sub hl [0, 1] rfl) hf
      · replace hf := x_f hc hf
        refine lv_bipush (v := (49 : Int32)) hx hb d_MaskEdgesModel_make_151 (by decide) ?_
        refine lv_iload_n hx hb d_MaskEdgesModel_make_153 rfl (lv_at hl 1 rfl) ?_
        refine lv_iconst (v := (1 : Int32)) hx hb d_MaskEdgesModel_make_154 (by decide) ?_
        refine lv_iadd hx hb d_MaskEdgesModel_make_155 ?_
        refine lv_imul hx hb d_MaskEdgesModel_make_156 ?_
        refine lv_iload_n hx hb d_MaskEdgesModel_make_157 rfl (lv_at hl 2 rfl) ?_
        refine lv_iadd hx hb d_MaskEdgesModel_make_158 ?_
        refine lv_iconst (v := (1 : Int32)) hx hb d_MaskEdgesModel_make_159 (by decide) ?_
        refine lv_iadd hx hb d_MaskEdgesModel_make_160 ?_
        refine lv_istore_n (lv' := [(3, .int ((((49 : Int32) * (v1 + (1 : Int32))) + v2) + (1 : Int32))), (0, .ref (ad 0)), (1, .int v1), (2, .int v2)]) hx hb d_MaskEdgesModel_make_161 rfl hl (by decide) rfl (fun ls hl => ?_)
        refine lv_aload_n hx hb d_MaskEdgesModel_make_162 rfl (lv_at hl 1 rfl) ?_
        refine va_get (D := X.1) (ci := 6) (v := .ref (ad 21)) (C := "MaskEdgesModel") (T := F_MaskEdgesModel) (N := 28) hx hb ht in_MaskEdgesModel hown hK hP 0 yg0 rfl 25 (by decide) (ht _ xw_472) (fun _ h9 => h9) rfl d_MaskEdgesModel_make_163 ?_
        refine lv_iload_n hx hb d_MaskEdgesModel_make_166 rfl (lv_at hl 0 rfl) ?_
        refine lv_aload_n hx hb d_MaskEdgesModel_make_167 rfl (lv_at hl 1 rfl) ?_
        refine va_get (D := X.1) (ci := 6) (v := .ref (ad 21)) (C := "MaskEdgesModel") (T := F_MaskEdgesModel) (N := 28) hx hb ht in_MaskEdgesModel hown hK hP 0 yg0 rfl 25 (by decide) (ht _ xw_472) (fun _ h9 => h9) rfl d_MaskEdgesModel_make_168 ?_
        refine lv_iload_n hx hb d_MaskEdgesModel_make_171 rfl (lv_at hl 0 rfl) ?_
        refine lv_iconst (v := (1 : Int32)) hx hb d_MaskEdgesModel_make_172 (by decide) ?_
        refine lv_isub hx hb d_MaskEdgesModel_make_173 ?_
        obtain ⟨g174, hf⟩ := x_g hf
        refine va_iald hx hb hK hP 21 0 yg21 rfl (xin_in g174) d_MaskEdgesModel_make_174 ?_
        refine lv_aload_n hx hb d_MaskEdgesModel_make_175 rfl (lv_at hl 1 rfl) ?_
        refine va_get (D := X.1) (ci := 6) (v := .ref (ad 21)) (C := "MaskEdgesModel") (T := F_MaskEdgesModel) (N := 28) hx hb ht in_MaskEdgesModel hown hK hP 0 yg0 rfl 25 (by decide) (ht _ xw_472) (fun _ h9 => h9) rfl d_MaskEdgesModel_make_176 ?_
        refine lv_iload_n hx hb d_MaskEdgesModel_make_179 rfl (lv_at hl 0 rfl) ?_
        refine lv_bipush (v := (49 : Int32)) hx hb d_MaskEdgesModel_make_180 (by decide) ?_
        refine lv_isub hx hb d_MaskEdgesModel_make_182 ?_
        obtain ⟨g183, hf⟩ := x_g hf
        refine va_iald hx hb hK hP 21 0 yg21 rfl (xin_in g183) d_MaskEdgesModel_make_183 ?_
        refine lv_iadd hx hb d_MaskEdgesModel_make_184 ?_
        refine lv_aload_n hx hb d_MaskEdgesModel_make_185 rfl (lv_at hl 1 rfl) ?_
        refine va_get (D := X.1) (ci := 6) (v := .ref (ad 21)) (C := "MaskEdgesModel") (T := F_MaskEdgesModel) (N := 28) hx hb ht in_MaskEdgesModel hown hK hP 0 yg0 rfl 25 (by decide) (ht _ xw_472) (fun _ h9 => h9) rfl d_MaskEdgesModel_make_186 ?_
        refine lv_iload_n hx hb d_MaskEdgesModel_make_189 rfl (lv_at hl 0 rfl) ?_
        refine lv_bipush (v := (49 : Int32)) hx hb d_MaskEdgesModel_make_190 (by decide) ?_
        refine lv_isub hx hb d_MaskEdgesModel_make_192 ?_
        refine lv_iconst (v := (1 : Int32)) hx hb d_MaskEdgesModel_make_193 (by decide) ?_
        refine lv_isub hx hb d_MaskEdgesModel_make_194 ?_
        obtain ⟨g195, hf⟩ := x_g hf
        refine va_iald hx hb hK hP 21 0 yg21 rfl (xin_in g195) d_MaskEdgesModel_make_195 ?_
        refine lv_isub hx hb d_MaskEdgesModel_make_196 ?_
        refine lv_aload_n hx hb d_MaskEdgesModel_make_197 rfl (lv_at hl 1 rfl) ?_
        refine va_get (D := X.1) (ci := 6) (v := .ref (ad 20)) (C := "MaskEdgesModel") (T := F_MaskEdgesModel) (N := 28) hx hb ht in_MaskEdgesModel hown hK hP 0 yg0 rfl 24 (by decide) (ht _ xw_471) (fun _ h9 => h9) rfl d_MaskEdgesModel_make_198 ?_
        refine lv_bipush (v := (48 : Int32)) hx hb d_MaskEdgesModel_make_201 (by decide) ?_
        refine lv_iload_n hx hb d_MaskEdgesModel_make_203 rfl (lv_at hl 2 rfl) ?_
        refine lv_imul hx hb d_MaskEdgesModel_make_204 ?_
        refine lv_iload_n hx hb d_MaskEdgesModel_make_205 rfl (lv_at hl 3 rfl) ?_
        refine lv_iadd hx hb d_MaskEdgesModel_make_206 ?_
        obtain ⟨g207, hf⟩ := x_g hf
        refine va_zald hx hb hK hP 20 5 yg20 rfl (xin_in g207) d_MaskEdgesModel_make_207 ?_
        refine lv_if_eq (tgt := 215) hx hb d_MaskEdgesModel_make_208 (by decide) (fun hc => ?_) (fun hc => ?_)
        · replace hf := x_t hc hf
          refine lv_iconst (v := (0 : Int32)) hx hb d_MaskEdgesModel_make_215 (by decide) ?_
          exact (hL216 _ hr145) v1 v2 (0 : Int32) (((Y_sums ST (((((49 : Int32) * (v1 + (1 : Int32))) + v2) + (1 : Int32)) - (1 : Int32)).toNatClampNeg) + (Y_sums ST (((((49 : Int32) * (v1 + (1 : Int32))) + v2) + (1 : Int32)) - (49 : Int32)).toNatClampNeg)) - (Y_sums ST ((((((49 : Int32) * (v1 + (1 : Int32))) + v2) + (1 : Int32)) - (49 : Int32)) - (1 : Int32)).toNatClampNeg)) ((((49 : Int32) * (v1 + (1 : Int32))) + v2) + (1 : Int32)) ST _ _ hP hS ls (lv_sub hl [1, 2, 3] rfl) hf
        · replace hf := x_f hc hf
          refine lv_iconst (v := (1 : Int32)) hx hb d_MaskEdgesModel_make_211 (by decide) ?_
          refine lv_goto (tgt := 216) hx hb d_MaskEdgesModel_make_212 (by decide) ?_
          exact (hL216 _ hr145) v1 v2 (1 : Int32) (((Y_sums ST (((((49 : Int32) * (v1 + (1 : Int32))) + v2) + (1 : Int32)) - (1 : Int32)).toNatClampNeg) + (Y_sums ST (((((49 : Int32) * (v1 + (1 : Int32))) + v2) + (1 : Int32)) - (49 : Int32)).toNatClampNeg)) - (Y_sums ST ((((((49 : Int32) * (v1 + (1 : Int32))) + v2) + (1 : Int32)) - (49 : Int32)) - (1 : Int32)).toNatClampNeg)) ((((49 : Int32) * (v1 + (1 : Int32))) + v2) + (1 : Int32)) ST _ _ hP hS ls (lv_sub hl [1, 2, 3] rfl) hf
  have hL224 : ∀ (r137 : Int32 → ySt → Option (ySt)) (hr137 : ∀ (v1 : Int32) (ST : ySt), ∀ (H : Heap) (locs : List Loc), va_P X.1 vwCl (wY X ad ST) H → va_S (yA ad) s.heap H locs → ∀ (ls : Array Slot), lv_has ls 4 [(0, .ref (ad 0)), (1, .int v1)] → r137 v1 ST = some res → W p l e (headSpec (Cond.code y_MaskEdgesModel_make prog_8_method_19_code 4 none :: xT) ({ frames := 4, cells := 0, slots := 0, locals := 99 } : Room)).room s m args below meth c H locs 0 0 Q (F0 m 137 ls [])), ∀ (v1 : Int32) (ST : ySt), ∀ (H : Heap) (locs : List Loc), va_P X.1 vwCl (wY X ad ST) H → va_S (yA ad) s.heap H locs → ∀ (ls : Array Slot), lv_has ls 4 [(0, .ref (ad 0)), (1, .int v1)] → f_MaskEdgesModel_make_224 r137 v1 ST = some res → W p l e (headSpec (Cond.code y_MaskEdgesModel_make prog_8_method_19_code 4 none :: xT) ({ frames := 4, cells := 0, slots := 0, locals := 99 } : Room)).room s m args below meth c H locs 0 0 Q (F0 m 224 ls []) := by
    intro r137 hr137 v1 ST H locs hP hS ls hl hf
    unfold f_MaskEdgesModel_make_224 at hf
    refine lv_iinc (v := (v1 + (1 : Int32))) (lv' := [(1, .int (v1 + (1 : Int32))), (0, .ref (ad 0))]) hx hb d_MaskEdgesModel_make_224 hl (k := 1) rfl rfl (by decide) rfl (fun ls hl => ?_)
    refine lv_goto (tgt := 137) hx hb d_MaskEdgesModel_make_227 (by decide) ?_
    exact hr137 (v1 + (1 : Int32)) ST _ _ hP hS ls (lv_sub hl [1, 0] rfl) hf
  have hL137 : ∀ (n : Nat), ∀ (v1 : Int32) (ST : ySt), ∀ (H : Heap) (locs : List Loc), va_P X.1 vwCl (wY X ad ST) H → va_S (yA ad) s.heap H locs → ∀ (ls : Array Slot), lv_has ls 4 [(0, .ref (ad 0)), (1, .int v1)] → (xloop (fun r => f_MaskEdgesModel_make_137 r) (fun _ _ => none) n) v1 ST = some res → W p l e (headSpec (Cond.code y_MaskEdgesModel_make prog_8_method_19_code 4 none :: xT) ({ frames := 4, cells := 0, slots := 0, locals := 99 } : Room)).room s m args below meth c H locs 0 0 Q (F0 m 137 ls []) := by
    intro n
    induction n with
    | zero => intro v1 ST H locs hP hS ls hl hf; cases hf
    | succ n ih =>
      intro v1 ST H locs hP hS ls hl hf
      replace hf : f_MaskEdgesModel_make_137 (xloop (fun r => f_MaskEdgesModel_make_137 r) (fun _ _ => none) n) v1 ST = some res := hf
      have hr137 := ih
      clear ih
      unfold f_MaskEdgesModel_make_137 at hf
      refine lv_iload_n hx hb d_MaskEdgesModel_make_137 rfl (lv_at hl 1 rfl) ?_
      refine lv_bipush (v := (48 : Int32)) hx hb d_MaskEdgesModel_make_138 (by decide) ?_
      refine lv_icmp_ge (tgt := 230) hx hb d_MaskEdgesModel_make_140 (by decide) (fun hc => ?_) (fun hc => ?_)
      · replace hf := x_t hc hf
        replace hf := x_s hf
        subst hf
        subst hQ
        exact W.vret hx hb hr (fun t ht hW => ⟨⟨rfl, by rw [ht]; exact hP⟩, hS.F ht⟩) hS.2.2 d_MaskEdgesModel_make_230
      · replace hf := x_f hc hf
        refine lv_iconst (v := (0 : Int32)) hx hb d_MaskEdgesModel_make_143 (by decide) ?_
        refine lv_istore_n (lv' := [(2, .int (0 : Int32)), (0, .ref (ad 0)), (1, .int v1)]) hx hb d_MaskEdgesModel_make_144 rfl hl (by decide) rfl (fun ls hl => ?_)
        exact (hL145 _ (hL224 _ hr137) 100000) v1 (0 : Int32) ST _ _ hP hS ls (lv_sub hl [1, 2, 0] rfl) hf
  have hL135 : ∀ (ST : ySt), ∀ (H : Heap) (locs : List Loc), va_P X.1 vwCl (wY X ad ST) H → va_S (yA ad) s.heap H locs → ∀ (ls : Array Slot), lv_has ls 4 [(0, .ref (ad 0))] → f_MaskEdgesModel_make_135 ST = some res → W p l e (headSpec (Cond.code y_MaskEdgesModel_make prog_8_method_19_code 4 none :: xT) ({ frames := 4, cells := 0, slots := 0, locals := 99 } : Room)).room s m args below meth c H locs 0 0 Q (F0 m 135 ls []) := by
    intro ST H locs hP hS ls hl hf
    unfold f_MaskEdgesModel_make_135 at hf
    refine lv_iconst (v := (0 : Int32)) hx hb d_MaskEdgesModel_make_135 (by decide) ?_
    refine lv_istore_n (lv' := [(1, .int (0 : Int32)), (0, .ref (ad 0))]) hx hb d_MaskEdgesModel_make_136 rfl hl (by decide) rfl (fun ls hl => ?_)
    exact (hL137 100000) (0 : Int32) ST _ _ hP hS ls (lv_sub hl [1, 0] rfl) hf
  have hL66 : ∀ (ST : ySt), ∀ (H : Heap) (locs : List Loc), va_P X.1 vwCl (wY X ad ST) H → va_S (yA ad) s.heap H locs → ∀ (ls : Array Slot), lv_has ls 4 [(0, .ref (ad 0))] → f_MaskEdgesModel_make_66 ST = some res → W p l e (headSpec (Cond.code y_MaskEdgesModel_make prog_8_method_19_code 4 none :: xT) ({ frames := 4, cells := 0, slots := 0, locals := 99 } : Room)).room s m args below meth c H locs 0 0 Q (F0 m 66 ls []) := by
    intro ST H locs hP hS ls hl hf
    unfold f_MaskEdgesModel_make_66 at hf
    refine lv_iconst (v := (0 : Int32)) hx hb d_MaskEdgesModel_make_66 (by decide) ?_
    refine lv_istore_n (lv' := [(1, .int (0 : Int32)), (0, .ref (ad 0))]) hx hb d_MaskEdgesModel_make_67 rfl hl (by decide) rfl (fun ls hl => ?_)
    exact (hL68 _ hL135 100000) (0 : Int32) ST _ _ hP hS ls (lv_sub hl [1, 0] rfl) hf
  have hL45 : ∀ (ST : ySt), ∀ (H : Heap) (locs : List Loc), va_P X.1 vwCl (wY X ad ST) H → va_S (yA ad) s.heap H locs → ∀ (ls : Array Slot), lv_has ls 4 [(0, .ref (ad 0))] → f_MaskEdgesModel_make_45 ST = some res → W p l e (headSpec (Cond.code y_MaskEdgesModel_make prog_8_method_19_code 4 none :: xT) ({ frames := 4, cells := 0, slots := 0, locals := 99 } : Room)).room s m args below meth c H locs 0 0 Q (F0 m 45 ls []) := by
    intro ST H locs hP hS ls hl hf
    unfold f_MaskEdgesModel_make_45 at hf
    refine lv_iconst (v := (0 : Int32)) hx hb d_MaskEdgesModel_make_45 (by decide) ?_
    refine lv_istore_n (lv' := [(1, .int (0 : Int32)), (0, .ref (ad 0))]) hx hb d_MaskEdgesModel_make_46 rfl hl (by decide) rfl (fun ls hl => ?_)
    exact (hL47 _ hL66 100000) (0 : Int32) ST _ _ hP hS ls (lv_sub hl [1, 0] rfl) hf
  unfold f_MaskEdgesModel_make at hf
  refine lv_iconst (v := (0 : Int32)) hx hb d_MaskEdgesModel_make_0 (by decide) ?_
  refine lv_istore_n (lv' := [(1, .int (0 : Int32)), (0, .ref (ad 0))]) hx hb d_MaskEdgesModel_make_1 rfl hl (by decide) rfl (fun ls hl => ?_)
  exact (hL2 _ hL45 100000) (0 : Int32) ST _ _ hP hS ls (lv_sub hl [1, 0] rfl) hf
def f_MaskEdgesModel_within (v0 : Int32) : Option (Int32) :=
  if 0 ≤ v0 then
  if v0 ≤ (48 : Int32) then
    some v0
  else
    some (48 : Int32)
else
  some (0 : Int32)
set_option maxHeartbeats 4000000 in
set_option maxRecDepth 100000 in
theorem c_MaskEdgesModel_within (l : Launch) (X : xG) {H : Heap} (v0 : Int32) {res : Int32} (hf : f_MaskEdgesModel_within v0 = some res) : xM l y_MaskEdgesModel_within (Cond.code y_MaskEdgesModel_within prog_8_method_20_code 1 (some .int) :: xT) ({ frames := 0, cells := 0, slots := 0, locals := 0 } : Room) (xK X) [.int v0] H xNo (some (.int res)) (fun H1 => H1 = H) := by
  refine Met.ofW (cc := prog_8_method_20_code) (maxL := 1) (ret := (some .int)) (by decide) rfl ?_
  intro p e s m args below meth c s₁ B hml hv
  obtain ⟨ha, hH, hKK⟩ := hv
  subst hH
  have hx := B.exec
  have hb := B.bytes
  have hr := B.returns
  have ht : ∀ w ∈ xT, w.before args s = true := fun w h => atoms_spec (ws := (Cond.code y_MaskEdgesModel_within prog_8_method_20_code 1 (some .int) :: xT)) B.pre w (List.mem_cons_of_mem _ h)
  have hown : s.vm.findClass "MaskEdgesModel" = some m.cls := findClass_of_methodNamed B.named
  have hlocks := B.notSynchronized
  have hK := hKK.1
  rw [show entryFrame m args 1 = entryFrame m ([.int v0] : List Value).toArray 1 from by rw [ha]]
  clear ha
  have hl := lv_entry ([.int v0]) (n := 1) (Nat.le_of_ble_eq_true rfl)
  rw [lg_entry_eq]
  generalize (lg_sl ([.int v0]) ++ List.replicate (1 - (lg_sl ([.int v0])).length) Slot.unset).toArray = ls at hl ⊢
  replace hl : lv_has ls 1 [(0, .int v0)] := hl
  refine x_Q (fun Q hQ => ?_)
  unfold f_MaskEdgesModel_within at hf
  refine lv_iload_n hx hb d_MaskEdgesModel_within_0 rfl (lv_at hl 0 rfl) ?_
  refine lv_if_ge (tgt := 8) hx hb d_MaskEdgesModel_within_1 (by decide) (fun hc => ?_) (fun hc => ?_)
  · replace hf := x_t hc hf
    refine lv_iload_n hx hb d_MaskEdgesModel_within_8 rfl (lv_at hl 0 rfl) ?_
    refine lv_bipush (v := (48 : Int32)) hx hb d_MaskEdgesModel_within_9 (by decide) ?_
    refine lv_icmp_le (tgt := 19) hx hb d_MaskEdgesModel_within_11 (by decide) (fun hc => ?_) (fun hc => ?_)
    · replace hf := x_t hc hf
      refine lv_iload_n hx hb d_MaskEdgesModel_within_19 rfl (lv_at hl 0 rfl) ?_
      replace hf := x_s hf
      subst hf
      subst hQ
      exact W.iret (v := v0) hx hb hr (fun t ht hW => ⟨⟨rfl, ht⟩, x_F0 ht⟩) x_l0 d_MaskEdgesModel_within_20
    · replace hf := x_f hc hf
      refine lv_bipush (v := (48 : Int32)) hx hb d_MaskEdgesModel_within_14 (by decide) ?_
      refine lv_goto (tgt := 20) hx hb d_MaskEdgesModel_within_16 (by decide) ?_
      replace hf := x_s hf
      subst hf
      subst hQ
      exact W.iret (v := (48 : Int32)) hx hb hr (fun t ht hW => ⟨⟨rfl, ht⟩, x_F0 ht⟩) x_l0 d_MaskEdgesModel_within_20
  · replace hf := x_f hc hf
    refine lv_iconst (v := (0 : Int32)) hx hb d_MaskEdgesModel_within_4 (by decide) ?_
    refine lv_goto (tgt := 20) hx hb d_MaskEdgesModel_within_5 (by decide) ?_
    replace hf := x_s hf
    subst hf
    subst hQ
    exact W.iret (v := (0 : Int32)) hx hb hr (fun t ht hW => ⟨⟨rfl, ht⟩, x_F0 ht⟩) x_l0 d_MaskEdgesModel_within_20
def f_MaskEdgesModel_countAt (ST : ySt) (v1 : Int32) (v2 : Int32) (v3 : Int32) : Option (Int32) :=
  (f_MaskEdgesModel_within (v1 - v3)).bind fun c3 =>
  (f_MaskEdgesModel_within ((v1 + v3) + (1 : Int32))).bind fun c13 =>
  (f_MaskEdgesModel_within (v2 - v3)).bind fun c21 =>
  (f_MaskEdgesModel_within ((v2 + v3) + (1 : Int32))).bind fun c31 =>
  if xin (((49 : Int32) * c31) + c13) 2401 = true then
  if xin (((49 : Int32) * c31) + c3) 2401 = true then
    if xin (((49 : Int32) * c21) + c13) 2401 = true then
      if xin (((49 : Int32) * c21) + c3) 2401 = true then
        some ((((Y_sums ST (((49 : Int32) * c31) + c13).toNatClampNeg) - (Y_sums ST (((49 : Int32) * c31) + c3).toNatClampNeg)) - (Y_sums ST (((49 : Int32) * c21) + c13).toNatClampNeg)) + (Y_sums ST (((49 : Int32) * c21) + c3).toNatClampNeg))
      else none
    else none
  else none
else none
set_option maxHeartbeats 4000000 in
set_option maxRecDepth 100000 in
theorem c_MaskEdgesModel_countAt (l : Launch) (X : xG) {H : Heap} (ad : Nat → Nat) (ST : ySt) (v1 : Int32) (v2 : Int32) (v3 : Int32) {res : Int32} (hP : va_P X.1 vwCl (wY X ad ST) H) (hf : f_MaskEdgesModel_countAt ST v1 v2 v3 = some res) : xM l y_MaskEdgesModel_countAt (Cond.code y_MaskEdgesModel_countAt prog_8_method_21_code 8 (some .int) :: xT) ({ frames := 1, cells := 0, slots := 0, locals := 20 } : Room) (xK X) [.ref (ad 0), .int v1, .int v2, .int v3] H xNo (some (.int res)) (fun H1 => H1 = H) := by
  refine Met.ofW (cc := prog_8_method_21_code) (maxL := 8) (ret := (some .int)) (by decide) rfl ?_
  intro p e s m args below meth c s₁ B hml hv
  obtain ⟨ha, hH, hKK⟩ := hv
  subst hH
  have hx := B.exec
  have hb := B.bytes
  have hr := B.returns
  have ht : ∀ w ∈ xT, w.before args s = true := fun w h => atoms_spec (ws := (Cond.code y_MaskEdgesModel_countAt prog_8_method_21_code 8 (some .int) :: xT)) B.pre w (List.mem_cons_of_mem _ h)
  have hown : s.vm.findClass "MaskEdgesModel" = some m.cls := findClass_of_methodNamed B.named
  have hlocks := B.notSynchronized
  have hK := hKK.1
  rw [show entryFrame m args 8 = entryFrame m ([.ref (ad 0), .int v1, .int v2, .int v3] : List Value).toArray 8 from by rw [ha]]
  clear ha
  have hl := lv_entry ([.ref (ad 0), .int v1, .int v2, .int v3]) (n := 8) (Nat.le_of_ble_eq_true rfl)
  rw [lg_entry_eq]
  generalize (lg_sl ([.ref (ad 0), .int v1, .int v2, .int v3]) ++ List.replicate (8 - (lg_sl ([.ref (ad 0), .int v1, .int v2, .int v3])).length) Slot.unset).toArray = ls at hl ⊢
  replace hl : lv_has ls 8 [(0, .ref (ad 0)), (1, .int v1), (2, .int v2), (3, .int v3)] := hl
  refine x_Q (fun Q hQ => ?_)
  unfold f_MaskEdgesModel_countAt at hf
  refine lv_iload_n hx hb d_MaskEdgesModel_countAt_0 rfl (lv_at hl 1 rfl) ?_
  refine lv_iload_n hx hb d_MaskEdgesModel_countAt_1 rfl (lv_at hl 3 rfl) ?_
  refine lv_isub hx hb d_MaskEdgesModel_countAt_2 ?_
  obtain ⟨c3, e3, hf⟩ := x_b hf
  refine xcR (va_runS (As := [.int (v1 - v3)]) (rest := []) ⟨hx, hb, hml, hown, ht⟩ (c_MaskEdgesModel_within l X (v1 - v3) e3) (cwS 1 ht (xgS xw_577 xw_578 xw_43 xw_579) rfl rfl rfl (by decide +kernel) ⟨Nat.le_of_ble_eq_true rfl, Nat.le_of_ble_eq_true rfl⟩) (xPS hKK) rfl rfl hl.1 rfl (lv_room (Nat.le_of_ble_eq_true rfl)) d_MaskEdgesModel_countAt_3 ⟨Nat.zero_le _, Nat.zero_le _⟩) ?_
  refine W.eq (g2 := F0 m 6 ls [.int c3]) rfl ?_
  refine lv_istore (lv' := [(4, .int c3), (0, .ref (ad 0)), (1, .int v1), (2, .int v2), (3, .int v3)]) hx hb d_MaskEdgesModel_countAt_6 hl (by decide) rfl (fun ls hl => ?_)
  refine lv_iload_n hx hb d_MaskEdgesModel_countAt_8 rfl (lv_at hl 2 rfl) ?_
  refine lv_iload_n hx hb d_MaskEdgesModel_countAt_9 rfl (lv_at hl 4 rfl) ?_
  refine lv_iadd hx hb d_MaskEdgesModel_countAt_10 ?_
  refine lv_iconst (v := (1 : Int32)) hx hb d_MaskEdgesModel_countAt_11 (by decide) ?_
  refine lv_iadd hx hb d_MaskEdgesModel_countAt_12 ?_
  obtain ⟨c13, e13, hf⟩ := x_b hf
  refine xcR (va_runS (As := [.int ((v1 + v3) + (1 : Int32))]) (rest := []) ⟨hx, hb, hml, hown, ht⟩ (c_MaskEdgesModel_within l X ((v1 + v3) + (1 : Int32)) e13) (cwS 1 ht (xgS xw_577 xw_578 xw_43 xw_579) rfl rfl rfl (by decide +kernel) ⟨Nat.le_of_ble_eq_true rfl, Nat.le_of_ble_eq_true rfl⟩) (xPS hKK) rfl rfl hl.1 rfl (lv_room (Nat.le_of_ble_eq_true rfl)) d_MaskEdgesModel_countAt_13 ⟨Nat.zero_le _, Nat.zero_le _⟩) ?_
  refine W.eq (g2 := F0 m 16 ls [.int c13]) rfl ?_
  refine lv_istore (lv' := [(5, .int c13), (4, .int c3), (0, .ref (ad 0)), (1, .int v1), (2, .int v2), (3, .int v3)]) hx hb d_MaskEdgesModel_countAt_16 hl (by decide) rfl (fun ls hl => ?_)
  refine lv_iload_n hx hb d_MaskEdgesModel_countAt_18 rfl (lv_at hl 4 rfl) ?_
  refine lv_iload_n hx hb d_MaskEdgesModel_countAt_19 rfl (lv_at hl 5 rfl) ?_
  refine lv_isub hx hb d_MaskEdgesModel_countAt_20 ?_
  obtain ⟨c21, e21, hf⟩ := x_b hf
  refine xcR (va_runS (As := [.int (v2 - v3)]) (rest := []) ⟨hx, hb, hml, hown, ht⟩ (c_MaskEdgesModel_within l X (v2 - v3) e21) (cwS 1 ht (xgS xw_577 xw_578 xw_43 xw_579) rfl rfl rfl (by decide +kernel) ⟨Nat.le_of_ble_eq_true rfl, Nat.le_of_ble_eq_true rfl⟩) (xPS hKK) rfl rfl hl.1 rfl (lv_room (Nat.le_of_ble_eq_true rfl)) d_MaskEdgesModel_countAt_21 ⟨Nat.zero_le _, Nat.zero_le _⟩) ?_
  refine W.eq (g2 := F0 m 24 ls [.int c21]) rfl ?_
  refine lv_istore (lv' := [(6, .int c21), (5, .int c13), (4, .int c3), (0, .ref (ad 0)), (1, .int v1), (2, .int v2), (3, .int v3)]) hx hb d_MaskEdgesModel_countAt_24 hl (by decide) rfl (fun ls hl => ?_)
  refine lv_iload_n hx hb d_MaskEdgesModel_countAt_26 rfl (lv_at hl 5 rfl) ?_
  refine lv_iload_n hx hb d_MaskEdgesModel_countAt_27 rfl (lv_at hl 6 rfl) ?_
  refine lv_iadd hx hb d_MaskEdgesModel_countAt_28 ?_
  refine lv_iconst (v := (1 : Int32)) hx hb d_MaskEdgesModel_countAt_29 (by decide) ?_
  refine lv_iadd hx hb d_MaskEdgesModel_countAt_30 ?_
  obtain ⟨c31, e31, hf⟩ := x_b hf
  refine xcR (va_runS (As := [.int ((v2 + v3) + (1 : Int32))]) (rest := []) ⟨hx, hb, hml, hown, ht⟩ (c_MaskEdgesModel_within l X ((v2 + v3) + (1 : Int32)) e31) (cwS 1 ht (xgS xw_577 xw_578 xw_43 xw_579) rfl rfl rfl (by decide +kernel) ⟨Nat.le_of_ble_eq_true rfl, Nat.le_of_ble_eq_true rfl⟩) (xPS hKK) rfl rfl hl.1 rfl (lv_room (Nat.le_of_ble_eq_true rfl)) d_MaskEdgesModel_countAt_31 ⟨Nat.zero_le _, Nat.zero_le _⟩) ?_
  refine W.eq (g2 := F0 m 34 ls [.int c31]) rfl ?_
  refine lv_istore (lv' := [(7, .int c31), (6, .int c21), (5, .int c13), (4, .int c3), (0, .ref (ad 0)), (1, .int v1), (2, .int v2), (3, .int v3)]) hx hb d_MaskEdgesModel_countAt_34 hl (by decide) rfl (fun ls hl => ?_)
  refine lv_aload_n hx hb d_MaskEdgesModel_countAt_36 rfl (lv_at hl 4 rfl) ?_
  refine va_get (D := X.1) (ci := 6) (v := .ref (ad 21)) (C := "MaskEdgesModel") (T := F_MaskEdgesModel) (N := 28) hx hb ht in_MaskEdgesModel hown hK hP 0 yg0 rfl 25 (by decide) (ht _ xw_472) (fun _ h9 => h9) rfl d_MaskEdgesModel_countAt_37 ?_
  refine lv_bipush (v := (49 : Int32)) hx hb d_MaskEdgesModel_countAt_40 (by decide) ?_
  refine lv_iload hx hb d_MaskEdgesModel_countAt_42 (lv_at hl 0 rfl) ?_
  refine lv_imul hx hb d_MaskEdgesModel_countAt_44 ?_
  refine lv_iload hx hb d_MaskEdgesModel_countAt_45 (lv_at hl 2 rfl) ?_
  refine lv_iadd hx hb d_MaskEdgesModel_countAt_47 ?_
  obtain ⟨g48, hf⟩ := x_g hf
  refine va_iald hx hb hK hP 21 0 yg21 rfl (xin_in g48) d_MaskEdgesModel_countAt_48 ?_
  refine lv_aload_n hx hb d_MaskEdgesModel_countAt_49 rfl (lv_at hl 4 rfl) ?_
  refine va_get (D := X.1) (ci := 6) (v := .ref (ad 21)) (C := "MaskEdgesModel") (T := F_MaskEdgesModel) (N := 28) hx hb ht in_MaskEdgesModel hown hK hP 0 yg0 rfl 25 (by decide) (ht _ xw_472) (fun _ h9 => h9) rfl d_MaskEdgesModel_countAt_50 ?_
  refine lv_bipush (v := (49 : Int32)) hx hb d_MaskEdgesModel_countAt_53 (by decide) ?_
  refine lv_iload hx hb d_MaskEdgesModel_countAt_55 (lv_at hl 0 rfl) ?_
  refine lv_imul hx hb d_MaskEdgesModel_countAt_57 ?_
  refine lv_iload hx hb d_MaskEdgesModel_countAt_58 (lv_at hl 3 rfl) ?_
  refine lv_iadd hx hb d_MaskEdgesModel_countAt_60 ?_
  obtain ⟨g61, hf⟩ := x_g hf
  refine va_iald hx hb hK hP 21 0 yg21 rfl (xin_in g61) d_MaskEdgesModel_countAt_61 ?_
  refine lv_isub hx hb d_MaskEdgesModel_countAt_62 ?_
  refine lv_aload_n hx hb d_MaskEdgesModel_countAt_63 rfl (lv_at hl 4 rfl) ?_
  refine va_get (D := X.1) (ci := 6) (v := .ref (ad 21)) (C := "MaskEdgesModel") (T := F_MaskEdgesModel) (N := 28) hx hb ht in_MaskEdgesModel hown hK hP 0 yg0 rfl 25 (by decide) (ht _ xw_472) (fun _ h9 => h9) rfl d_MaskEdgesModel_countAt_64 ?_
  refine lv_bipush (v := (49 : Int32)) hx hb d_MaskEdgesModel_countAt_67 (by decide) ?_
  refine lv_iload hx hb d_MaskEdgesModel_countAt_69 (lv_at hl 1 rfl) ?_
  refine lv_imul hx hb d_MaskEdgesModel_countAt_71 ?_
  refine lv_iload hx hb d_MaskEdgesModel_countAt_72 (lv_at hl 2 rfl) ?_
  refine lv_iadd hx hb d_MaskEdgesModel_countAt_74 ?_
  obtain ⟨g75, hf⟩ := x_g hf
  refine va_iald hx hb hK hP 21 0 yg21 rfl (xin_in g75) d_MaskEdgesModel_countAt_75 ?_
  refine lv_isub hx hb d_MaskEdgesModel_countAt_76 ?_
  refine lv_aload_n hx hb d_MaskEdgesModel_countAt_77 rfl (lv_at hl 4 rfl) ?_
  refine va_get (D := X.1) (ci := 6) (v := .ref (ad 21)) (C := "MaskEdgesModel") (T := F_MaskEdgesModel) (N := 28) hx hb ht in_MaskEdgesModel hown hK hP 0 yg0 rfl 25 (by decide) (ht _ xw_472) (fun _ h9 => h9) rfl d_MaskEdgesModel_countAt_78 ?_
  refine lv_bipush (v := (49 : Int32)) hx hb d_MaskEdgesModel_countAt_81 (by decide) ?_
  refine lv_iload hx hb d_MaskEdgesModel_countAt_83 (lv_at hl 1 rfl) ?_
  refine lv_imul hx hb d_MaskEdgesModel_countAt_85 ?_
  refine lv_iload hx hb d_MaskEdgesModel_countAt_86 (lv_at hl 3 rfl) ?_
  refine lv_iadd hx hb d_MaskEdgesModel_countAt_88 ?_
  obtain ⟨g89, hf⟩ := x_g hf
  refine va_iald hx hb hK hP 21 0 yg21 rfl (xin_in g89) d_MaskEdgesModel_countAt_89 ?_
  refine lv_iadd hx hb d_MaskEdgesModel_countAt_90 ?_
  replace hf := x_s hf
  subst hf
  subst hQ
  exact W.iret (v := ((((Y_sums ST (((49 : Int32) * c31) + c13).toNatClampNeg) - (Y_sums ST (((49 : Int32) * c31) + c3).toNatClampNeg)) - (Y_sums ST (((49 : Int32) * c21) + c13).toNatClampNeg)) + (Y_sums ST (((49 : Int32) * c21) + c3).toNatClampNeg))) hx hb hr (fun t ht hW => ⟨⟨rfl, ht⟩, x_F0 ht⟩) x_l0 d_MaskEdgesModel_countAt_91
def f_MaskEdgesModel_imageAt_5 (ST : ySt) (r5 : Int32 → Int32 → Int32 → Int32 → Option (Int32)) (v1 : Int32) (v2 : Int32) (v3 : Int32) (v4 : Int32) : Option (Int32) :=
  if (Y_kernels ST) ≤ v4 then
  some v3
else
  if xin v4 6 = true then
    if xin v4 6 = true then
      (f_MaskEdgesModel_countAt ST v1 v2 (Y_widths ST v4.toNatClampNeg)).bind fun c32 =>
        r5 v1 v2 (v3 + ((Y_weights ST v4.toNatClampNeg) * c32)) (v4 + (1 : Int32))
    else none
  else none
def f_MaskEdgesModel_imageAt (ST : ySt) (v1 : Int32) (v2 : Int32) : Option (Int32) :=
  (xloop (fun r => f_MaskEdgesModel_imageAt_5 ST r) (fun _ _ _ _ => none) 100000) v1 v2 (0 : Int32) (0 : Int32)
set_option maxHeartbeats 4000000 in
set_option maxRecDepth 100000 in
theorem c_MaskEdgesModel_imageAt (l : Launch) (X : xG) {H : Heap} (ad : Nat → Nat) (ST : ySt) (v1 : Int32) (v2 : Int32) {res : Int32} (hP : va_P X.1 vwCl (wY X ad ST) H) (hf : f_MaskEdgesModel_imageAt ST v1 v2 = some res) : xM l y_MaskEdgesModel_imageAt (Cond.code y_MaskEdgesModel_imageAt prog_8_method_22_code 5 (some .int) :: xT) ({ frames := 2, cells := 0, slots := 0, locals := 47 } : Room) (xK X) [.ref (ad 0), .int v1, .int v2] H xNo (some (.int res)) (fun H1 => H1 = H) := by
  refine Met.ofW (cc := prog_8_method_22_code) (maxL := 5) (ret := (some .int)) (by decide) rfl ?_
  intro p e s m args below meth c s₁ B hml hv
  obtain ⟨ha, hH, hKK⟩ := hv
  subst hH
  have hx := B.exec
  have hb := B.bytes
  have hr := B.returns
  have ht : ∀ w ∈ xT, w.before args s = true := fun w h => atoms_spec (ws := (Cond.code y_MaskEdgesModel_imageAt prog_8_method_22_code 5 (some .int) :: xT)) B.pre w (List.mem_cons_of_mem _ h)
  have hown : s.vm.findClass "MaskEdgesModel" = some m.cls := findClass_of_methodNamed B.named
  have hlocks := B.notSynchronized
  have hK := hKK.1
  rw [show entryFrame m args 5 = entryFrame m ([.ref (ad 0), .int v1, .int v2] : List Value).toArray 5 from by rw [ha]]
  clear ha
  have hl := lv_entry ([.ref (ad 0), .int v1, .int v2]) (n := 5) (Nat.le_of_ble_eq_true rfl)
  rw [lg_entry_eq]
  generalize (lg_sl ([.ref (ad 0), .int v1, .int v2]) ++ List.replicate (5 - (lg_sl ([.ref (ad 0), .int v1, .int v2])).length) Slot.unset).toArray = ls at hl ⊢
  replace hl : lv_has ls 5 [(0, .ref (ad 0)), (1, .int v1), (2, .int v2)] := hl
  refine x_Q (fun Q hQ => ?_)
  have hL5 : ∀ (n : Nat), ∀ (v1 : Int32) (v2 : Int32) (v3 : Int32) (v4 : Int32), ∀ (ls : Array Slot), lv_has ls 5 [(0, .ref (ad 0)), (1, .int v1), (2, .int v2), (3, .int v3), (4, .int v4)] → (xloop (fun r => f_MaskEdgesModel_imageAt_5 ST r) (fun _ _ _ _ => none) n) v1 v2 v3 v4 = some res → W p l e (headSpec (Cond.code y_MaskEdgesModel_imageAt prog_8_method_22_code 5 (some .int) :: xT) ({ frames := 2, cells := 0, slots := 0, locals := 47 } : Room)).room s m args below meth c s.heap [] 0 0 Q (F0 m 5 ls []) := by
    intro n
    induction n with
    | zero => intro v1 v2 v3 v4 ls hl hf; cases hf
    | succ n ih =>
      intro v1 v2 v3 v4 ls hl hf
      replace hf : f_MaskEdgesModel_imageAt_5 ST (xloop (fun r => f_MaskEdgesModel_imageAt_5 ST r) (fun _ _ _ _ => none) n) v1 v2 v3 v4 = some res := hf
      have hr5 := ih
      clear ih
      unfold f_MaskEdgesModel_imageAt_5 at hf
      refine lv_iload hx hb d_MaskEdgesModel_imageAt_5 (lv_at hl 4 rfl) ?_
      refine lv_aload_n hx hb d_MaskEdgesModel_imageAt_7 rfl (lv_at hl 0 rfl) ?_
      refine va_get (D := X.1) (ci := 6) (v := .int (Y_kernels ST)) (C := "MaskEdgesModel") (T := F_MaskEdgesModel) (N := 28) hx hb ht in_MaskEdgesModel hown hK hP 0 yg0 rfl 5 (by decide) (ht _ xw_452) (fun _ h9 => h9) rfl d_MaskEdgesModel_imageAt_8 ?_
      refine lv_icmp_ge (tgt := 44) hx hb d_MaskEdgesModel_imageAt_11 (by decide) (fun hc => ?_) (fun hc => ?_)
      · replace hf := x_t hc hf
        refine lv_iload_n hx hb d_MaskEdgesModel_imageAt_44 rfl (lv_at hl 3 rfl) ?_
        replace hf := x_s hf
        subst hf
        subst hQ
        exact W.iret (v := v3) hx hb hr (fun t ht hW => ⟨⟨rfl, ht⟩, x_F0 ht⟩) x_l0 d_MaskEdgesModel_imageAt_45
      · replace hf := x_f hc hf
        refine lv_iload_n hx hb d_MaskEdgesModel_imageAt_14 rfl (lv_at hl 3 rfl) ?_
        refine lv_aload_n hx hb d_MaskEdgesModel_imageAt_15 rfl (lv_at hl 0 rfl) ?_
        refine va_get (D := X.1) (ci := 6) (v := .ref (ad 5)) (C := "MaskEdgesModel") (T := F_MaskEdgesModel) (N := 28) hx hb ht in_MaskEdgesModel hown hK hP 0 yg0 rfl 6 (by decide) (ht _ xw_453) (fun _ h9 => h9) rfl d_MaskEdgesModel_imageAt_16 ?_
        refine lv_iload hx hb d_MaskEdgesModel_imageAt_19 (lv_at hl 4 rfl) ?_
        obtain ⟨g21, hf⟩ := x_g hf
        refine va_iald hx hb hK hP 5 0 yg5 rfl (xin_in g21) d_MaskEdgesModel_imageAt_21 ?_
        refine lv_aload_n hx hb d_MaskEdgesModel_imageAt_22 rfl (lv_at hl 0 rfl) ?_
        refine lv_iload_n hx hb d_MaskEdgesModel_imageAt_23 rfl (lv_at hl 1 rfl) ?_
        refine lv_iload_n hx hb d_MaskEdgesModel_imageAt_24 rfl (lv_at hl 2 rfl) ?_
        refine lv_aload_n hx hb d_MaskEdgesModel_imageAt_25 rfl (lv_at hl 0 rfl) ?_
        refine va_get (D := X.1) (ci := 6) (v := .ref (ad 6)) (C := "MaskEdgesModel") (T := F_MaskEdgesModel) (N := 28) hx hb ht in_MaskEdgesModel hown hK hP 0 yg0 rfl 7 (by decide) (ht _ xw_454) (fun _ h9 => h9) rfl d_MaskEdgesModel_imageAt_26 ?_
        refine lv_iload hx hb d_MaskEdgesModel_imageAt_29 (lv_at hl 4 rfl) ?_
        obtain ⟨g31, hf⟩ := x_g hf
        refine va_iald hx hb hK hP 6 0 yg6 rfl (xin_in g31) d_MaskEdgesModel_imageAt_31 ?_
        obtain ⟨c32, e32, hf⟩ := x_b hf
        refine xcR (va_runV (As := [.int v1, .int v2, .int (Y_widths ST v4.toNatClampNeg)]) (rest := [.int (Y_weights ST v4.toNatClampNeg), .int v3]) ⟨hx, hb, hml, hown, ht⟩ (c_MaskEdgesModel_countAt l X ad ST v1 v2 (Y_widths ST v4.toNatClampNeg) hP e32) (cwV 3 ht (xgV xw_574 xw_575 xw_27 xw_43 xw_576) rfl rfl rfl (by decide +kernel) ⟨Nat.le_of_ble_eq_true rfl, Nat.le_of_ble_eq_true rfl⟩) (xPV hKK (va_recv hK hP (ci := 6) (q0 := 0) rfl yg0)) rfl rfl hl.1 rfl (lv_room (Nat.le_of_ble_eq_true rfl)) d_MaskEdgesModel_imageAt_32 ⟨Nat.zero_le _, Nat.zero_le _⟩) ?_
        refine W.eq (g2 := F0 m 35 ls [.int c32, .int (Y_weights ST v4.toNatClampNeg), .int v3]) rfl ?_
        refine lv_imul hx hb d_MaskEdgesModel_imageAt_35 ?_
        refine lv_iadd hx hb d_MaskEdgesModel_imageAt_36 ?_
        refine lv_istore_n (lv' := [(3, .int (v3 + ((Y_weights ST v4.toNatClampNeg) * c32))), (0, .ref (ad 0)), (1, .int v1), (2, .int v2), (4, .int v4)]) hx hb d_MaskEdgesModel_imageAt_37 rfl hl (by decide) rfl (fun ls hl => ?_)
        refine lv_iinc (v := (v4 + (1 : Int32))) (lv' := [(4, .int (v4 + (1 : Int32))), (3, .int (v3 + ((Y_weights ST v4.toNatClampNeg) * c32))), (0, .ref (ad 0)), (1, .int v1), (2, .int v2)]) hx hb d_MaskEdgesModel_imageAt_38 hl (k := 4) rfl rfl (by decide) rfl (fun ls hl => ?_)
        refine lv_goto (tgt := 5) hx hb d_MaskEdgesModel_imageAt_41 (by decide) ?_
        exact hr5 v1 v2 (v3 + ((Y_weights ST v4.toNatClampNeg) * c32)) (v4 + (1 : Int32))  ls (lv_sub hl [2, 3, 4, 1, 0] rfl) hf
  unfold f_MaskEdgesModel_imageAt at hf
  refine lv_iconst (v := (0 : Int32)) hx hb d_MaskEdgesModel_imageAt_0 (by decide) ?_
  refine lv_istore_n (lv' := [(3, .int (0 : Int32)), (0, .ref (ad 0)), (1, .int v1), (2, .int v2)]) hx hb d_MaskEdgesModel_imageAt_1 rfl hl (by decide) rfl (fun ls hl => ?_)
  refine lv_iconst (v := (0 : Int32)) hx hb d_MaskEdgesModel_imageAt_2 (by decide) ?_
  refine lv_istore (lv' := [(4, .int (0 : Int32)), (3, .int (0 : Int32)), (0, .ref (ad 0)), (1, .int v1), (2, .int v2)]) hx hb d_MaskEdgesModel_imageAt_3 hl (by decide) rfl (fun ls hl => ?_)
  exact (hL5 100000) v1 v2 (0 : Int32) (0 : Int32)  ls (lv_sub hl [2, 3, 4, 1, 0] rfl) hf
def f_MaskEdgesModel_doesPrint (ST : ySt) (v1 : Int32) (v2 : Int32) (v3 : Int32) : Option (Int32) :=
  (f_MaskEdgesModel_isCell v1 v2).bind fun c2 =>
  if c2 = 0 then
  some (0 : Int32)
else
  (f_MaskEdgesModel_imageAt ST v1 v2).bind fun c11 =>
    if (lg_cmp (c11.toInt64 * v3.toInt64) ((100 : Int64) * (Y_threshold ST).toInt64)) < 0 then
    some (0 : Int32)
  else
    some (1 : Int32)
set_option maxHeartbeats 4000000 in
set_option maxRecDepth 100000 in
theorem c_MaskEdgesModel_doesPrint (l : Launch) (X : xG) {H : Heap} (ad : Nat → Nat) (ST : ySt) (v1 : Int32) (v2 : Int32) (v3 : Int32) {res : Int32} (hP : va_P X.1 vwCl (wY X ad ST) H) (hf : f_MaskEdgesModel_doesPrint ST v1 v2 v3 = some res) : xM l y_MaskEdgesModel_doesPrint (Cond.code y_MaskEdgesModel_doesPrint prog_8_method_23_code 4 (some .boolean) :: xT) ({ frames := 3, cells := 0, slots := 0, locals := 71 } : Room) (xK X) [.ref (ad 0), .int v1, .int v2, .int v3] H xNo (some (.int res)) (fun H1 => H1 = H) := by
  refine Met.ofW (cc := prog_8_method_23_code) (maxL := 4) (ret := (some .boolean)) (by decide) rfl ?_
  intro p e s m args below meth c s₁ B hml hv
  obtain ⟨ha, hH, hKK⟩ := hv
  subst hH
  have hx := B.exec
  have hb := B.bytes
  have hr := B.returns
  have ht : ∀ w ∈ xT, w.before args s = true := fun w h => atoms_spec (ws := (Cond.code y_MaskEdgesModel_doesPrint prog_8_method_23_code 4 (some .boolean) :: xT)) B.pre w (List.mem_cons_of_mem _ h)
  have hown : s.vm.findClass "MaskEdgesModel" = some m.cls := findClass_of_methodNamed B.named
  have hlocks := B.notSynchronized
  have hK := hKK.1
  rw [show entryFrame m args 4 = entryFrame m ([.ref (ad 0), .int v1, .int v2, .int v3] : List Value).toArray 4 from by rw [ha]]
  clear ha
  have hl := lv_entry ([.ref (ad 0), .int v1, .int v2, .int v3]) (n := 4) (Nat.le_of_ble_eq_true rfl)
  rw [lg_entry_eq]
  generalize (lg_sl ([.ref (ad 0), .int v1, .int v2, .int v3]) ++ List.replicate (4 - (lg_sl ([.ref (ad 0), .int v1, .int v2, .int v3])).length) Slot.unset).toArray = ls at hl ⊢
  replace hl : lv_has ls 4 [(0, .ref (ad 0)), (1, .int v1), (2, .int v2), (3, .int v3)] := hl
  refine x_Q (fun Q hQ => ?_)
  unfold f_MaskEdgesModel_doesPrint at hf
  refine lv_iload_n hx hb d_MaskEdgesModel_doesPrint_0 rfl (lv_at hl 1 rfl) ?_
  refine lv_iload_n hx hb d_MaskEdgesModel_doesPrint_1 rfl (lv_at hl 2 rfl) ?_
  obtain ⟨c2, e2, hf⟩ := x_b hf
  refine xcR (va_runS (As := [.int v1, .int v2]) (rest := []) ⟨hx, hb, hml, hown, ht⟩ (c_MaskEdgesModel_isCell l X v1 v2 e2) (cwS 2 ht (xgS xw_551 xw_552 xw_43 xw_553) rfl rfl rfl (by decide +kernel) ⟨Nat.le_of_ble_eq_true rfl, Nat.le_of_ble_eq_true rfl⟩) (xPS hKK) rfl rfl hl.1 rfl (lv_room (Nat.le_of_ble_eq_true rfl)) d_MaskEdgesModel_doesPrint_2 ⟨Nat.zero_le _, Nat.zero_le _⟩) ?_
  refine W.eq (g2 := F0 m 5 ls [.int c2]) rfl ?_
  refine lv_if_eq (tgt := 35) hx hb d_MaskEdgesModel_doesPrint_5 (by decide) (fun hc => ?_) (fun hc => ?_)
  · replace hf := x_t hc hf
    refine lv_iconst (v := (0 : Int32)) hx hb d_MaskEdgesModel_doesPrint_35 (by decide) ?_
    replace hf := x_s hf
    subst hf
    subst hQ
    exact W.zret (v := (0 : Int32)) hx hb hr (xz_n (by decide)) (fun t ht hW => ⟨⟨rfl, ht⟩, x_F0 ht⟩) x_l0 d_MaskEdgesModel_doesPrint_36
  · replace hf := x_f hc hf
    refine lv_aload_n hx hb d_MaskEdgesModel_doesPrint_8 rfl (lv_at hl 0 rfl) ?_
    refine lv_iload_n hx hb d_MaskEdgesModel_doesPrint_9 rfl (lv_at hl 1 rfl) ?_
    refine lv_iload_n hx hb d_MaskEdgesModel_doesPrint_10 rfl (lv_at hl 2 rfl) ?_
    obtain ⟨c11, e11, hf⟩ := x_b hf
    refine xcR (va_runV (As := [.int v1, .int v2]) (rest := []) ⟨hx, hb, hml, hown, ht⟩ (c_MaskEdgesModel_imageAt l X ad ST v1 v2 hP e11) (cwV 2 ht (xgV xw_571 xw_572 xw_26 xw_43 xw_573) rfl rfl rfl (by decide +kernel) ⟨Nat.le_of_ble_eq_true rfl, Nat.le_of_ble_eq_true rfl⟩) (xPV hKK (va_recv hK hP (ci := 6) (q0 := 0) rfl yg0)) rfl rfl hl.1 rfl (lv_room (Nat.le_of_ble_eq_true rfl)) d_MaskEdgesModel_doesPrint_11 ⟨Nat.zero_le _, Nat.zero_le _⟩) ?_
    refine W.eq (g2 := F0 m 14 ls [.int c11]) rfl ?_
    refine lv_i2l hx hb d_MaskEdgesModel_doesPrint_14 rfl ?_
    refine lv_iload_n hx hb d_MaskEdgesModel_doesPrint_15 rfl (lv_at hl 3 rfl) ?_
    refine lv_i2l hx hb d_MaskEdgesModel_doesPrint_16 rfl ?_
    refine lv_lmul hx hb d_MaskEdgesModel_doesPrint_17 ?_
    refine lv_ldc2 (v := (100 : Int64)) hx hb hown (ht _ xw_598) d_MaskEdgesModel_doesPrint_18 ?_
    refine lv_aload_n hx hb d_MaskEdgesModel_doesPrint_21 rfl (lv_at hl 0 rfl) ?_
    refine va_get (D := X.1) (ci := 6) (v := .int (Y_threshold ST)) (C := "MaskEdgesModel") (T := F_MaskEdgesModel) (N := 28) hx hb ht in_MaskEdgesModel hown hK hP 0 yg0 rfl 8 (by decide) (ht _ xw_455) (fun _ h9 => h9) rfl d_MaskEdgesModel_doesPrint_22 ?_
    refine lv_i2l hx hb d_MaskEdgesModel_doesPrint_25 rfl ?_
    refine lv_lmul hx hb d_MaskEdgesModel_doesPrint_26 ?_
    refine W.lcmp hx hb d_MaskEdgesModel_doesPrint_27 ?_
    refine lv_if_lt (tgt := 35) hx hb d_MaskEdgesModel_doesPrint_28 (by decide) (fun hc => ?_) (fun hc => ?_)
    · replace hf := x_t hc hf
      refine lv_iconst (v := (0 : Int32)) hx hb d_MaskEdgesModel_doesPrint_35 (by decide) ?_
      replace hf := x_s hf
      subst hf
      subst hQ
      exact W.zret (v := (0 : Int32)) hx hb hr (xz_n (by decide)) (fun t ht hW => ⟨⟨rfl, ht⟩, x_F0 ht⟩) x_l0 d_MaskEdgesModel_doesPrint_36
    · replace hf := x_f hc hf
      refine lv_iconst (v := (1 : Int32)) hx hb d_MaskEdgesModel_doesPrint_31 (by decide) ?_
      refine lv_goto (tgt := 36) hx hb d_MaskEdgesModel_doesPrint_32 (by decide) ?_
      replace hf := x_s hf
      subst hf
      subst hQ
      exact W.zret (v := (1 : Int32)) hx hb hr (xz_n (by decide)) (fun t ht hW => ⟨⟨rfl, ht⟩, x_F0 ht⟩) x_l0 d_MaskEdgesModel_doesPrint_36
def f_MaskEdgesModel_image (v1 : Int32) (v2 : Int32) (ST : ySt) : Option (Int32 × ySt) :=
  (f_MaskEdgesModel_isCell v1 v2).bind fun c2 =>
  if c2 = 0 then
  some ((0 : Int32), ST)
else
  (f_MaskEdgesModel_make ST).bind fun c11 =>
    (f_MaskEdgesModel_imageAt c11 v1 v2).bind fun c17 =>
    some (c17, c11)
set_option maxHeartbeats 4000000 in
set_option maxRecDepth 100000 in
theorem c_MaskEdgesModel_image (l : Launch) (X : xG) {H : Heap} (ad : Nat → Nat) (ST : ySt) (v1 : Int32) (v2 : Int32) {res : Int32 × ySt} (hP : va_P X.1 vwCl (wY X ad ST) H) (hA : okB ad) (hf : f_MaskEdgesModel_image v1 v2 ST = some res) : xM l y_MaskEdgesModel_image (Cond.code y_MaskEdgesModel_image prog_8_method_24_code 3 (some .int) :: xT) ({ frames := 5, cells := 0, slots := 0, locals := 122 } : Room) (xK X) [.ref (ad 0), .int v1, .int v2] H (yA ad) (some (.int res.1)) (fun H1 => va_P X.1 vwCl (wY X ad res.2) H1) := by
  refine Met.ofW (cc := prog_8_method_24_code) (maxL := 3) (ret := (some .int)) (by decide) rfl ?_
  intro p e s m args below meth c s₁ B hml hv
  obtain ⟨ha, hH, hKK⟩ := hv
  subst hH
  have hx := B.exec
  have hb := B.bytes
  have hr := B.returns
  have ht : ∀ w ∈ xT, w.before args s = true := fun w h => atoms_spec (ws := (Cond.code y_MaskEdgesModel_image prog_8_method_24_code 3 (some .int) :: xT)) B.pre w (List.mem_cons_of_mem _ h)
  have hown : s.vm.findClass "MaskEdgesModel" = some m.cls := findClass_of_methodNamed B.named
  have hlocks := B.notSynchronized
  have hK := hKK.1
  rw [show entryFrame m args 3 = entryFrame m ([.ref (ad 0), .int v1, .int v2] : List Value).toArray 3 from by rw [ha]]
  clear ha
  have hS : va_S (yA ad) s.heap s.heap [] := va_S.rf
  have hl := lv_entry ([.ref (ad 0), .int v1, .int v2]) (n := 3) (Nat.le_of_ble_eq_true rfl)
  rw [lg_entry_eq]
  generalize (lg_sl ([.ref (ad 0), .int v1, .int v2]) ++ List.replicate (3 - (lg_sl ([.ref (ad 0), .int v1, .int v2])).length) Slot.unset).toArray = ls at hl ⊢
  replace hl : lv_has ls 3 [(0, .ref (ad 0)), (1, .int v1), (2, .int v2)] := hl
  refine x_Q (fun Q hQ => ?_)
  unfold f_MaskEdgesModel_image at hf
  refine lv_iload_n hx hb d_MaskEdgesModel_image_0 rfl (lv_at hl 1 rfl) ?_
  refine lv_iload_n hx hb d_MaskEdgesModel_image_1 rfl (lv_at hl 2 rfl) ?_
  obtain ⟨c2, e2, hf⟩ := x_b hf
  refine xcR (va_runS (As := [.int v1, .int v2]) (rest := []) ⟨hx, hb, hml, hown, ht⟩ (c_MaskEdgesModel_isCell l X v1 v2 e2) (cwS 2 ht (xgS xw_551 xw_552 xw_43 xw_553) rfl rfl rfl (by decide +kernel) ⟨Nat.le_of_ble_eq_true rfl, Nat.le_of_ble_eq_true rfl⟩) (xPS hKK) rfl rfl hl.1 rfl (lv_room (Nat.le_of_ble_eq_true rfl)) d_MaskEdgesModel_image_2 ⟨Nat.zero_le _, Nat.zero_le _⟩) ?_
  refine W.eq (g2 := F0 m 5 ls [.int c2]) rfl ?_
  refine lv_if_ne (tgt := 10) hx hb d_MaskEdgesModel_image_5 (by decide) (fun hc => ?_) (fun hc => ?_)
  · replace hf := x_f hc hf
    refine lv_aload_n hx hb d_MaskEdgesModel_image_10 rfl (lv_at hl 0 rfl) ?_
    obtain ⟨c11, e11, hf⟩ := x_b hf
    refine xc (va_runV (As := []) (rest := []) ⟨hx, hb, hml, hown, ht⟩ (c_MaskEdgesModel_make l X ad ST hP hA e11) (cwV 0 ht (xgV xw_559 xw_560 xw_22 xw_43 xw_561) rfl rfl rfl (by decide +kernel) ⟨Nat.le_of_ble_eq_true rfl, Nat.le_of_ble_eq_true rfl⟩) (xPV hKK (va_recv hK hP (ci := 6) (q0 := 0) rfl yg0)) rfl rfl hl.1 rfl (lv_room (Nat.le_of_ble_eq_true rfl)) d_MaskEdgesModel_image_11 ⟨Nat.zero_le _, Nat.zero_le _⟩) (fun H1 L hq hz => ?_)
    replace hS := xS_call hS hz (fun _ h => h)
    replace hP : va_P X.1 vwCl (wY X ad c11) H1 := hq
    clear hq hz
    refine W.eq (g2 := F0 m 14 ls []) rfl ?_
    refine lv_aload_n hx hb d_MaskEdgesModel_image_14 rfl (lv_at hl 0 rfl) ?_
    refine lv_iload_n hx hb d_MaskEdgesModel_image_15 rfl (lv_at hl 1 rfl) ?_
    refine lv_iload_n hx hb d_MaskEdgesModel_image_16 rfl (lv_at hl 2 rfl) ?_
    obtain ⟨c17, e17, hf⟩ := x_b hf
    refine xcR (va_runV (As := [.int v1, .int v2]) (rest := []) ⟨hx, hb, hml, hown, ht⟩ (c_MaskEdgesModel_imageAt l X ad c11 v1 v2 hP e17) (cwV 2 ht (xgV xw_571 xw_572 xw_26 xw_43 xw_573) rfl rfl rfl (by decide +kernel) ⟨Nat.le_of_ble_eq_true rfl, Nat.le_of_ble_eq_true rfl⟩) (xPV hKK (va_recv hK hP (ci := 6) (q0 := 0) rfl yg0)) rfl rfl hl.1 rfl (lv_room (Nat.le_of_ble_eq_true rfl)) d_MaskEdgesModel_image_17 ⟨Nat.zero_le _, Nat.zero_le _⟩) ?_
    refine W.eq (g2 := F0 m 20 ls [.int c17]) rfl ?_
    replace hf := x_s hf
    subst hf
    subst hQ
    exact W.iret (v := c17) hx hb hr (fun t ht hW => ⟨⟨rfl, by rw [ht]; exact hP⟩, hS.F ht⟩) hS.2.2 d_MaskEdgesModel_image_20
  · replace hf := x_t hc hf
    refine lv_iconst (v := (0 : Int32)) hx hb d_MaskEdgesModel_image_8 (by decide) ?_
    replace hf := x_s hf
    subst hf
    subst hQ
    exact W.iret (v := (0 : Int32)) hx hb hr (fun t ht hW => ⟨⟨rfl, by rw [ht]; exact hP⟩, hS.F ht⟩) hS.2.2 d_MaskEdgesModel_image_9
def f_MaskEdgesModel_isPiece (ST : ySt) (v1 : Int32) : Option (Int32) :=
  (f_MaskEdgesModel_isBetween v1.toInt64 (0 : Int64) (((Y_pieces ST) - (1 : Int32)).toInt64)).bind fun c10 =>
  if xz c10 = true then
  some c10
else none
set_option maxHeartbeats 4000000 in
set_option maxRecDepth 100000 in
theorem c_MaskEdgesModel_isPiece (l : Launch) (X : xG) {H : Heap} (ad : Nat → Nat) (ST : ySt) (v1 : Int32) {res : Int32} (hP : va_P X.1 vwCl (wY X ad ST) H) (hf : f_MaskEdgesModel_isPiece ST v1 = some res) : xM l y_MaskEdgesModel_isPiece (Cond.code y_MaskEdgesModel_isPiece prog_8_method_25_code 2 (some .boolean) :: xT) ({ frames := 1, cells := 0, slots := 0, locals := 25 } : Room) (xK X) [.ref (ad 0), .int v1] H xNo (some (.int res)) (fun H1 => H1 = H) := by
  refine Met.ofW (cc := prog_8_method_25_code) (maxL := 2) (ret := (some .boolean)) (by decide) rfl ?_
  intro p e s m args below meth c s₁ B hml hv
  obtain ⟨ha, hH, hKK⟩ := hv
  subst hH
  have hx := B.exec
  have hb := B.bytes
  have hr := B.returns
  have ht : ∀ w ∈ xT, w.before args s = true := fun w h => atoms_spec (ws := (Cond.code y_MaskEdgesModel_isPiece prog_8_method_25_code 2 (some .boolean) :: xT)) B.pre w (List.mem_cons_of_mem _ h)
  have hown : s.vm.findClass "MaskEdgesModel" = some m.cls := findClass_of_methodNamed B.named
  have hlocks := B.notSynchronized
  have hK := hKK.1
  rw [show entryFrame m args 2 = entryFrame m ([.ref (ad 0), .int v1] : List Value).toArray 2 from by rw [ha]]
  clear ha
  have hl := lv_entry ([.ref (ad 0), .int v1]) (n := 2) (Nat.le_of_ble_eq_true rfl)
  rw [lg_entry_eq]
  generalize (lg_sl ([.ref (ad 0), .int v1]) ++ List.replicate (2 - (lg_sl ([.ref (ad 0), .int v1])).length) Slot.unset).toArray = ls at hl ⊢
  replace hl : lv_has ls 2 [(0, .ref (ad 0)), (1, .int v1)] := hl
  refine x_Q (fun Q hQ => ?_)
  unfold f_MaskEdgesModel_isPiece at hf
  refine lv_iload_n hx hb d_MaskEdgesModel_isPiece_0 rfl (lv_at hl 1 rfl) ?_
  refine lv_i2l hx hb d_MaskEdgesModel_isPiece_1 rfl ?_
  refine lv_lconst (v := (0 : Int64)) hx hb d_MaskEdgesModel_isPiece_2 (by decide) ?_
  refine lv_aload_n hx hb d_MaskEdgesModel_isPiece_3 rfl (lv_at hl 0 rfl) ?_
  refine va_get (D := X.1) (ci := 6) (v := .int (Y_pieces ST)) (C := "MaskEdgesModel") (T := F_MaskEdgesModel) (N := 28) hx hb ht in_MaskEdgesModel hown hK hP 0 yg0 rfl 9 (by decide) (ht _ xw_456) (fun _ h9 => h9) rfl d_MaskEdgesModel_isPiece_4 ?_
  refine lv_iconst (v := (1 : Int32)) hx hb d_MaskEdgesModel_isPiece_7 (by decide) ?_
  refine lv_isub hx hb d_MaskEdgesModel_isPiece_8 ?_
  refine lv_i2l hx hb d_MaskEdgesModel_isPiece_9 rfl ?_
  obtain ⟨c10, e10, hf⟩ := x_b hf
  refine xcR (va_runS (As := [.long v1.toInt64, .long (0 : Int64), .long (((Y_pieces ST) - (1 : Int32)).toInt64)]) (rest := []) ⟨hx, hb, hml, hown, ht⟩ (c_MaskEdgesModel_isBetween l X v1.toInt64 (0 : Int64) (((Y_pieces ST) - (1 : Int32)).toInt64) e10) (cwS 3 ht (xgS xw_512 xw_513 xw_43 xw_514) rfl rfl rfl (by decide +kernel) ⟨Nat.le_of_ble_eq_true rfl, Nat.le_of_ble_eq_true rfl⟩) (xPS hKK) rfl rfl hl.1 rfl (lv_room (Nat.le_of_ble_eq_true rfl)) d_MaskEdgesModel_isPiece_10 ⟨Nat.zero_le _, Nat.zero_le _⟩) ?_
  refine W.eq (g2 := F0 m 13 ls [.int c10]) rfl ?_
  obtain ⟨zr, hf⟩ := x_g hf
  replace hf := x_s hf
  subst hf
  subst hQ
  exact W.zret (v := c10) hx hb hr (xz_n zr) (fun t ht hW => ⟨⟨rfl, ht⟩, x_F0 ht⟩) x_l0 d_MaskEdgesModel_isPiece_13
