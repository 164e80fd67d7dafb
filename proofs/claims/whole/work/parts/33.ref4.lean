def f_MaskEdgesModel_errorAt_172 (ST : ySt) (r51 : Int32 → Int32 → Int32 → Int32 → Int32 → Option (Int32)) (v1 : Int32) (v2 : Int32) (v4 : Int32) (v6 : Int32) (s0 : Int32) : Option (Int32) :=
  r51 v1 v2 v4 s0 v6
def f_MaskEdgesModel_errorAt_156 (ST : ySt) (r51 : Int32 → Int32 → Int32 → Int32 → Int32 → Option (Int32)) (v1 : Int32) (v2 : Int32) (v4 : Int32) (v5 : Int32) (s0 : Int32) : Option (Int32) :=
  if s0 = 0 then
  (f_MaskEdgesModel_errorAt_172 ST r51) v1 v2 v4 s0 v5
else
  (f_MaskEdgesModel_errorAt_172 ST r51) v1 v2 v4 s0 (v5 + (1 : Int32))
def f_MaskEdgesModel_errorAt_155 (ST : ySt) (r51 : Int32 → Int32 → Int32 → Int32 → Int32 → Option (Int32)) (v1 : Int32) (v2 : Int32) (v4 : Int32) (v5 : Int32) : Option (Int32) :=
  (f_MaskEdgesModel_errorAt_156 ST r51) v1 v2 v4 v5 (0 : Int32)
def f_MaskEdgesModel_errorAt_107 (ST : ySt) (r51 : Int32 → Int32 → Int32 → Int32 → Int32 → Option (Int32)) (v1 : Int32) (v2 : Int32) (v4 : Int32) (v5 : Int32) (s0 : Int32) : Option (Int32) :=
  (f_MaskEdgesModel_besideX ST v1 s0).bind fun c113 =>
  (f_MaskEdgesModel_besideY ST v1 s0).bind fun c122 =>
  (f_MaskEdgesModel_isCell c113 c122).bind fun c131 =>
  if c131 = 0 then
  (f_MaskEdgesModel_errorAt_155 ST r51) v1 v2 v4 v5
else
  (f_MaskEdgesModel_doesPrint ST c113 c122 v2).bind fun c143 =>
    if c143 = v4 then
    (f_MaskEdgesModel_errorAt_156 ST r51) v1 v2 v4 v5 (1 : Int32)
  else
    (f_MaskEdgesModel_errorAt_155 ST r51) v1 v2 v4 v5
def f_MaskEdgesModel_errorAt_51 (ST : ySt) (r51 : Int32 → Int32 → Int32 → Int32 → Int32 → Option (Int32)) (k177 : Int32 → Int32 → Option (Int32)) (v1 : Int32) (v2 : Int32) (v4 : Int32) (v5 : Int32) (v6 : Int32) : Option (Int32) :=
  if v6 = 0 then
  k177 v4 v5
else
  if (8 : Int32) ≤ v5 then
    k177 v4 v5
  else
    if v4 = 0 then
      if xin v1 120 = true then
        if (Y_out ST v1.toNatClampNeg) ≤ 0 then
          (f_MaskEdgesModel_errorAt_107 ST r51) v1 v2 v4 v5 v5
        else
          (f_MaskEdgesModel_errorAt_107 ST r51) v1 v2 v4 v5 ((-1 : Int32) - v5)
      else none
    else
      if xin v1 120 = true then
        if (Y_out ST v1.toNatClampNeg) ≤ 0 then
          (f_MaskEdgesModel_errorAt_107 ST r51) v1 v2 v4 v5 ((-1 : Int32) - v5)
        else
          (f_MaskEdgesModel_errorAt_107 ST r51) v1 v2 v4 v5 v5
      else none
def f_MaskEdgesModel_errorAt_177 (ST : ySt) (v4 : Int32) (v5 : Int32) : Option (Int32) :=
  if v4 = 0 then
  some (-v5)
else
  some v5
def f_MaskEdgesModel_errorAt_25 (ST : ySt) (v1 : Int32) (v2 : Int32) (s0 : Int32) : Option (Int32) :=
  (f_MaskEdgesModel_besideX ST v1 s0).bind fun c30 =>
  (f_MaskEdgesModel_besideY ST v1 s0).bind fun c36 =>
  (f_MaskEdgesModel_doesPrint ST c30 c36 v2).bind fun c40 =>
  (xloop (fun r => f_MaskEdgesModel_errorAt_51 ST r (f_MaskEdgesModel_errorAt_177 ST)) (fun _ _ _ _ _ => none) 100000) v1 v2 c40 (0 : Int32) (1 : Int32)
def f_MaskEdgesModel_errorAt (ST : ySt) (v1 : Int32) (v2 : Int32) : Option (Int32) :=
  if xin v1 120 = true then
  if (Y_out ST v1.toNatClampNeg) = 0 then
    some (0 : Int32)
  else
    if xin v1 120 = true then
      if (Y_out ST v1.toNatClampNeg) ≤ 0 then
        (f_MaskEdgesModel_errorAt_25 ST) v1 v2 (0 : Int32)
      else
        (f_MaskEdgesModel_errorAt_25 ST) v1 v2 (-1 : Int32)
    else none
else none
set_option maxHeartbeats 4000000 in
set_option maxRecDepth 100000 in
theorem c_MaskEdgesModel_errorAt (l : Launch) (X : xG) {H : Heap} (ad : Nat → Nat) (ST : ySt) (v1 : Int32) (v2 : Int32) {res : Int32} (hP : va_P X.1 vwCl (wY X ad ST) H) (hf : f_MaskEdgesModel_errorAt ST v1 v2 = some res) : xM l y_MaskEdgesModel_errorAt (Cond.code y_MaskEdgesModel_errorAt prog_8_method_26_code 10 (some .int) :: xT) ({ frames := 4, cells := 0, slots := 0, locals := 94 } : Room) (xK X) [.ref (ad 0), .int v1, .int v2] H xNo (some (.int res)) (fun H1 => H1 = H) := by
  refine Met.ofW (cc := prog_8_method_26_code) (maxL := 10) (ret := (some .int)) (by decide) rfl ?_
  intro p e s m args below meth c s₁ B hml hv
  obtain ⟨ha, hH, hKK⟩ := hv
  subst hH
  have hx := B.exec
  have hb := B.bytes
  have hr := B.returns
  have ht : ∀ w ∈ xT, w.before args s = true := fun w h => atoms_spec (ws := (Cond.code y_MaskEdgesModel_errorAt prog_8_method_26_code 10 (some .int) :: xT)) B.pre w (List.mem_cons_of_mem _ h)
  have hown : s.vm.findClass "MaskEdgesModel" = some m.cls := findClass_of_methodNamed B.named
  have hlocks := B.notSynchronized
  have hK := hKK.1
  rw [show entryFrame m args 10 = entryFrame m ([.ref (ad 0), .int v1, .int v2] : List Value).toArray 10 from by rw [ha]]
  clear ha
  have hl := lv_entry ([.ref (ad 0), .int v1, .int v2]) (n := 10) (Nat.le_of_ble_eq_true rfl)
  rw [lg_entry_eq]
  generalize (lg_sl ([.ref (ad 0), .int v1, .int v2]) ++ List.replicate (10 - (lg_sl ([.ref (ad 0), .int v1, .int v2])).length) Slot.unset).toArray = ls at hl ⊢
  replace hl : lv_has ls 10 [(0, .ref (ad 0)), (1, .int v1), (2, .int v2)] := hl
  refine x_Q (fun Q hQ => ?_)
  have hL172 : ∀ (r51 : Int32 → Int32 → Int32 → Int32 → Int32 → Option (Int32)) (hr51 : ∀ (v1 : Int32) (v2 : Int32) (v4 : Int32) (v5 : Int32) (v6 : Int32), ∀ (ls : Array Slot), lv_has ls 10 [(0, .ref (ad 0)), (1, .int v1), (2, .int v2), (4, .int v4), (5, .int v5), (6, .int v6)] → r51 v1 v2 v4 v5 v6 = some res → W p l e (headSpec (Cond.code y_MaskEdgesModel_errorAt prog_8_method_26_code 10 (some .int) :: xT) ({ frames := 4, cells := 0, slots := 0, locals := 94 } : Room)).room s m args below meth c s.heap [] 0 0 Q (F0 m 51 ls [])), ∀ (v1 : Int32) (v2 : Int32) (v4 : Int32) (v6 : Int32) (s0 : Int32), ∀ (ls : Array Slot), lv_has ls 10 [(0, .ref (ad 0)), (1, .int v1), (2, .int v2), (4, .int v4), (6, .int v6)] → f_MaskEdgesModel_errorAt_172 ST r51 v1 v2 v4 v6 s0 = some res → W p l e (headSpec (Cond.code y_MaskEdgesModel_errorAt prog_8_method_26_code 10 (some .int) :: xT) ({ frames := 4, cells := 0, slots := 0, locals := 94 } : Room)).room s m args below meth c s.heap [] 0 0 Q (F0 m 172 ls [.int s0]) := by
    intro r51 hr51 v1 v2 v4 v6 s0 ls hl hf
    unfold f_MaskEdgesModel_errorAt_172 at hf
    refine lv_istore (lv' := [(5, .int s0), (0, .ref (ad 0)), (1, .int v1), (2, .int v2), (4, .int v4), (6, .int v6)]) hx hb d_MaskEdgesModel_errorAt_172 hl (by decide) rfl (fun ls hl => ?_)
    refine lv_goto (tgt := 51) hx hb d_MaskEdgesModel_errorAt_174 (by decide) ?_
    exact hr51 v1 v2 v4 s0 v6  ls (lv_sub hl [1, 2, 3, 4, 0, 5] rfl) hf
  have hL156 : ∀ (r51 : Int32 → Int32 → Int32 → Int32 → Int32 → Option (Int32)) (hr51 : ∀ (v1 : Int32) (v2 : Int32) (v4 : Int32) (v5 : Int32) (v6 : Int32), ∀ (ls : Array Slot), lv_has ls 10 [(0, .ref (ad 0)), (1, .int v1), (2, .int v2), (4, .int v4), (5, .int v5), (6, .int v6)] → r51 v1 v2 v4 v5 v6 = some res → W p l e (headSpec (Cond.code y_MaskEdgesModel_errorAt prog_8_method_26_code 10 (some .int) :: xT) ({ frames := 4, cells := 0, slots := 0, locals := 94 } : Room)).room s m args below meth c s.heap [] 0 0 Q (F0 m 51 ls [])), ∀ (v1 : Int32) (v2 : Int32) (v4 : Int32) (v5 : Int32) (s0 : Int32), ∀ (ls : Array Slot), lv_has ls 10 [(0, .ref (ad 0)), (1, .int v1), (2, .int v2), (4, .int v4), (5, .int v5)] → f_MaskEdgesModel_errorAt_156 ST r51 v1 v2 v4 v5 s0 = some res → W p l e (headSpec (Cond.code y_MaskEdgesModel_errorAt prog_8_method_26_code 10 (some .int) :: xT) ({ frames := 4, cells := 0, slots := 0, locals := 94 } : Room)).room s m args below meth c s.heap [] 0 0 Q (F0 m 156 ls [.int s0]) := by
    intro r51 hr51 v1 v2 v4 v5 s0 ls hl hf
    unfold f_MaskEdgesModel_errorAt_156 at hf
    refine lv_istore (lv' := [(6, .int s0), (0, .ref (ad 0)), (1, .int v1), (2, .int v2), (4, .int v4), (5, .int v5)]) hx hb d_MaskEdgesModel_errorAt_156 hl (by decide) rfl (fun ls hl => ?_)
    refine lv_iload hx hb d_MaskEdgesModel_errorAt_158 (lv_at hl 0 rfl) ?_
    refine lv_if_eq (tgt := 170) hx hb d_MaskEdgesModel_errorAt_160 (by decide) (fun hc => ?_) (fun hc => ?_)
    · replace hf := x_t hc hf
      refine lv_iload hx hb d_MaskEdgesModel_errorAt_170 (lv_at hl 5 rfl) ?_
      exact (hL172 _ hr51) v1 v2 v4 s0 v5  ls (lv_sub hl [1, 2, 3, 4, 0] rfl) hf
    · replace hf := x_f hc hf
      refine lv_iload hx hb d_MaskEdgesModel_errorAt_163 (lv_at hl 5 rfl) ?_
      refine lv_iconst (v := (1 : Int32)) hx hb d_MaskEdgesModel_errorAt_165 (by decide) ?_
      refine lv_iadd hx hb d_MaskEdgesModel_errorAt_166 ?_
      refine lv_goto (tgt := 172) hx hb d_MaskEdgesModel_errorAt_167 (by decide) ?_
      exact (hL172 _ hr51) v1 v2 v4 s0 (v5 + (1 : Int32))  ls (lv_sub hl [1, 2, 3, 4, 0] rfl) hf
  have hL155 : ∀ (r51 : Int32 → Int32 → Int32 → Int32 → Int32 → Option (Int32)) (hr51 : ∀ (v1 : Int32) (v2 : Int32) (v4 : Int32) (v5 : Int32) (v6 : Int32), ∀ (ls : Array Slot), lv_has ls 10 [(0, .ref (ad 0)), (1, .int v1), (2, .int v2), (4, .int v4), (5, .int v5), (6, .int v6)] → r51 v1 v2 v4 v5 v6 = some res → W p l e (headSpec (Cond.code y_MaskEdgesModel_errorAt prog_8_method_26_code 10 (some .int) :: xT) ({ frames := 4, cells := 0, slots := 0, locals := 94 } : Room)).room s m args below meth c s.heap [] 0 0 Q (F0 m 51 ls [])), ∀ (v1 : Int32) (v2 : Int32) (v4 : Int32) (v5 : Int32), ∀ (ls : Array Slot), lv_has ls 10 [(0, .ref (ad 0)), (1, .int v1), (2, .int v2), (4, .int v4), (5, .int v5)] → f_MaskEdgesModel_errorAt_155 ST r51 v1 v2 v4 v5 = some res → W p l e (headSpec (Cond.code y_MaskEdgesModel_errorAt prog_8_method_26_code 10 (some .int) :: xT) ({ frames := 4, cells := 0, slots := 0, locals := 94 } : Room)).room s m args below meth c s.heap [] 0 0 Q (F0 m 155 ls []) := by
    intro r51 hr51 v1 v2 v4 v5 ls hl hf
    unfold f_MaskEdgesModel_errorAt_155 at hf
    refine lv_iconst (v := (0 : Int32)) hx hb d_MaskEdgesModel_errorAt_155 (by decide) ?_
    exact (hL156 _ hr51) v1 v2 v4 v5 (0 : Int32)  ls (lv_sub hl [0, 1, 2, 3, 4] rfl) hf
  have hL107 : ∀ (r51 : Int32 → Int32 → Int32 → Int32 → Int32 → Option (Int32)) (hr51 : ∀ (v1 : Int32) (v2 : Int32) (v4 : Int32) (v5 : Int32) (v6 : Int32), ∀ (ls : Array Slot), lv_has ls 10 [(0, .ref (ad 0)), (1, .int v1), (2, .int v2), (4, .int v4), (5, .int v5), (6, .int v6)] → r51 v1 v2 v4 v5 v6 = some res → W p l e (headSpec (Cond.code y_MaskEdgesModel_errorAt prog_8_method_26_code 10 (some .int) :: xT) ({ frames := 4, cells := 0, slots := 0, locals := 94 } : Room)).room s m args below meth c s.heap [] 0 0 Q (F0 m 51 ls [])), ∀ (v1 : Int32) (v2 : Int32) (v4 : Int32) (v5 : Int32) (s0 : Int32), ∀ (ls : Array Slot), lv_has ls 10 [(0, .ref (ad 0)), (1, .int v1), (2, .int v2), (4, .int v4), (5, .int v5)] → f_MaskEdgesModel_errorAt_107 ST r51 v1 v2 v4 v5 s0 = some res → W p l e (headSpec (Cond.code y_MaskEdgesModel_errorAt prog_8_method_26_code 10 (some .int) :: xT) ({ frames := 4, cells := 0, slots := 0, locals := 94 } : Room)).room s m args below meth c s.heap [] 0 0 Q (F0 m 107 ls [.int s0]) := by
    intro r51 hr51 v1 v2 v4 v5 s0 ls hl hf
    unfold f_MaskEdgesModel_errorAt_107 at hf
    refine lv_istore (lv' := [(7, .int s0), (0, .ref (ad 0)), (1, .int v1), (2, .int v2), (4, .int v4), (5, .int v5)]) hx hb d_MaskEdgesModel_errorAt_107 hl (by decide) rfl (fun ls hl => ?_)
    refine lv_aload_n hx hb d_MaskEdgesModel_errorAt_109 rfl (lv_at hl 1 rfl) ?_
    refine lv_iload_n hx hb d_MaskEdgesModel_errorAt_110 rfl (lv_at hl 2 rfl) ?_
    refine lv_iload hx hb d_MaskEdgesModel_errorAt_111 (lv_at hl 0 rfl) ?_
    obtain ⟨c113, e113, hf⟩ := x_b hf
    refine xcR (va_runV (As := [.int v1, .int s0]) (rest := []) ⟨hx, hb, hml, hown, ht⟩ (c_MaskEdgesModel_besideX l X ad ST v1 s0 hP e113) (cwV 2 ht (xgV xw_539 xw_540 xw_18 xw_43 xw_541) rfl rfl rfl (by decide +kernel) ⟨Nat.le_of_ble_eq_true rfl, Nat.le_of_ble_eq_true rfl⟩) (xPV hKK (va_recv hK hP (ci := 6) (q0 := 0) rfl yg0)) rfl rfl hl.1 rfl (lv_room (Nat.le_of_ble_eq_true rfl)) d_MaskEdgesModel_errorAt_113 ⟨Nat.zero_le _, Nat.zero_le _⟩) ?_
    refine W.eq (g2 := F0 m 116 ls [.int c113]) rfl ?_
    refine lv_istore (lv' := [(8, .int c113), (7, .int s0), (0, .ref (ad 0)), (1, .int v1), (2, .int v2), (4, .int v4), (5, .int v5)]) hx hb d_MaskEdgesModel_errorAt_116 hl (by decide) rfl (fun ls hl => ?_)
    refine lv_aload_n hx hb d_MaskEdgesModel_errorAt_118 rfl (lv_at hl 2 rfl) ?_
    refine lv_iload_n hx hb d_MaskEdgesModel_errorAt_119 rfl (lv_at hl 3 rfl) ?_
    refine lv_iload hx hb d_MaskEdgesModel_errorAt_120 (lv_at hl 1 rfl) ?_
    obtain ⟨c122, e122, hf⟩ := x_b hf
    refine xcR (va_runV (As := [.int v1, .int s0]) (rest := []) ⟨hx, hb, hml, hown, ht⟩ (c_MaskEdgesModel_besideY l X ad ST v1 s0 hP e122) (cwV 2 ht (xgV xw_545 xw_546 xw_20 xw_43 xw_547) rfl rfl rfl (by decide +kernel) ⟨Nat.le_of_ble_eq_true rfl, Nat.le_of_ble_eq_true rfl⟩) (xPV hKK (va_recv hK hP (ci := 6) (q0 := 0) rfl yg0)) rfl rfl hl.1 rfl (lv_room (Nat.le_of_ble_eq_true rfl)) d_MaskEdgesModel_errorAt_122 ⟨Nat.zero_le _, Nat.zero_le _⟩) ?_
    refine W.eq (g2 := F0 m 125 ls [.int c122]) rfl ?_
    refine lv_istore (lv' := [(9, .int c122), (8, .int c113), (7, .int s0), (0, .ref (ad 0)), (1, .int v1), (2, .int v2), (4, .int v4), (5, .int v5)]) hx hb d_MaskEdgesModel_errorAt_125 hl (by decide) rfl (fun ls hl => ?_)
    refine lv_iload hx hb d_MaskEdgesModel_errorAt_127 (lv_at hl 1 rfl) ?_
    refine lv_iload hx hb d_MaskEdgesModel_errorAt_129 (lv_at hl 0 rfl) ?_
    obtain ⟨c131, e131, hf⟩ := x_b hf
    refine xcR (va_runS (As := [.int c113, .int c122]) (rest := []) ⟨hx, hb, hml, hown, ht⟩ (c_MaskEdgesModel_isCell l X c113 c122 e131) (cwS 2 ht (xgS xw_551 xw_552 xw_43 xw_553) rfl rfl rfl (by decide +kernel) ⟨Nat.le_of_ble_eq_true rfl, Nat.le_of_ble_eq_true rfl⟩) (xPS hKK) rfl rfl hl.1 rfl (lv_room (Nat.le_of_ble_eq_true rfl)) d_MaskEdgesModel_errorAt_131 ⟨Nat.zero_le _, Nat.zero_le _⟩) ?_
    refine W.eq (g2 := F0 m 134 ls [.int c131]) rfl ?_
    refine lv_if_eq (tgt := 155) hx hb d_MaskEdgesModel_errorAt_134 (by decide) (fun hc => ?_) (fun hc => ?_)
    · replace hf := x_t hc hf
      exact (hL155 _ hr51) v1 v2 v4 v5  ls (lv_sub hl [3, 4, 5, 6, 7] rfl) hf
    · replace hf := x_f hc hf
      refine lv_aload_n hx hb d_MaskEdgesModel_errorAt_137 rfl (lv_at hl 3 rfl) ?_
      refine lv_iload hx hb d_MaskEdgesModel_errorAt_138 (lv_at hl 1 rfl) ?_
      refine lv_iload hx hb d_MaskEdgesModel_errorAt_140 (lv_at hl 0 rfl) ?_
      refine lv_iload_n hx hb d_MaskEdgesModel_errorAt_142 rfl (lv_at hl 5 rfl) ?_
      obtain ⟨c143, e143, hf⟩ := x_b hf
      refine xcR (va_runV (As := [.int c113, .int c122, .int v2]) (rest := []) ⟨hx, hb, hml, hown, ht⟩ (c_MaskEdgesModel_doesPrint l X ad ST c113 c122 v2 hP e143) (cwV 3 ht (xgV xw_595 xw_596 xw_30 xw_43 xw_597) rfl rfl rfl (by decide +kernel) ⟨Nat.le_of_ble_eq_true rfl, Nat.le_of_ble_eq_true rfl⟩) (xPV hKK (va_recv hK hP (ci := 6) (q0 := 0) rfl yg0)) rfl rfl hl.1 rfl (lv_room (Nat.le_of_ble_eq_true rfl)) d_MaskEdgesModel_errorAt_143 ⟨Nat.zero_le _, Nat.zero_le _⟩) ?_
      refine W.eq (g2 := F0 m 146 ls [.int c143]) rfl ?_
      refine lv_iload hx hb d_MaskEdgesModel_errorAt_146 (lv_at hl 6 rfl) ?_
      refine lv_icmp_ne (tgt := 155) hx hb d_MaskEdgesModel_errorAt_148 (by decide) (fun hc => ?_) (fun hc => ?_)
      · replace hf := x_f hc hf
        exact (hL155 _ hr51) v1 v2 v4 v5  ls (lv_sub hl [3, 4, 5, 6, 7] rfl) hf
      · replace hf := x_t hc hf
        refine lv_iconst (v := (1 : Int32)) hx hb d_MaskEdgesModel_errorAt_151 (by decide) ?_
        refine lv_goto (tgt := 156) hx hb d_MaskEdgesModel_errorAt_152 (by decide) ?_
        exact (hL156 _ hr51) v1 v2 v4 v5 (1 : Int32)  ls (lv_sub hl [3, 4, 5, 6, 7] rfl) hf
  have hL51 : ∀ (k177 : Int32 → Int32 → Option (Int32)) (hk177 : ∀ (v4 : Int32) (v5 : Int32), ∀ (ls : Array Slot), lv_has ls 10 [(4, .int v4), (5, .int v5)] → k177 v4 v5 = some res → W p l e (headSpec (Cond.code y_MaskEdgesModel_errorAt prog_8_method_26_code 10 (some .int) :: xT) ({ frames := 4, cells := 0, slots := 0, locals := 94 } : Room)).room s m args below meth c s.heap [] 0 0 Q (F0 m 177 ls [])), ∀ (n : Nat), ∀ (v1 : Int32) (v2 : Int32) (v4 : Int32) (v5 : Int32) (v6 : Int32), ∀ (ls : Array Slot), lv_has ls 10 [(0, .ref (ad 0)), (1, .int v1), (2, .int v2), (4, .int v4), (5, .int v5), (6, .int v6)] → (xloop (fun r => f_MaskEdgesModel_errorAt_51 ST r k177) (fun _ _ _ _ _ => none) n) v1 v2 v4 v5 v6 = some res → W p l e (headSpec (Cond.code y_MaskEdgesModel_errorAt prog_8_method_26_code 10 (some .int) :: xT) ({ frames := 4, cells := 0, slots := 0, locals := 94 } : Room)).room s m args below meth c s.heap [] 0 0 Q (F0 m 51 ls []) := by
    intro k177 hk177
    intro n
    induction n with
    | zero => intro v1 v2 v4 v5 v6 ls hl hf; cases hf
    | succ n ih =>
      intro v1 v2 v4 v5 v6 ls hl hf
      replace hf : f_MaskEdgesModel_errorAt_51 ST (xloop (fun r => f_MaskEdgesModel_errorAt_51 ST r k177) (fun _ _ _ _ _ => none) n) k177 v1 v2 v4 v5 v6 = some res := hf
      have hr51 := ih
      clear ih
      unfold f_MaskEdgesModel_errorAt_51 at hf
      refine lv_iload hx hb d_MaskEdgesModel_errorAt_51 (lv_at hl 5 rfl) ?_
      refine lv_if_eq (tgt := 177) hx hb d_MaskEdgesModel_errorAt_53 (by decide) (fun hc => ?_) (fun hc => ?_)
      · replace hf := x_t hc hf
        exact hk177 v4 v5  ls (lv_sub hl [3, 4] rfl) hf
      · replace hf := x_f hc hf
        refine lv_iload hx hb d_MaskEdgesModel_errorAt_56 (lv_at hl 4 rfl) ?_
        refine lv_bipush (v := (8 : Int32)) hx hb d_MaskEdgesModel_errorAt_58 (by decide) ?_
        refine lv_icmp_ge (tgt := 177) hx hb d_MaskEdgesModel_errorAt_60 (by decide) (fun hc => ?_) (fun hc => ?_)
        · replace hf := x_t hc hf
          exact hk177 v4 v5  ls (lv_sub hl [3, 4] rfl) hf
        · replace hf := x_f hc hf
          refine lv_iload hx hb d_MaskEdgesModel_errorAt_63 (lv_at hl 3 rfl) ?_
          refine lv_if_eq (tgt := 89) hx hb d_MaskEdgesModel_errorAt_65 (by decide) (fun hc => ?_) (fun hc => ?_)
          · replace hf := x_t hc hf
            refine lv_aload_n hx hb d_MaskEdgesModel_errorAt_89 rfl (lv_at hl 0 rfl) ?_
            refine va_get (D := X.1) (ci := 6) (v := .ref (ad 13)) (C := "MaskEdgesModel") (T := F_MaskEdgesModel) (N := 28) hx hb ht in_MaskEdgesModel hown hK hP 0 yg0 rfl 16 (by decide) (ht _ xw_463) (fun _ h9 => h9) rfl d_MaskEdgesModel_errorAt_90 ?_
            refine lv_iload_n hx hb d_MaskEdgesModel_errorAt_93 rfl (lv_at hl 1 rfl) ?_
            obtain ⟨g94, hf⟩ := x_g hf
            refine va_iald hx hb hK hP 13 0 yg13 rfl (xin_in g94) d_MaskEdgesModel_errorAt_94 ?_
            refine lv_if_le (tgt := 105) hx hb d_MaskEdgesModel_errorAt_95 (by decide) (fun hc => ?_) (fun hc => ?_)
            · replace hf := x_t hc hf
              refine lv_iload hx hb d_MaskEdgesModel_errorAt_105 (lv_at hl 4 rfl) ?_
              exact (hL107 _ hr51) v1 v2 v4 v5 v5  ls (lv_sub hl [0, 1, 2, 3, 4] rfl) hf
            · replace hf := x_f hc hf
              refine lv_iconst (v := (-1 : Int32)) hx hb d_MaskEdgesModel_errorAt_98 (by decide) ?_
              refine lv_iload hx hb d_MaskEdgesModel_errorAt_99 (lv_at hl 4 rfl) ?_
              refine lv_isub hx hb d_MaskEdgesModel_errorAt_101 ?_
              refine lv_goto (tgt := 107) hx hb d_MaskEdgesModel_errorAt_102 (by decide) ?_
              exact (hL107 _ hr51) v1 v2 v4 v5 ((-1 : Int32) - v5)  ls (lv_sub hl [0, 1, 2, 3, 4] rfl) hf
          · replace hf := x_f hc hf
            refine lv_aload_n hx hb d_MaskEdgesModel_errorAt_68 rfl (lv_at hl 0 rfl) ?_
            refine va_get (D := X.1) (ci := 6) (v := .ref (ad 13)) (C := "MaskEdgesModel") (T := F_MaskEdgesModel) (N := 28) hx hb ht in_MaskEdgesModel hown hK hP 0 yg0 rfl 16 (by decide) (ht _ xw_463) (fun _ h9 => h9) rfl d_MaskEdgesModel_errorAt_69 ?_
            refine lv_iload_n hx hb d_MaskEdgesModel_errorAt_72 rfl (lv_at hl 1 rfl) ?_
            obtain ⟨g73, hf⟩ := x_g hf
            refine va_iald hx hb hK hP 13 0 yg13 rfl (xin_in g73) d_MaskEdgesModel_errorAt_73 ?_
            refine lv_if_le (tgt := 82) hx hb d_MaskEdgesModel_errorAt_74 (by decide) (fun hc => ?_) (fun hc => ?_)
            · replace hf := x_t hc hf
              refine lv_iconst (v := (-1 : Int32)) hx hb d_MaskEdgesModel_errorAt_82 (by decide) ?_
              refine lv_iload hx hb d_MaskEdgesModel_errorAt_83 (lv_at hl 4 rfl) ?_
              refine lv_isub hx hb d_MaskEdgesModel_errorAt_85 ?_
              refine lv_goto (tgt := 107) hx hb d_MaskEdgesModel_errorAt_86 (by decide) ?_
              exact (hL107 _ hr51) v1 v2 v4 v5 ((-1 : Int32) - v5)  ls (lv_sub hl [0, 1, 2, 3, 4] rfl) hf
            · replace hf := x_f hc hf
              refine lv_iload hx hb d_MaskEdgesModel_errorAt_77 (lv_at hl 4 rfl) ?_
              refine lv_goto (tgt := 107) hx hb d_MaskEdgesModel_errorAt_79 (by decide) ?_
              exact (hL107 _ hr51) v1 v2 v4 v5 v5  ls (lv_sub hl [0, 1, 2, 3, 4] rfl) hf
  have hL177 : ∀ (v4 : Int32) (v5 : Int32), ∀ (ls : Array Slot), lv_has ls 10 [(4, .int v4), (5, .int v5)] → f_MaskEdgesModel_errorAt_177 ST v4 v5 = some res → W p l e (headSpec (Cond.code y_MaskEdgesModel_errorAt prog_8_method_26_code 10 (some .int) :: xT) ({ frames := 4, cells := 0, slots := 0, locals := 94 } : Room)).room s m args below meth c s.heap [] 0 0 Q (F0 m 177 ls []) := by
    intro v4 v5 ls hl hf
    unfold f_MaskEdgesModel_errorAt_177 at hf
    refine lv_iload hx hb d_MaskEdgesModel_errorAt_177 (lv_at hl 0 rfl) ?_
    refine lv_if_eq (tgt := 187) hx hb d_MaskEdgesModel_errorAt_179 (by decide) (fun hc => ?_) (fun hc => ?_)
    · replace hf := x_t hc hf
      refine lv_iload hx hb d_MaskEdgesModel_errorAt_187 (lv_at hl 1 rfl) ?_
      refine lv_ineg hx hb d_MaskEdgesModel_errorAt_189 ?_
      replace hf := x_s hf
      subst hf
      subst hQ
      exact W.iret (v := (-v5)) hx hb hr (fun t ht hW => ⟨⟨rfl, ht⟩, x_F0 ht⟩) x_l0 d_MaskEdgesModel_errorAt_190
    · replace hf := x_f hc hf
      refine lv_iload hx hb d_MaskEdgesModel_errorAt_182 (lv_at hl 1 rfl) ?_
      refine lv_goto (tgt := 190) hx hb d_MaskEdgesModel_errorAt_184 (by decide) ?_
      replace hf := x_s hf
      subst hf
      subst hQ
      exact W.iret (v := v5) hx hb hr (fun t ht hW => ⟨⟨rfl, ht⟩, x_F0 ht⟩) x_l0 d_MaskEdgesModel_errorAt_190
  have hL25 : ∀ (v1 : Int32) (v2 : Int32) (s0 : Int32), ∀ (ls : Array Slot), lv_has ls 10 [(0, .ref (ad 0)), (1, .int v1), (2, .int v2)] → f_MaskEdgesModel_errorAt_25 ST v1 v2 s0 = some res → W p l e (headSpec (Cond.code y_MaskEdgesModel_errorAt prog_8_method_26_code 10 (some .int) :: xT) ({ frames := 4, cells := 0, slots := 0, locals := 94 } : Room)).room s m args below meth c s.heap [] 0 0 Q (F0 m 25 ls [.int s0]) := by
    intro v1 v2 s0 ls hl hf
    unfold f_MaskEdgesModel_errorAt_25 at hf
    refine lv_istore_n (lv' := [(3, .int s0), (0, .ref (ad 0)), (1, .int v1), (2, .int v2)]) hx hb d_MaskEdgesModel_errorAt_25 rfl hl (by decide) rfl (fun ls hl => ?_)
    refine lv_aload_n hx hb d_MaskEdgesModel_errorAt_26 rfl (lv_at hl 1 rfl) ?_
    refine lv_aload_n hx hb d_MaskEdgesModel_errorAt_27 rfl (lv_at hl 1 rfl) ?_
    refine lv_iload_n hx hb d_MaskEdgesModel_errorAt_28 rfl (lv_at hl 2 rfl) ?_
    refine lv_iload_n hx hb d_MaskEdgesModel_errorAt_29 rfl (lv_at hl 0 rfl) ?_
    obtain ⟨c30, e30, hf⟩ := x_b hf
    refine xcR (va_runV (As := [.int v1, .int s0]) (rest := [.ref (ad 0)]) ⟨hx, hb, hml, hown, ht⟩ (c_MaskEdgesModel_besideX l X ad ST v1 s0 hP e30) (cwV 2 ht (xgV xw_539 xw_540 xw_18 xw_43 xw_541) rfl rfl rfl (by decide +kernel) ⟨Nat.le_of_ble_eq_true rfl, Nat.le_of_ble_eq_true rfl⟩) (xPV hKK (va_recv hK hP (ci := 6) (q0 := 0) rfl yg0)) rfl rfl hl.1 rfl (lv_room (Nat.le_of_ble_eq_true rfl)) d_MaskEdgesModel_errorAt_30 ⟨Nat.zero_le _, Nat.zero_le _⟩) ?_
    refine W.eq (g2 := F0 m 33 ls [.int c30, .ref (ad 0)]) rfl ?_
    refine lv_aload_n hx hb d_MaskEdgesModel_errorAt_33 rfl (lv_at hl 1 rfl) ?_
    refine lv_iload_n hx hb d_MaskEdgesModel_errorAt_34 rfl (lv_at hl 2 rfl) ?_
    refine lv_iload_n hx hb d_MaskEdgesModel_errorAt_35 rfl (lv_at hl 0 rfl) ?_
    obtain ⟨c36, e36, hf⟩ := x_b hf
    refine xcR (va_runV (As := [.int v1, .int s0]) (rest := [.int c30, .ref (ad 0)]) ⟨hx, hb, hml, hown, ht⟩ (c_MaskEdgesModel_besideY l X ad ST v1 s0 hP e36) (cwV 2 ht (xgV xw_545 xw_546 xw_20 xw_43 xw_547) rfl rfl rfl (by decide +kernel) ⟨Nat.le_of_ble_eq_true rfl, Nat.le_of_ble_eq_true rfl⟩) (xPV hKK (va_recv hK hP (ci := 6) (q0 := 0) rfl yg0)) rfl rfl hl.1 rfl (lv_room (Nat.le_of_ble_eq_true rfl)) d_MaskEdgesModel_errorAt_36 ⟨Nat.zero_le _, Nat.zero_le _⟩) ?_
    refine W.eq (g2 := F0 m 39 ls [.int c36, .int c30, .ref (ad 0)]) rfl ?_
    refine lv_iload_n hx hb d_MaskEdgesModel_errorAt_39 rfl (lv_at hl 3 rfl) ?_
    obtain ⟨c40, e40, hf⟩ := x_b hf
    refine xcR (va_runV (As := [.int c30, .int c36, .int v2]) (rest := []) ⟨hx, hb, hml, hown, ht⟩ (c_MaskEdgesModel_doesPrint l X ad ST c30 c36 v2 hP e40) (cwV 3 ht (xgV xw_595 xw_596 xw_30 xw_43 xw_597) rfl rfl rfl (by decide +kernel) ⟨Nat.le_of_ble_eq_true rfl, Nat.le_of_ble_eq_true rfl⟩) (xPV hKK (va_recv hK hP (ci := 6) (q0 := 0) rfl yg0)) rfl rfl hl.1 rfl (lv_room (Nat.le_of_ble_eq_true rfl)) d_MaskEdgesModel_errorAt_40 ⟨Nat.zero_le _, Nat.zero_le _⟩) ?_
    refine W.eq (g2 := F0 m 43 ls [.int c40]) rfl ?_
    refine lv_istore (lv' := [(4, .int c40), (3, .int s0), (0, .ref (ad 0)), (1, .int v1), (2, .int v2)]) hx hb d_MaskEdgesModel_errorAt_43 hl (by decide) rfl (fun ls hl => ?_)
    refine lv_iconst (v := (0 : Int32)) hx hb d_MaskEdgesModel_errorAt_45 (by decide) ?_
    refine lv_istore (lv' := [(5, .int (0 : Int32)), (4, .int c40), (3, .int s0), (0, .ref (ad 0)), (1, .int v1), (2, .int v2)]) hx hb d_MaskEdgesModel_errorAt_46 hl (by decide) rfl (fun ls hl => ?_)
    refine lv_iconst (v := (1 : Int32)) hx hb d_MaskEdgesModel_errorAt_48 (by decide) ?_
    refine lv_istore (lv' := [(6, .int (1 : Int32)), (5, .int (0 : Int32)), (4, .int c40), (3, .int s0), (0, .ref (ad 0)), (1, .int v1), (2, .int v2)]) hx hb d_MaskEdgesModel_errorAt_49 hl (by decide) rfl (fun ls hl => ?_)
    exact (hL51 _ hL177 100000) v1 v2 c40 (0 : Int32) (1 : Int32)  ls (lv_sub hl [4, 5, 6, 2, 1, 0] rfl) hf
  unfold f_MaskEdgesModel_errorAt at hf
  refine lv_aload_n hx hb d_MaskEdgesModel_errorAt_0 rfl (lv_at hl 0 rfl) ?_
  refine va_get (D := X.1) (ci := 6) (v := .ref (ad 13)) (C := "MaskEdgesModel") (T := F_MaskEdgesModel) (N := 28) hx hb ht in_MaskEdgesModel hown hK hP 0 yg0 rfl 16 (by decide) (ht _ xw_463) (fun _ h9 => h9) rfl d_MaskEdgesModel_errorAt_1 ?_
  refine lv_iload_n hx hb d_MaskEdgesModel_errorAt_4 rfl (lv_at hl 1 rfl) ?_
  obtain ⟨g5, hf⟩ := x_g hf
  refine va_iald hx hb hK hP 13 0 yg13 rfl (xin_in g5) d_MaskEdgesModel_errorAt_5 ?_
  refine lv_if_ne (tgt := 11) hx hb d_MaskEdgesModel_errorAt_6 (by decide) (fun hc => ?_) (fun hc => ?_)
  · replace hf := x_f hc hf
    refine lv_aload_n hx hb d_MaskEdgesModel_errorAt_11 rfl (lv_at hl 0 rfl) ?_
    refine va_get (D := X.1) (ci := 6) (v := .ref (ad 13)) (C := "MaskEdgesModel") (T := F_MaskEdgesModel) (N := 28) hx hb ht in_MaskEdgesModel hown hK hP 0 yg0 rfl 16 (by decide) (ht _ xw_463) (fun _ h9 => h9) rfl d_MaskEdgesModel_errorAt_12 ?_
    refine lv_iload_n hx hb d_MaskEdgesModel_errorAt_15 rfl (lv_at hl 1 rfl) ?_
    obtain ⟨g16, hf⟩ := x_g hf
    refine va_iald hx hb hK hP 13 0 yg13 rfl (xin_in g16) d_MaskEdgesModel_errorAt_16 ?_
    refine lv_if_le (tgt := 24) hx hb d_MaskEdgesModel_errorAt_17 (by decide) (fun hc => ?_) (fun hc => ?_)
    · replace hf := x_t hc hf
      refine lv_iconst (v := (0 : Int32)) hx hb d_MaskEdgesModel_errorAt_24 (by decide) ?_
      exact hL25 v1 v2 (0 : Int32)  ls (lv_sub hl [0, 1, 2] rfl) hf
    · replace hf := x_f hc hf
      refine lv_iconst (v := (-1 : Int32)) hx hb d_MaskEdgesModel_errorAt_20 (by decide) ?_
      refine lv_goto (tgt := 25) hx hb d_MaskEdgesModel_errorAt_21 (by decide) ?_
      exact hL25 v1 v2 (-1 : Int32)  ls (lv_sub hl [0, 1, 2] rfl) hf
  · replace hf := x_t hc hf
    refine lv_iconst (v := (0 : Int32)) hx hb d_MaskEdgesModel_errorAt_9 (by decide) ?_
    replace hf := x_s hf
    subst hf
    subst hQ
    exact W.iret (v := (0 : Int32)) hx hb hr (fun t ht hW => ⟨⟨rfl, ht⟩, x_F0 ht⟩) x_l0 d_MaskEdgesModel_errorAt_10
def f_MaskEdgesModel_worstNow_41 (ST : ySt) (r4 : Int32 → Int32 → Option (Int32)) (v2 : Int32) (s0 : Int32) : Option (Int32) :=
  r4 s0 (v2 + (1 : Int32))
def f_MaskEdgesModel_worstNow_30 (ST : ySt) (r4 : Int32 → Int32 → Option (Int32)) (v1 : Int32) (v2 : Int32) (s0 : Int32) : Option (Int32) :=
  if s0 ≤ v1 then
  (f_MaskEdgesModel_worstNow_41 ST r4) v2 v1
else
  (f_MaskEdgesModel_worstNow_41 ST r4) v2 s0
def f_MaskEdgesModel_worstNow_4 (ST : ySt) (r4 : Int32 → Int32 → Option (Int32)) (v1 : Int32) (v2 : Int32) : Option (Int32) :=
  if (Y_pieces ST) ≤ v2 then
  some v1
else
  (f_MaskEdgesModel_errorAt ST v2 (100 : Int32)).bind fun c16 =>
    if 0 ≤ c16 then
    (f_MaskEdgesModel_worstNow_30 ST r4) v1 v2 c16
  else
    (f_MaskEdgesModel_worstNow_30 ST r4) v1 v2 (-c16)
def f_MaskEdgesModel_worstNow (ST : ySt) : Option (Int32) :=
  (xloop (fun r => f_MaskEdgesModel_worstNow_4 ST r) (fun _ _ => none) 100000) (0 : Int32) (0 : Int32)
set_option maxHeartbeats 4000000 in
set_option maxRecDepth 100000 in
theorem c_MaskEdgesModel_worstNow (l : Launch) (X : xG) {H : Heap} (ad : Nat → Nat) (ST : ySt) {res : Int32} (hP : va_P X.1 vwCl (wY X ad ST) H) (hf : f_MaskEdgesModel_worstNow ST = some res) : xM l y_MaskEdgesModel_worstNow (Cond.code y_MaskEdgesModel_worstNow prog_8_method_27_code 4 (some .int) :: xT) ({ frames := 5, cells := 0, slots := 0, locals := 123 } : Room) (xK X) [.ref (ad 0)] H xNo (some (.int res)) (fun H1 => H1 = H) := by
  refine Met.ofW (cc := prog_8_method_27_code) (maxL := 4) (ret := (some .int)) (by decide) rfl ?_
  intro p e s m args below meth c s₁ B hml hv
  obtain ⟨ha, hH, hKK⟩ := hv
  subst hH
  have hx := B.exec
  have hb := B.bytes
  have hr := B.returns
  have ht : ∀ w ∈ xT, w.before args s = true := fun w h => atoms_spec (ws := (Cond.code y_MaskEdgesModel_worstNow prog_8_method_27_code 4 (some .int) :: xT)) B.pre w (List.mem_cons_of_mem _ h)
  have hown : s.vm.findClass "MaskEdgesModel" = some m.cls := findClass_of_methodNamed B.named
  have hlocks := B.notSynchronized
  have hK := hKK.1
  rw [show entryFrame m args 4 = entryFrame m ([.ref (ad 0)] : List Value).toArray 4 from by rw [ha]]
  clear ha
  have hl := lv_entry ([.ref (ad 0)]) (n := 4) (Nat.le_of_ble_eq_true rfl)
  rw [lg_entry_eq]
  generalize (lg_sl ([.ref (ad 0)]) ++ List.replicate (4 - (lg_sl ([.ref (ad 0)])).length) Slot.unset).toArray = ls at hl ⊢
  replace hl : lv_has ls 4 [(0, .ref (ad 0))] := hl
  refine x_Q (fun Q hQ => ?_)
  have hL41 : ∀ (r4 : Int32 → Int32 → Option (Int32)) (hr4 : ∀ (v1 : Int32) (v2 : Int32), ∀ (ls : Array Slot), lv_has ls 4 [(0, .ref (ad 0)), (1, .int v1), (2, .int v2)] → r4 v1 v2 = some res → W p l e (headSpec (Cond.code y_MaskEdgesModel_worstNow prog_8_method_27_code 4 (some .int) :: xT) ({ frames := 5, cells := 0, slots := 0, locals := 123 } : Room)).room s m args below meth c s.heap [] 0 0 Q (F0 m 4 ls [])), ∀ (v2 : Int32) (s0 : Int32), ∀ (ls : Array Slot), lv_has ls 4 [(0, .ref (ad 0)), (2, .int v2)] → f_MaskEdgesModel_worstNow_41 ST r4 v2 s0 = some res → W p l e (headSpec (Cond.code y_MaskEdgesModel_worstNow prog_8_method_27_code 4 (some .int) :: xT) ({ frames := 5, cells := 0, slots := 0, locals := 123 } : Room)).room s m args below meth c s.heap [] 0 0 Q (F0 m 41 ls [.int s0]) := by
    intro r4 hr4 v2 s0 ls hl hf
    unfold f_MaskEdgesModel_worstNow_41 at hf
    refine lv_istore_n (lv' := [(1, .int s0), (0, .ref (ad 0)), (2, .int v2)]) hx hb d_MaskEdgesModel_worstNow_41 rfl hl (by decide) rfl (fun ls hl => ?_)
    refine lv_iinc (v := (v2 + (1 : Int32))) (lv' := [(2, .int (v2 + (1 : Int32))), (1, .int s0), (0, .ref (ad 0))]) hx hb d_MaskEdgesModel_worstNow_42 hl (k := 2) rfl rfl (by decide) rfl (fun ls hl => ?_)
    refine lv_goto (tgt := 4) hx hb d_MaskEdgesModel_worstNow_45 (by decide) ?_
    exact hr4 s0 (v2 + (1 : Int32))  ls (lv_sub hl [2, 1, 0] rfl) hf
  have hL30 : ∀ (r4 : Int32 → Int32 → Option (Int32)) (hr4 : ∀ (v1 : Int32) (v2 : Int32), ∀ (ls : Array Slot), lv_has ls 4 [(0, .ref (ad 0)), (1, .int v1), (2, .int v2)] → r4 v1 v2 = some res → W p l e (headSpec (Cond.code y_MaskEdgesModel_worstNow prog_8_method_27_code 4 (some .int) :: xT) ({ frames := 5, cells := 0, slots := 0, locals := 123 } : Room)).room s m args below meth c s.heap [] 0 0 Q (F0 m 4 ls [])), ∀ (v1 : Int32) (v2 : Int32) (s0 : Int32), ∀ (ls : Array Slot), lv_has ls 4 [(0, .ref (ad 0)), (1, .int v1), (2, .int v2)] → f_MaskEdgesModel_worstNow_30 ST r4 v1 v2 s0 = some res → W p l e (headSpec (Cond.code y_MaskEdgesModel_worstNow prog_8_method_27_code 4 (some .int) :: xT) ({ frames := 5, cells := 0, slots := 0, locals := 123 } : Room)).room s m args below meth c s.heap [] 0 0 Q (F0 m 30 ls [.int s0]) := by
    intro r4 hr4 v1 v2 s0 ls hl hf
    unfold f_MaskEdgesModel_worstNow_30 at hf
    refine lv_istore_n (lv' := [(3, .int s0), (0, .ref (ad 0)), (1, .int v1), (2, .int v2)]) hx hb d_MaskEdgesModel_worstNow_30 rfl hl (by decide) rfl (fun ls hl => ?_)
    refine lv_iload_n hx hb d_MaskEdgesModel_worstNow_31 rfl (lv_at hl 0 rfl) ?_
    refine lv_iload_n hx hb d_MaskEdgesModel_worstNow_32 rfl (lv_at hl 2 rfl) ?_
    refine lv_icmp_le (tgt := 40) hx hb d_MaskEdgesModel_worstNow_33 (by decide) (fun hc => ?_) (fun hc => ?_)
    · replace hf := x_t hc hf
      refine lv_iload_n hx hb d_MaskEdgesModel_worstNow_40 rfl (lv_at hl 2 rfl) ?_
      exact (hL41 _ hr4) v2 v1  ls (lv_sub hl [1, 3] rfl) hf
    · replace hf := x_f hc hf
      refine lv_iload_n hx hb d_MaskEdgesModel_worstNow_36 rfl (lv_at hl 0 rfl) ?_
      refine lv_goto (tgt := 41) hx hb d_MaskEdgesModel_worstNow_37 (by decide) ?_
      exact (hL41 _ hr4) v2 s0  ls (lv_sub hl [1, 3] rfl) hf
  have hL4 : ∀ (n : Nat), ∀ (v1 : Int32) (v2 : Int32), ∀ (ls : Array Slot), lv_has ls 4 [(0, .ref (ad 0)), (1, .int v1), (2, .int v2)] → (xloop (fun r => f_MaskEdgesModel_worstNow_4 ST r) (fun _ _ => none) n) v1 v2 = some res → W p l e (headSpec (Cond.code y_MaskEdgesModel_worstNow prog_8_method_27_code 4 (some .int) :: xT) ({ frames := 5, cells := 0, slots := 0, locals := 123 } : Room)).room s m args below meth c s.heap [] 0 0 Q (F0 m 4 ls []) := by
    intro n
    induction n with
    | zero => intro v1 v2 ls hl hf; cases hf
    | succ n ih =>
      intro v1 v2 ls hl hf
      replace hf : f_MaskEdgesModel_worstNow_4 ST (xloop (fun r => f_MaskEdgesModel_worstNow_4 ST r) (fun _ _ => none) n) v1 v2 = some res := hf
      have hr4 := ih
      clear ih
      unfold f_MaskEdgesModel_worstNow_4 at hf
      refine lv_iload_n hx hb d_MaskEdgesModel_worstNow_4 rfl (lv_at hl 2 rfl) ?_
      refine lv_aload_n hx hb d_MaskEdgesModel_worstNow_5 rfl (lv_at hl 0 rfl) ?_
      refine va_get (D := X.1) (ci := 6) (v := .int (Y_pieces ST)) (C := "MaskEdgesModel") (T := F_MaskEdgesModel) (N := 28) hx hb ht in_MaskEdgesModel hown hK hP 0 yg0 rfl 9 (by decide) (ht _ xw_456) (fun _ h9 => h9) rfl d_MaskEdgesModel_worstNow_6 ?_
      refine lv_icmp_ge (tgt := 48) hx hb d_MaskEdgesModel_worstNow_9 (by decide) (fun hc => ?_) (fun hc => ?_)
      · replace hf := x_t hc hf
        refine lv_iload_n hx hb d_MaskEdgesModel_worstNow_48 rfl (lv_at hl 1 rfl) ?_
        replace hf := x_s hf
        subst hf
        subst hQ
        exact W.iret (v := v1) hx hb hr (fun t ht hW => ⟨⟨rfl, ht⟩, x_F0 ht⟩) x_l0 d_MaskEdgesModel_worstNow_49
      · replace hf := x_f hc hf
        refine lv_aload_n hx hb d_MaskEdgesModel_worstNow_12 rfl (lv_at hl 0 rfl) ?_
        refine lv_iload_n hx hb d_MaskEdgesModel_worstNow_13 rfl (lv_at hl 2 rfl) ?_
        refine lv_bipush (v := (100 : Int32)) hx hb d_MaskEdgesModel_worstNow_14 (by decide) ?_
        obtain ⟨c16, e16, hf⟩ := x_b hf
        refine xcR (va_runV (As := [.int v2, .int (100 : Int32)]) (rest := []) ⟨hx, hb, hml, hown, ht⟩ (c_MaskEdgesModel_errorAt l X ad ST v2 (100 : Int32) hP e16) (cwV 2 ht (xgV xw_592 xw_593 xw_29 xw_43 xw_594) rfl rfl rfl (by decide +kernel) ⟨Nat.le_of_ble_eq_true rfl, Nat.le_of_ble_eq_true rfl⟩) (xPV hKK (va_recv hK hP (ci := 6) (q0 := 0) rfl yg0)) rfl rfl hl.1 rfl (lv_room (Nat.le_of_ble_eq_true rfl)) d_MaskEdgesModel_worstNow_16 ⟨Nat.zero_le _, Nat.zero_le _⟩) ?_
        refine W.eq (g2 := F0 m 19 ls [.int c16]) rfl ?_
        refine lv_istore_n (lv' := [(3, .int c16), (0, .ref (ad 0)), (1, .int v1), (2, .int v2)]) hx hb d_MaskEdgesModel_worstNow_19 rfl hl (by decide) rfl (fun ls hl => ?_)
        refine lv_iload_n hx hb d_MaskEdgesModel_worstNow_20 rfl (lv_at hl 0 rfl) ?_
        refine lv_if_ge (tgt := 29) hx hb d_MaskEdgesModel_worstNow_21 (by decide) (fun hc => ?_) (fun hc => ?_)
        · replace hf := x_t hc hf
          refine lv_iload_n hx hb d_MaskEdgesModel_worstNow_29 rfl (lv_at hl 0 rfl) ?_
          exact (hL30 _ hr4) v1 v2 c16  ls (lv_sub hl [1, 2, 3] rfl) hf
        · replace hf := x_f hc hf
          refine lv_iload_n hx hb d_MaskEdgesModel_worstNow_24 rfl (lv_at hl 0 rfl) ?_
          refine lv_ineg hx hb d_MaskEdgesModel_worstNow_25 ?_
          refine lv_goto (tgt := 30) hx hb d_MaskEdgesModel_worstNow_26 (by decide) ?_
          exact (hL30 _ hr4) v1 v2 (-c16)  ls (lv_sub hl [1, 2, 3] rfl) hf
  unfold f_MaskEdgesModel_worstNow at hf
  refine lv_iconst (v := (0 : Int32)) hx hb d_MaskEdgesModel_worstNow_0 (by decide) ?_
  refine lv_istore_n (lv' := [(1, .int (0 : Int32)), (0, .ref (ad 0))]) hx hb d_MaskEdgesModel_worstNow_1 rfl hl (by decide) rfl (fun ls hl => ?_)
  refine lv_iconst (v := (0 : Int32)) hx hb d_MaskEdgesModel_worstNow_2 (by decide) ?_
  refine lv_istore_n (lv' := [(2, .int (0 : Int32)), (1, .int (0 : Int32)), (0, .ref (ad 0))]) hx hb d_MaskEdgesModel_worstNow_3 rfl hl (by decide) rfl (fun ls hl => ?_)
  exact (hL4 100000) (0 : Int32) (0 : Int32)  ls (lv_sub hl [2, 1, 0] rfl) hf
def f_MaskEdgesModel_edge (v1 : Int32) (v2 : Int32) (ST : ySt) : Option (Int32 × ySt) :=
  (f_MaskEdgesModel_isPiece ST v1).bind fun c2 =>
  if c2 = 0 then
  some ((0 : Int32), ST)
else
  (f_MaskEdgesModel_isBetween v2.toInt64 (1 : Int64) (1000 : Int64)).bind fun c14 =>
    if c14 = 0 then
    some ((0 : Int32), ST)
  else
    (f_MaskEdgesModel_make ST).bind fun c23 =>
      (f_MaskEdgesModel_errorAt c23 v1 v2).bind fun c29 =>
      some (c29, c23)
set_option maxHeartbeats 4000000 in
set_option maxRecDepth 100000 in
theorem c_MaskEdgesModel_edge (l : Launch) (X : xG) {H : Heap} (ad : Nat → Nat) (ST : ySt) (v1 : Int32) (v2 : Int32) {res : Int32 × ySt} (hP : va_P X.1 vwCl (wY X ad ST) H) (hA : okB ad) (hf : f_MaskEdgesModel_edge v1 v2 ST = some res) : xM l y_MaskEdgesModel_edge (Cond.code y_MaskEdgesModel_edge prog_8_method_29_code 3 (some .int) :: xT) ({ frames := 5, cells := 0, slots := 0, locals := 123 } : Room) (xK X) [.ref (ad 0), .int v1, .int v2] H (yA ad) (some (.int res.1)) (fun H1 => va_P X.1 vwCl (wY X ad res.2) H1) := by
  refine Met.ofW (cc := prog_8_method_29_code) (maxL := 3) (ret := (some .int)) (by decide) rfl ?_
  intro p e s m args below meth c s₁ B hml hv
  obtain ⟨ha, hH, hKK⟩ := hv
  subst hH
  have hx := B.exec
  have hb := B.bytes
  have hr := B.returns
  have ht : ∀ w ∈ xT, w.before args s = true := fun w h => atoms_spec (ws := (Cond.code y_MaskEdgesModel_edge prog_8_method_29_code 3 (some .int) :: xT)) B.pre w (List.mem_cons_of_mem _ h)
  have hown : s.vm.findClass "MaskEdgesModel" = some m.cls := findClass_of_methodNamed B.named
  have hlocks := B.notSynchronized
  have hK := hKK.1
  rw [show entryFrame m args 3 = entryFrame m ([.ref (ad 0), .int v1, .int v2] : List Value).toArray 3 from by rw [ha]]
  clear ha
  have hS : va_S (yA ad) s.heap s.heap [] := va_S.rf
  have hl := lv_entry ([.ref (ad 0), .int v1, .int v2]) (n := 3) (Nat.le_of_ble_eq_true rfl)
  rw [lg_entry_eq]
  generalize (lg_sl ([.ref (ad 0), .int v1, .int v2]) ++ List.replicate (3 - (lg_sl ([.ref (ad 0), .int v1, .int v2])).length) Slot.unset).toArray = ls at hl ⊢
  replace hl : lv_has ls 3 [(0, .ref (ad 0)), (1, .int v1), (2, .int v2)] := hl
  refine x_Q (fun Q hQ => ?_)
  unfold f_MaskEdgesModel_edge at hf
  refine lv_aload_n hx hb d_MaskEdgesModel_edge_0 rfl (lv_at hl 0 rfl) ?_
  refine lv_iload_n hx hb d_MaskEdgesModel_edge_1 rfl (lv_at hl 1 rfl) ?_
  obtain ⟨c2, e2, hf⟩ := x_b hf
  refine xcR (va_runV (As := [.int v1]) (rest := []) ⟨hx, hb, hml, hown, ht⟩ (c_MaskEdgesModel_isPiece l X ad ST v1 hP e2) (cwV 1 ht (xgV xw_588 xw_589 xw_28 xw_43 xw_590) rfl rfl rfl (by decide +kernel) ⟨Nat.le_of_ble_eq_true rfl, Nat.le_of_ble_eq_true rfl⟩) (xPV hKK (va_recv hK hP (ci := 6) (q0 := 0) rfl yg0)) rfl rfl hl.1 rfl (lv_room (Nat.le_of_ble_eq_true rfl)) d_MaskEdgesModel_edge_2 ⟨Nat.zero_le _, Nat.zero_le _⟩) ?_
  refine W.eq (g2 := F0 m 5 ls [.int c2]) rfl ?_
  refine lv_if_eq (tgt := 20) hx hb d_MaskEdgesModel_edge_5 (by decide) (fun hc => ?_) (fun hc => ?_)
  · replace hf := x_t hc hf
    refine lv_iconst (v := (0 : Int32)) hx hb d_MaskEdgesModel_edge_20 (by decide) ?_
    replace hf := x_s hf
    subst hf
    subst hQ
    exact W.iret (v := (0 : Int32)) hx hb hr (fun t ht hW => ⟨⟨rfl, by rw [ht]; exact hP⟩, hS.F ht⟩) hS.2.2 d_MaskEdgesModel_edge_21
  · replace hf := x_f hc hf
    refine lv_iload_n hx hb d_MaskEdgesModel_edge_8 rfl (lv_at hl 2 rfl) ?_
    refine lv_i2l hx hb d_MaskEdgesModel_edge_9 rfl ?_
    refine lv_lconst (v := (1 : Int64)) hx hb d_MaskEdgesModel_edge_10 (by decide) ?_
    refine lv_ldc2 (v := (1000 : Int64)) hx hb hown (ht _ xw_591) d_MaskEdgesModel_edge_11 ?_
    obtain ⟨c14, e14, hf⟩ := x_b hf
    refine xcR (va_runS (As := [.long v2.toInt64, .long (1 : Int64), .long (1000 : Int64)]) (rest := []) ⟨hx, hb, hml, hown, ht⟩ (c_MaskEdgesModel_isBetween l X v2.toInt64 (1 : Int64) (1000 : Int64) e14) (cwS 3 ht (xgS xw_512 xw_513 xw_43 xw_514) rfl rfl rfl (by decide +kernel) ⟨Nat.le_of_ble_eq_true rfl, Nat.le_of_ble_eq_true rfl⟩) (xPS hKK) rfl rfl hl.1 rfl (lv_room (Nat.le_of_ble_eq_true rfl)) d_MaskEdgesModel_edge_14 ⟨Nat.zero_le _, Nat.zero_le _⟩) ?_
    refine W.eq (g2 := F0 m 17 ls [.int c14]) rfl ?_
    refine lv_if_ne (tgt := 22) hx hb d_MaskEdgesModel_edge_17 (by decide) (fun hc => ?_) (fun hc => ?_)
    · replace hf := x_f hc hf
      refine lv_aload_n hx hb d_MaskEdgesModel_edge_22 rfl (lv_at hl 0 rfl) ?_
      obtain ⟨c23, e23, hf⟩ := x_b hf
      refine xc (va_runV (As := []) (rest := []) ⟨hx, hb, hml, hown, ht⟩ (c_MaskEdgesModel_make l X ad ST hP hA e23) (cwV 0 ht (xgV xw_559 xw_560 xw_22 xw_43 xw_561) rfl rfl rfl (by decide +kernel) ⟨Nat.le_of_ble_eq_true rfl, Nat.le_of_ble_eq_true rfl⟩) (xPV hKK (va_recv hK hP (ci := 6) (q0 := 0) rfl yg0)) rfl rfl hl.1 rfl (lv_room (Nat.le_of_ble_eq_true rfl)) d_MaskEdgesModel_edge_23 ⟨Nat.zero_le _, Nat.zero_le _⟩) (fun H1 L hq hz => ?_)
      replace hS := xS_call hS hz (fun _ h => h)
      replace hP : va_P X.1 vwCl (wY X ad c23) H1 := hq
      clear hq hz
      refine W.eq (g2 := F0 m 26 ls []) rfl ?_
      refine lv_aload_n hx hb d_MaskEdgesModel_edge_26 rfl (lv_at hl 0 rfl) ?_
      refine lv_iload_n hx hb d_MaskEdgesModel_edge_27 rfl (lv_at hl 1 rfl) ?_
      refine lv_iload_n hx hb d_MaskEdgesModel_edge_28 rfl (lv_at hl 2 rfl) ?_
      obtain ⟨c29, e29, hf⟩ := x_b hf
      refine xcR (va_runV (As := [.int v1, .int v2]) (rest := []) ⟨hx, hb, hml, hown, ht⟩ (c_MaskEdgesModel_errorAt l X ad c23 v1 v2 hP e29) (cwV 2 ht (xgV xw_592 xw_593 xw_29 xw_43 xw_594) rfl rfl rfl (by decide +kernel) ⟨Nat.le_of_ble_eq_true rfl, Nat.le_of_ble_eq_true rfl⟩) (xPV hKK (va_recv hK hP (ci := 6) (q0 := 0) rfl yg0)) rfl rfl hl.1 rfl (lv_room (Nat.le_of_ble_eq_true rfl)) d_MaskEdgesModel_edge_29 ⟨Nat.zero_le _, Nat.zero_le _⟩) ?_
      refine W.eq (g2 := F0 m 32 ls [.int c29]) rfl ?_
      replace hf := x_s hf
      subst hf
      subst hQ
      exact W.iret (v := c29) hx hb hr (fun t ht hW => ⟨⟨rfl, by rw [ht]; exact hP⟩, hS.F ht⟩) hS.2.2 d_MaskEdgesModel_edge_32
    · replace hf := x_t hc hf
      refine lv_iconst (v := (0 : Int32)) hx hb d_MaskEdgesModel_edge_20 (by decide) ?_
      replace hf := x_s hf
      subst hf
      subst hQ
      exact W.iret (v := (0 : Int32)) hx hb hr (fun t ht hW => ⟨⟨rfl, by rw [ht]; exact hP⟩, hS.F ht⟩) hS.2.2 d_MaskEdgesModel_edge_21
def f_MaskEdgesModel_error (v1 : Int32) (ST : ySt) : Option (Int32 × ySt) :=
  (f_MaskEdgesModel_edge v1 (100 : Int32) ST).bind fun c4 =>
  some (c4.1, c4.2)
set_option maxHeartbeats 4000000 in
set_option maxRecDepth 100000 in
theorem c_MaskEdgesModel_error (l : Launch) (X : xG) {H : Heap} (ad : Nat → Nat) (ST : ySt) (v1 : Int32) {res : Int32 × ySt} (hP : va_P X.1 vwCl (wY X ad ST) H) (hA : okB ad) (hf : f_MaskEdgesModel_error v1 ST = some res) : xM l y_MaskEdgesModel_error (Cond.code y_MaskEdgesModel_error prog_8_method_28_code 2 (some .int) :: xT) ({ frames := 6, cells := 0, slots := 0, locals := 145 } : Room) (xK X) [.ref (ad 0), .int v1] H (yA ad) (some (.int res.1)) (fun H1 => va_P X.1 vwCl (wY X ad res.2) H1) := by
  refine Met.ofW (cc := prog_8_method_28_code) (maxL := 2) (ret := (some .int)) (by decide) rfl ?_
  intro p e s m args below meth c s₁ B hml hv
  obtain ⟨ha, hH, hKK⟩ := hv
  subst hH
  have hx := B.exec
  have hb := B.bytes
  have hr := B.returns
  have ht : ∀ w ∈ xT, w.before args s = true := fun w h => atoms_spec (ws := (Cond.code y_MaskEdgesModel_error prog_8_method_28_code 2 (some .int) :: xT)) B.pre w (List.mem_cons_of_mem _ h)
  have hown : s.vm.findClass "MaskEdgesModel" = some m.cls := findClass_of_methodNamed B.named
  have hlocks := B.notSynchronized
  have hK := hKK.1
  rw [show entryFrame m args 2 = entryFrame m ([.ref (ad 0), .int v1] : List Value).toArray 2 from by rw [ha]]
  clear ha
  have hS : va_S (yA ad) s.heap s.heap [] := va_S.rf
  have hl := lv_entry ([.ref (ad 0), .int v1]) (n := 2) (Nat.le_of_ble_eq_true rfl)
  rw [lg_entry_eq]
  generalize (lg_sl ([.ref (ad 0), .int v1]) ++ List.replicate (2 - (lg_sl ([.ref (ad 0), .int v1])).length) Slot.unset).toArray = ls at hl ⊢
  replace hl : lv_has ls 2 [(0, .ref (ad 0)), (1, .int v1)] := hl
  refine x_Q (fun Q hQ => ?_)
  unfold f_MaskEdgesModel_error at hf
  refine lv_aload_n hx hb d_MaskEdgesModel_error_0 rfl (lv_at hl 0 rfl) ?_
  refine lv_iload_n hx hb d_MaskEdgesModel_error_1 rfl (lv_at hl 1 rfl) ?_
  refine lv_bipush (v := (100 : Int32)) hx hb d_MaskEdgesModel_error_2 (by decide) ?_
  obtain ⟨c4, e4, hf⟩ := x_b hf
  refine xc (va_runV (As := [.int v1, .int (100 : Int32)]) (rest := []) ⟨hx, hb, hml, hown, ht⟩ (c_MaskEdgesModel_edge l X ad ST v1 (100 : Int32) hP hA e4) (cwV 2 ht (xgV xw_584 xw_585 xw_586 xw_43 xw_587) rfl rfl rfl (by decide +kernel) ⟨Nat.le_of_ble_eq_true rfl, Nat.le_of_ble_eq_true rfl⟩) (xPV hKK (va_recv hK hP (ci := 6) (q0 := 0) rfl yg0)) rfl rfl hl.1 rfl (lv_room (Nat.le_of_ble_eq_true rfl)) d_MaskEdgesModel_error_4 ⟨Nat.zero_le _, Nat.zero_le _⟩) (fun H1 L hq hz => ?_)
  replace hS := xS_call hS hz (fun _ h => h)
  replace hP : va_P X.1 vwCl (wY X ad c4.2) H1 := hq
  clear hq hz
  refine W.eq (g2 := F0 m 7 ls [.int c4.1]) rfl ?_
  replace hf := x_s hf
  subst hf
  subst hQ
  exact W.iret (v := c4.1) hx hb hr (fun t ht hW => ⟨⟨rfl, by rw [ht]; exact hP⟩, hS.F ht⟩) hS.2.2 d_MaskEdgesModel_error_7
def f_MaskEdgesModel_clamp (v0 : Int32) (v1 : Int32) : Option (Int32) :=
  if v0 ≤ v1 then
  if (-v1) ≤ v0 then
    some v0
  else
    some (-v1)
else
  some v1
set_option maxHeartbeats 4000000 in
set_option maxRecDepth 100000 in
theorem c_MaskEdgesModel_clamp (l : Launch) (X : xG) {H : Heap} (v0 : Int32) (v1 : Int32) {res : Int32} (hf : f_MaskEdgesModel_clamp v0 v1 = some res) : xM l y_MaskEdgesModel_clamp (Cond.code y_MaskEdgesModel_clamp prog_8_method_30_code 2 (some .int) :: xT) ({ frames := 0, cells := 0, slots := 0, locals := 0 } : Room) (xK X) [.int v0, .int v1] H xNo (some (.int res)) (fun H1 => H1 = H) := by
  refine Met.ofW (cc := prog_8_method_30_code) (maxL := 2) (ret := (some .int)) (by decide) rfl ?_
  intro p e s m args below meth c s₁ B hml hv
  obtain ⟨ha, hH, hKK⟩ := hv
  subst hH
  have hx := B.exec
  have hb := B.bytes
  have hr := B.returns
  have ht : ∀ w ∈ xT, w.before args s = true := fun w h => atoms_spec (ws := (Cond.code y_MaskEdgesModel_clamp prog_8_method_30_code 2 (some .int) :: xT)) B.pre w (List.mem_cons_of_mem _ h)
  have hown : s.vm.findClass "MaskEdgesModel" = some m.cls := findClass_of_methodNamed B.named
  have hlocks := B.notSynchronized
  have hK := hKK.1
  rw [show entryFrame m args 2 = entryFrame m ([.int v0, .int v1] : List Value).toArray 2 from by rw [ha]]
  clear ha
  have hl := lv_entry ([.int v0, .int v1]) (n := 2) (Nat.le_of_ble_eq_true rfl)
  rw [lg_entry_eq]
  generalize (lg_sl ([.int v0, .int v1]) ++ List.replicate (2 - (lg_sl ([.int v0, .int v1])).length) Slot.unset).toArray = ls at hl ⊢
  replace hl : lv_has ls 2 [(0, .int v0), (1, .int v1)] := hl
  refine x_Q (fun Q hQ => ?_)
  unfold f_MaskEdgesModel_clamp at hf
  refine lv_iload_n hx hb d_MaskEdgesModel_clamp_0 rfl (lv_at hl 0 rfl) ?_
  refine lv_iload_n hx hb d_MaskEdgesModel_clamp_1 rfl (lv_at hl 1 rfl) ?_
  refine lv_icmp_le (tgt := 9) hx hb d_MaskEdgesModel_clamp_2 (by decide) (fun hc => ?_) (fun hc => ?_)
  · replace hf := x_t hc hf
    refine lv_iload_n hx hb d_MaskEdgesModel_clamp_9 rfl (lv_at hl 0 rfl) ?_
    refine lv_iload_n hx hb d_MaskEdgesModel_clamp_10 rfl (lv_at hl 1 rfl) ?_
    refine lv_ineg hx hb d_MaskEdgesModel_clamp_11 ?_
    refine lv_icmp_ge (tgt := 20) hx hb d_MaskEdgesModel_clamp_12 (by decide) (fun hc => ?_) (fun hc => ?_)
    · replace hf := x_t hc hf
      refine lv_iload_n hx hb d_MaskEdgesModel_clamp_20 rfl (lv_at hl 0 rfl) ?_
      replace hf := x_s hf
      subst hf
      subst hQ
      exact W.iret (v := v0) hx hb hr (fun t ht hW => ⟨⟨rfl, ht⟩, x_F0 ht⟩) x_l0 d_MaskEdgesModel_clamp_21
    · replace hf := x_f hc hf
      refine lv_iload_n hx hb d_MaskEdgesModel_clamp_15 rfl (lv_at hl 1 rfl) ?_
      refine lv_ineg hx hb d_MaskEdgesModel_clamp_16 ?_
      refine lv_goto (tgt := 21) hx hb d_MaskEdgesModel_clamp_17 (by decide) ?_
      replace hf := x_s hf
      subst hf
      subst hQ
      exact W.iret (v := (-v1)) hx hb hr (fun t ht hW => ⟨⟨rfl, ht⟩, x_F0 ht⟩) x_l0 d_MaskEdgesModel_clamp_21
  · replace hf := x_f hc hf
    refine lv_iload_n hx hb d_MaskEdgesModel_clamp_5 rfl (lv_at hl 1 rfl) ?_
    refine lv_goto (tgt := 21) hx hb d_MaskEdgesModel_clamp_6 (by decide) ?_
    replace hf := x_s hf
    subst hf
    subst hQ
    exact W.iret (v := v1) hx hb hr (fun t ht hW => ⟨⟨rfl, ht⟩, x_F0 ht⟩) x_l0 d_MaskEdgesModel_clamp_21
def f_MaskEdgesModel_moveAll_5 (r5 : Int32 → Int32 → Int32 → Int32 → ySt → Option (Int32 × ySt)) (k34 : Int32 → Int32 → Int32 → ySt → Option (Int32 × ySt)) (v1 : Int32) (v2 : Int32) (v3 : Int32) (v4 : Int32) (ST : ySt) : Option (Int32 × ySt) :=
  if (Y_pieces ST) ≤ v4 then
  k34 v1 v2 v3 ST
else
  if xin v4 120 = true then
    if xin v4 120 = true then
      r5 v1 v2 v3 (v4 + (1 : Int32)) (Y_u_before ST (upd (Y_before ST) v4.toNatClampNeg (Y_moves ST v4.toNatClampNeg)))
    else none
  else none
def f_MaskEdgesModel_moveAll_141 (r37 : Int32 → Int32 → Int32 → Int32 → ySt → Option (Int32 × ySt)) (v1 : Int32) (v2 : Int32) (v4 : Int32) (s0 : Int32) (ST : ySt) : Option (Int32 × ySt) :=
  r37 v1 v2 s0 (v4 + (1 : Int32)) ST
def f_MaskEdgesModel_moveAll_136 (r37 : Int32 → Int32 → Int32 → Int32 → ySt → Option (Int32 × ySt)) (v1 : Int32) (v2 : Int32) (v4 : Int32) (ST : ySt) : Option (Int32 × ySt) :=
  (f_MaskEdgesModel_moveAll_141 r37) v1 v2 v4 (1 : Int32) ST
def f_MaskEdgesModel_moveAll_114 (r37 : Int32 → Int32 → Int32 → Int32 → ySt → Option (Int32 × ySt)) (v1 : Int32) (v2 : Int32) (v3 : Int32) (v4 : Int32) (s0 : Int32) (s1 : Int32) (ST : ySt) : Option (Int32 × ySt) :=
  if xin s1 120 = true then
  if v3 = 0 then
    if xin v4 120 = true then
      if xin v4 120 = true then
        if (Y_moves (Y_u_moves ST (upd (Y_moves ST) s1.toNatClampNeg s0)) v4.toNatClampNeg) = (Y_before (Y_u_moves ST (upd (Y_moves ST) s1.toNatClampNeg s0)) v4.toNatClampNeg) then
          (f_MaskEdgesModel_moveAll_141 r37) v1 v2 v4 (0 : Int32) (Y_u_moves ST (upd (Y_moves ST) s1.toNatClampNeg s0))
        else
          (f_MaskEdgesModel_moveAll_136 r37) v1 v2 v4 (Y_u_moves ST (upd (Y_moves ST) s1.toNatClampNeg s0))
      else none
    else none
  else
    (f_MaskEdgesModel_moveAll_136 r37) v1 v2 v4 (Y_u_moves ST (upd (Y_moves ST) s1.toNatClampNeg s0))
else none
def f_MaskEdgesModel_moveAll_72 (r37 : Int32 → Int32 → Int32 → Int32 → ySt → Option (Int32 × ySt)) (v1 : Int32) (v2 : Int32) (v3 : Int32) (v4 : Int32) (s0 : Int32) (ST : ySt) : Option (Int32 × ySt) :=
  if xin v4 120 = true then
  if (Y_out ST v4.toNatClampNeg) = 0 then
    if xin v4 120 = true then
      (f_MaskEdgesModel_moveAll_114 r37) v1 v2 v3 v4 (Y_moves ST v4.toNatClampNeg) v4 ST
    else none
  else
    if xin v4 120 = true then
      (f_MaskEdgesModel_clamp ((Y_before ST v4.toNatClampNeg) - s0) v2).bind fun c111 =>
        (f_MaskEdgesModel_moveAll_114 r37) v1 v2 v3 v4 c111 v4 ST
    else none
else none
def f_MaskEdgesModel_moveAll_37 (r37 : Int32 → Int32 → Int32 → Int32 → ySt → Option (Int32 × ySt)) (v1 : Int32) (v2 : Int32) (v3 : Int32) (v4 : Int32) (ST : ySt) : Option (Int32 × ySt) :=
  if (Y_pieces ST) ≤ v4 then
  if xz v3 = true then
    some (v3, ST)
  else none
else
  if xin v4 120 = true then
    if (Y_out ST v4.toNatClampNeg) = 0 then
      (f_MaskEdgesModel_moveAll_72 r37) v1 v2 v3 v4 (0 : Int32) ST
    else
      (f_MaskEdgesModel_errorAt ST v4 (100 : Int32)).bind fun c65 =>
        (f_MaskEdgesModel_clamp c65 v1).bind fun c69 =>
        (f_MaskEdgesModel_moveAll_72 r37) v1 v2 v3 v4 c69 ST
  else none
def f_MaskEdgesModel_moveAll_34 (v1 : Int32) (v2 : Int32) (v3 : Int32) (ST : ySt) : Option (Int32 × ySt) :=
  (xloop (fun r => f_MaskEdgesModel_moveAll_37 r) (fun _ _ _ _ _ => none) 100000) v1 v2 v3 (0 : Int32) ST
def f_MaskEdgesModel_moveAll (v1 : Int32) (v2 : Int32) (ST : ySt) : Option (Int32 × ySt) :=
  (xloop (fun r => f_MaskEdgesModel_moveAll_5 r f_MaskEdgesModel_moveAll_34) (fun _ _ _ _ _ => none) 100000) v1 v2 (0 : Int32) (0 : Int32) ST
set_option maxHeartbeats 4000000 in
set_option maxRecDepth 100000 in
theorem c_MaskEdgesModel_moveAll (l : Launch) (X : xG) {H : Heap} (ad : Nat → Nat) (ST : ySt) (v1 : Int32) (v2 : Int32) {res : Int32 × ySt} (hP : va_P X.1 vwCl (wY X ad ST) H) (hA : okB ad) (hf : f_MaskEdgesModel_moveAll v1 v2 ST = some res) : xM l y_MaskEdgesModel_moveAll (Cond.code y_MaskEdgesModel_moveAll prog_8_method_31_code 6 (some .boolean) :: xT) ({ frames := 5, cells := 0, slots := 0, locals := 123 } : Room) (xK X) [.ref (ad 0), .int v1, .int v2] H (yA ad) (some (.int res.1)) (fun H1 => va_P X.1 vwCl (wY X ad res.2) H1) := by
  refine Met.ofW (cc := prog_8_method_31_code) (maxL := 6) (ret := (some .boolean)) (by decide) rfl ?_
  intro p e s m args below meth c s₁ B hml hv
  obtain ⟨ha, hH, hKK⟩ := hv
  subst hH
  have hx := B.exec
  have hb := B.bytes
  have hr := B.returns
  have ht : ∀ w ∈ xT, w.before args s = true := fun w h => atoms_spec (ws := (Cond.code y_MaskEdgesModel_moveAll prog_8_method_31_code 6 (some .boolean) :: xT)) B.pre w (List.mem_cons_of_mem _ h)
  have hown : s.vm.findClass "MaskEdgesModel" = some m.cls := findClass_of_methodNamed B.named
  have hlocks := B.notSynchronized
  have hK := hKK.1
  rw [show entryFrame m args 6 = entryFrame m ([.ref (ad 0), .int v1, .int v2] : List Value).toArray 6 from by rw [ha]]
  clear ha
  have hS : va_S (yA ad) s.heap s.heap [] := va_S.rf
  have hl := lv_entry ([.ref (ad 0), .int v1, .int v2]) (n := 6) (Nat.le_of_ble_eq_true rfl)
  rw [lg_entry_eq]
  generalize (lg_sl ([.ref (ad 0), .int v1, .int v2]) ++ List.replicate (6 - (lg_sl ([.ref (ad 0), .int v1, .int v2])).length) Slot.unset).toArray = ls at hl ⊢
  replace hl : lv_has ls 6 [(0, .ref (ad 0)), (1, .int v1), (2, .int v2)] := hl
  refine x_Q (fun Q hQ => ?_)
  have hL5 : ∀ (k34 : Int32 → Int32 → Int32 → ySt → Option (Int32 × ySt)) (hk34 : ∀ (v1 : Int32) (v2 : Int32) (v3 : Int32) (ST : ySt), ∀ (H : Heap) (locs : List Loc), va_P X.1 vwCl (wY X ad ST) H → va_S (yA ad) s.heap H locs → ∀ (ls : Array Slot), lv_has ls 6 [(0, .ref (ad 0)), (1, .int v1), (2, .int v2), (3, .int v3)] → k34 v1 v2 v3 ST = some res → W p l e (headSpec (Cond.code y_MaskEdgesModel_moveAll prog_8_method_31_code 6 (some .boolean) :: xT) ({ frames := 5, cells := 0, slots := 0, locals := 123 } : Room)).room s m args below meth c H locs 0 0 Q (F0 m 34 ls [])), ∀ (n : Nat), ∀ (v1 : Int32) (v2 : Int32) (v3 : Int32) (v4 : Int32) (ST : ySt), ∀ (H : Heap) (locs : List Loc), va_P X.1 vwCl (wY X ad ST) H → va_S (yA ad) s.heap H locs → ∀ (ls : Array Slot), lv_has ls 6 [(0, .ref (ad 0)), (1, .int v1), (2, .int v2), (3, .int v3), (4, .int v4)] → (xloop (fun r => f_MaskEdgesModel_moveAll_5 r k34) (fun _ _ _ _ _ => none) n) v1 v2 v3 v4 ST = some res → W p l e (headSpec (Cond.code y_MaskEdgesModel_moveAll prog_8_method_31_code 6 (some .boolean) :: xT) ({ frames := 5, cells := 0, slots := 0, locals := 123 } : Room)).room s m args below meth c H locs 0 0 Q (F0 m 5 ls []) := by
    intro k34 hk34
    intro n
    induction n with
    | zero => intro v1 v2 v3 v4 ST H locs hP hS ls hl hf; cases hf
    | succ n ih =>
      intro v1 v2 v3 v4 ST H locs hP hS ls hl hf
      replace hf : f_MaskEdgesModel_moveAll_5 (xloop (fun r => f_MaskEdgesModel_moveAll_5 r k34) (fun _ _ _ _ _ => none) n) k34 v1 v2 v3 v4 ST = some res := hf
      have hr5 := ih
      clear ih
      unfold f_MaskEdgesModel_moveAll_5 at hf
      refine lv_iload hx hb d_MaskEdgesModel_moveAll_5 (lv_at hl 4 rfl) ?_
      refine lv_aload_n hx hb d_MaskEdgesModel_moveAll_7 rfl (lv_at hl 0 rfl) ?_
      refine va_get (D := X.1) (ci := 6) (v := .int (Y_pieces ST)) (C := "MaskEdgesModel") (T := F_MaskEdgesModel) (N := 28) hx hb ht in_MaskEdgesModel hown hK hP 0 yg0 rfl 9 (by decide) (ht _ xw_456) (fun _ h9 => h9) rfl d_MaskEdgesModel_moveAll_8 ?_
      refine lv_icmp_ge (tgt := 34) hx hb d_MaskEdgesModel_moveAll_11 (by decide) (fun hc => ?_) (fun hc => ?_)
      · replace hf := x_t hc hf
        exact hk34 v1 v2 v3 ST _ _ hP hS ls (lv_sub hl [0, 1, 2, 3] rfl) hf
      · replace hf := x_f hc hf
        refine lv_aload_n hx hb d_MaskEdgesModel_moveAll_14 rfl (lv_at hl 0 rfl) ?_
        refine va_get (D := X.1) (ci := 6) (v := .ref (ad 15)) (C := "MaskEdgesModel") (T := F_MaskEdgesModel) (N := 28) hx hb ht in_MaskEdgesModel hown hK hP 0 yg0 rfl 18 (by decide) (ht _ xw_465) (fun _ h9 => h9) rfl d_MaskEdgesModel_moveAll_15 ?_
        refine lv_iload hx hb d_MaskEdgesModel_moveAll_18 (lv_at hl 4 rfl) ?_
        refine lv_aload_n hx hb d_MaskEdgesModel_moveAll_20 rfl (lv_at hl 0 rfl) ?_
        refine va_get (D := X.1) (ci := 6) (v := .ref (ad 14)) (C := "MaskEdgesModel") (T := F_MaskEdgesModel) (N := 28) hx hb ht in_MaskEdgesModel hown hK hP 0 yg0 rfl 17 (by decide) (ht _ xw_464) (fun _ h9 => h9) rfl d_MaskEdgesModel_moveAll_21 ?_
        refine lv_iload hx hb d_MaskEdgesModel_moveAll_24 (lv_at hl 4 rfl) ?_
        obtain ⟨g26, hf⟩ := x_g hf
        refine va_iald hx hb hK hP 14 0 yg14 rfl (xin_in g26) d_MaskEdgesModel_moveAll_26 ?_
        obtain ⟨g27, hf⟩ := x_g hf
        refine va_iast hx hb hK hP (yD hA) hS 15 0 yg15 rfl (xin_in g27) d_MaskEdgesModel_moveAll_27 (fun H locs hP _ hS => ?_)
        replace hP : va_P X.1 vwCl (wY X ad (Y_u_before ST (upd (Y_before ST) v4.toNatClampNeg (Y_moves ST v4.toNatClampNeg)))) H := xeq ym_before hP
        refine lv_iinc (v := (v4 + (1 : Int32))) (lv' := [(4, .int (v4 + (1 : Int32))), (0, .ref (ad 0)), (1, .int v1), (2, .int v2), (3, .int v3)]) hx hb d_MaskEdgesModel_moveAll_28 hl (k := 4) rfl rfl (by decide) rfl (fun ls hl => ?_)
        refine lv_goto (tgt := 5) hx hb d_MaskEdgesModel_moveAll_31 (by decide) ?_
        exact hr5 v1 v2 v3 (v4 + (1 : Int32)) (Y_u_before ST (upd (Y_before ST) v4.toNatClampNeg (Y_moves ST v4.toNatClampNeg))) _ _ hP hS ls (lv_sub hl [1, 2, 3, 4, 0] rfl) hf
  have hL141 : ∀ (r37 : Int32 → Int32 → Int32 → Int32 → ySt → Option (Int32 × ySt)) (hr37 : ∀ (v1 : Int32) (v2 : Int32) (v3 : Int32) (v4 : Int32) (ST : ySt), ∀ (H : Heap) (locs : List Loc), va_P X.1 vwCl (wY X ad ST) H → va_S (yA ad) s.heap H locs → ∀ (ls : Array Slot), lv_has ls 6 [(0, .ref (ad 0)), (1, .int v1), (2, .int v2), (3, .int v3), (4, .int v4)] → r37 v1 v2 v3 v4 ST = some res → W p l e (headSpec (Cond.code y_MaskEdgesModel_moveAll prog_8_method_31_code 6 (some .boolean) :: xT) ({ frames := 5, cells := 0, slots := 0, locals := 123 } : Room)).room s m args below meth c H locs 0 0 Q (F0 m 37 ls [])), ∀ (v1 : Int32) (v2 : Int32) (v4 : Int32) (s0 : Int32) (ST : ySt), ∀ (H : Heap) (locs : List Loc), va_P X.1 vwCl (wY X ad ST) H → va_S (yA ad) s.heap H locs → ∀ (ls : Array Slot), lv_has ls 6 [(0, .ref (ad 0)), (1, .int v1), (2, .int v2), (4, .int v4)] → f_MaskEdgesModel_moveAll_141 r37 v1 v2 v4 s0 ST = some res → W p l e (headSpec (Cond.code y_MaskEdgesModel_moveAll prog_8_method_31_code 6 (some .boolean) :: xT) ({ frames := 5, cells := 0, slots := 0, locals := 123 } : Room)).room s m args below meth c H locs 0 0 Q (F0 m 141 ls [.int s0]) := by
    intro r37 hr37 v1 v2 v4 s0 ST H locs hP hS ls hl hf
    unfold f_MaskEdgesModel_moveAll_141 at hf
    refine lv_istore_n (lv' := [(3, .int s0), (0, .ref (ad 0)), (1, .int v1), (2, .int v2), (4, .int v4)]) hx hb d_MaskEdgesModel_moveAll_141 rfl hl (by decide) rfl (fun ls hl => ?_)
    refine lv_iinc (v := (v4 + (1 : Int32))) (lv' := [(4, .int (v4 + (1 : Int32))), (3, .int s0), (0, .ref (ad 0)), (1, .int v1), (2, .int v2)]) hx hb d_MaskEdgesModel_moveAll_142 hl (k := 4) rfl rfl (by decide) rfl (fun ls hl => ?_)
    refine lv_goto (tgt := 37) hx hb d_MaskEdgesModel_moveAll_145 (by decide) ?_
    exact hr37 v1 v2 s0 (v4 + (1 : Int32)) ST _ _ hP hS ls (lv_sub hl [2, 3, 4, 1, 0] rfl) hf
  have hL136 : ∀ (r37 : Int32 → Int32 → Int32 → Int32 → ySt → Option (Int32 × ySt)) (hr37 : ∀ (v1 : Int32) (v2 : Int32) (v3 : Int32) (v4 : Int32) (ST : ySt), ∀ (H : Heap) (locs : List Loc), va_P X.1 vwCl (wY X ad ST) H → va_S (yA ad) s.heap H locs → ∀ (ls : Array Slot), lv_has ls 6 [(0, .ref (ad 0)), (1, .int v1), (2, .int v2), (3, .int v3), (4, .int v4)] → r37 v1 v2 v3 v4 ST = some res → W p l e (headSpec (Cond.code y_MaskEdgesModel_moveAll prog_8_method_31_code 6 (some .boolean) :: xT) ({ frames := 5, cells := 0, slots := 0, locals := 123 } : Room)).room s m args below meth c H locs 0 0 Q (F0 m 37 ls [])), ∀ (v1 : Int32) (v2 : Int32) (v4 : Int32) (ST : ySt), ∀ (H : Heap) (locs : List Loc), va_P X.1 vwCl (wY X ad ST) H → va_S (yA ad) s.heap H locs → ∀ (ls : Array Slot), lv_has ls 6 [(0, .ref (ad 0)), (1, .int v1), (2, .int v2), (4, .int v4)] → f_MaskEdgesModel_moveAll_136 r37 v1 v2 v4 ST = some res → W p l e (headSpec (Cond.code y_MaskEdgesModel_moveAll prog_8_method_31_code 6 (some .boolean) :: xT) ({ frames := 5, cells := 0, slots := 0, locals := 123 } : Room)).room s m args below meth c H locs 0 0 Q (F0 m 136 ls []) := by
    intro r37 hr37 v1 v2 v4 ST H locs hP hS ls hl hf
    unfold f_MaskEdgesModel_moveAll_136 at hf
    refine lv_iconst (v := (1 : Int32)) hx hb d_MaskEdgesModel_moveAll_136 (by decide) ?_
    refine lv_goto (tgt := 141) hx hb d_MaskEdgesModel_moveAll_137 (by decide) ?_
    exact (hL141 _ hr37) v1 v2 v4 (1 : Int32) ST _ _ hP hS ls (lv_sub hl [0, 1, 2, 3] rfl) hf
  have hL114 : ∀ (r37 : Int32 → Int32 → Int32 → Int32 → ySt → Option (Int32 × ySt)) (hr37 : ∀ (v1 : Int32) (v2 : Int32) (v3 : Int32) (v4 : Int32) (ST : ySt), ∀ (H : Heap) (locs : List Loc), va_P X.1 vwCl (wY X ad ST) H → va_S (yA ad) s.heap H locs → ∀ (ls : Array Slot), lv_has ls 6 [(0, .ref (ad 0)), (1, .int v1), (2, .int v2), (3, .int v3), (4, .int v4)] → r37 v1 v2 v3 v4 ST = some res → W p l e (headSpec (Cond.code y_MaskEdgesModel_moveAll prog_8_method_31_code 6 (some .boolean) :: xT) ({ frames := 5, cells := 0, slots := 0, locals := 123 } : Room)).room s m args below meth c H locs 0 0 Q (F0 m 37 ls [])), ∀ (v1 : Int32) (v2 : Int32) (v3 : Int32) (v4 : Int32) (s0 : Int32) (s1 : Int32) (ST : ySt), ∀ (H : Heap) (locs : List Loc), va_P X.1 vwCl (wY X ad ST) H → va_S (yA ad) s.heap H locs → ∀ (ls : Array Slot), lv_has ls 6 [(0, .ref (ad 0)), (1, .int v1), (2, .int v2), (3, .int v3), (4, .int v4)] → f_MaskEdgesModel_moveAll_114 r37 v1 v2 v3 v4 s0 s1 ST = some res → W p l e (headSpec (Cond.code y_MaskEdgesModel_moveAll prog_8_method_31_code 6 (some .boolean) :: xT) ({ frames := 5, cells := 0, slots := 0, locals := 123 } : Room)).room s m args below meth c H locs 0 0 Q (F0 m 114 ls [.int s0, .int s1, .ref (ad 14)]) := by
    intro r37 hr37 v1 v2 v3 v4 s0 s1 ST H locs hP hS ls hl hf
    unfold f_MaskEdgesModel_moveAll_114 at hf
    obtain ⟨g114, hf⟩ := x_g hf
    refine va_iast hx hb hK hP (yD hA) hS 14 0 yg14 rfl (xin_in g114) d_MaskEdgesModel_moveAll_114 (fun H locs hP _ hS => ?_)
    replace hP : va_P X.1 vwCl (wY X ad (Y_u_moves ST (upd (Y_moves ST) s1.toNatClampNeg s0))) H := xeq ym_moves hP
    refine lv_iload_n hx hb d_MaskEdgesModel_moveAll_115 rfl (lv_at hl 3 rfl) ?_
    refine lv_if_ne (tgt := 136) hx hb d_MaskEdgesModel_moveAll_116 (by decide) (fun hc => ?_) (fun hc => ?_)
    · replace hf := x_f hc hf
      exact (hL136 _ hr37) v1 v2 v4 (Y_u_moves ST (upd (Y_moves ST) s1.toNatClampNeg s0)) _ _ hP hS ls (lv_sub hl [0, 1, 2, 4] rfl) hf
    · replace hf := x_t hc hf
      refine lv_aload_n hx hb d_MaskEdgesModel_moveAll_119 rfl (lv_at hl 0 rfl) ?_
      refine va_get (D := X.1) (ci := 6) (v := .ref (ad 14)) (C := "MaskEdgesModel") (T := F_MaskEdgesModel) (N := 28) hx hb ht in_MaskEdgesModel hown hK hP 0 yg0 rfl 17 (by decide) (ht _ xw_464) (fun _ h9 => h9) rfl d_MaskEdgesModel_moveAll_120 ?_
      refine lv_iload hx hb d_MaskEdgesModel_moveAll_123 (lv_at hl 4 rfl) ?_
      obtain ⟨g125, hf⟩ := x_g hf
      refine va_iald hx hb hK hP 14 0 yg14 rfl (xin_in g125) d_MaskEdgesModel_moveAll_125 ?_
      refine lv_aload_n hx hb d_MaskEdgesModel_moveAll_126 rfl (lv_at hl 0 rfl) ?_
      refine va_get (D := X.1) (ci := 6) (v := .ref (ad 15)) (C := "MaskEdgesModel") (T := F_MaskEdgesModel) (N := 28) hx hb ht in_MaskEdgesModel hown hK hP 0 yg0 rfl 18 (by decide) (ht _ xw_465) (fun _ h9 => h9) rfl d_MaskEdgesModel_moveAll_127 ?_
      refine lv_iload hx hb d_MaskEdgesModel_moveAll_130 (lv_at hl 4 rfl) ?_
      obtain ⟨g132, hf⟩ := x_g hf
      refine va_iald hx hb hK hP 15 0 yg15 rfl (xin_in g132) d_MaskEdgesModel_moveAll_132 ?_
      refine lv_icmp_eq (tgt := 140) hx hb d_MaskEdgesModel_moveAll_133 (by decide) (fun hc => ?_) (fun hc => ?_)
      · replace hf := x_t hc hf
        refine lv_iconst (v := (0 : Int32)) hx hb d_MaskEdgesModel_moveAll_140 (by decide) ?_
        exact (hL141 _ hr37) v1 v2 v4 (0 : Int32) (Y_u_moves ST (upd (Y_moves ST) s1.toNatClampNeg s0)) _ _ hP hS ls (lv_sub hl [0, 1, 2, 4] rfl) hf
      · replace hf := x_f hc hf
        exact (hL136 _ hr37) v1 v2 v4 (Y_u_moves ST (upd (Y_moves ST) s1.toNatClampNeg s0)) _ _ hP hS ls (lv_sub hl [0, 1, 2, 4] rfl) hf
  have hL72 : ∀ (r37 : Int32 → Int32 → Int32 → Int32 → ySt → Option (Int32 × ySt)) (hr37 : ∀ (v1 : Int32) (v2 : Int32) (v3 : Int32) (v4 : Int32) (ST : ySt), ∀ (H : Heap) (locs : List Loc), va_P X.1 vwCl (wY X ad ST) H → va_S (yA ad) s.heap H locs → ∀ (ls : Array Slot), lv_has ls 6 [(0, .ref (ad 0)), (1, .int v1), (2, .int v2), (3, .int v3), (4, .int v4)] → r37 v1 v2 v3 v4 ST = some res → W p l e (headSpec (Cond.code y_MaskEdgesModel_moveAll prog_8_method_31_code 6 (some .boolean) :: xT) ({ frames := 5, cells := 0, slots := 0, locals := 123 } : Room)).room s m args below meth c H locs 0 0 Q (F0 m 37 ls [])), ∀ (v1 : Int32) (v2 : Int32) (v3 : Int32) (v4 : Int32) (s0 : Int32) (ST : ySt), ∀ (H : Heap) (locs : List Loc), va_P X.1 vwCl (wY X ad ST) H → va_S (yA ad) s.heap H locs → ∀ (ls : Array Slot), lv_has ls 6 [(0, .ref (ad 0)), (1, .int v1), (2, .int v2), (3, .int v3), (4, .int v4)] → f_MaskEdgesModel_moveAll_72 r37 v1 v2 v3 v4 s0 ST = some res → W p l e (headSpec (Cond.code y_MaskEdgesModel_moveAll prog_8_method_31_code 6 (some .boolean) :: xT) ({ frames := 5, cells := 0, slots := 0, locals := 123 } : Room)).room s m args below meth c H locs 0 0 Q (F0 m 72 ls [.int s0]) := by
    intro r37 hr37 v1 v2 v3 v4 s0 ST H locs hP hS ls hl hf
    unfold f_MaskEdgesModel_moveAll_72 at hf
    refine lv_istore (lv' := [(5, .int s0), (0, .ref (ad 0)), (1, .int v1), (2, .int v2), (3, .int v3), (4, .int v4)]) hx hb d_MaskEdgesModel_moveAll_72 hl (by decide) rfl (fun ls hl => ?_)
    refine lv_aload_n hx hb d_MaskEdgesModel_moveAll_74 rfl (lv_at hl 1 rfl) ?_
    refine va_get (D := X.1) (ci := 6) (v := .ref (ad 14)) (C := "MaskEdgesModel") (T := F_MaskEdgesModel) (N := 28) hx hb ht in_MaskEdgesModel hown hK hP 0 yg0 rfl 17 (by decide) (ht _ xw_464) (fun _ h9 => h9) rfl d_MaskEdgesModel_moveAll_75 ?_
    refine lv_iload hx hb d_MaskEdgesModel_moveAll_78 (lv_at hl 5 rfl) ?_
    refine lv_aload_n hx hb d_MaskEdgesModel_moveAll_80 rfl (lv_at hl 1 rfl) ?_
    refine va_get (D := X.1) (ci := 6) (v := .ref (ad 13)) (C := "MaskEdgesModel") (T := F_MaskEdgesModel) (N := 28) hx hb ht in_MaskEdgesModel hown hK hP 0 yg0 rfl 16 (by decide) (ht _ xw_463) (fun _ h9 => h9) rfl d_MaskEdgesModel_moveAll_81 ?_
    refine lv_iload hx hb d_MaskEdgesModel_moveAll_84 (lv_at hl 5 rfl) ?_
    obtain ⟨g86, hf⟩ := x_g hf
    refine va_iald hx hb hK hP 13 0 yg13 rfl (xin_in g86) d_MaskEdgesModel_moveAll_86 ?_
    refine lv_if_ne (tgt := 100) hx hb d_MaskEdgesModel_moveAll_87 (by decide) (fun hc => ?_) (fun hc => ?_)
    · replace hf := x_f hc hf
      refine lv_aload_n hx hb d_MaskEdgesModel_moveAll_100 rfl (lv_at hl 1 rfl) ?_
      refine va_get (D := X.1) (ci := 6) (v := .ref (ad 15)) (C := "MaskEdgesModel") (T := F_MaskEdgesModel) (N := 28) hx hb ht in_MaskEdgesModel hown hK hP 0 yg0 rfl 18 (by decide) (ht _ xw_465) (fun _ h9 => h9) rfl d_MaskEdgesModel_moveAll_101 ?_
      refine lv_iload hx hb d_MaskEdgesModel_moveAll_104 (lv_at hl 5 rfl) ?_
      obtain ⟨g106, hf⟩ := x_g hf
      refine va_iald hx hb hK hP 15 0 yg15 rfl (xin_in g106) d_MaskEdgesModel_moveAll_106 ?_
      refine lv_iload hx hb d_MaskEdgesModel_moveAll_107 (lv_at hl 0 rfl) ?_
      refine lv_isub hx hb d_MaskEdgesModel_moveAll_109 ?_
      refine lv_iload_n hx hb d_MaskEdgesModel_moveAll_110 rfl (lv_at hl 3 rfl) ?_
      obtain ⟨c111, e111, hf⟩ := x_b hf
      refine xcR (va_runS (As := [.int ((Y_before ST v4.toNatClampNeg) - s0), .int v2]) (rest := [.int v4, .ref (ad 14)]) ⟨hx, hb, hml, hown, ht⟩ (c_MaskEdgesModel_clamp l X ((Y_before ST v4.toNatClampNeg) - s0) v2 e111) (cwS 2 ht (xgS xw_612 xw_613 xw_43 xw_614) rfl rfl rfl (by decide +kernel) ⟨Nat.le_of_ble_eq_true rfl, Nat.le_of_ble_eq_true rfl⟩) (xPS hKK) rfl rfl hl.1 rfl (lv_room (Nat.le_of_ble_eq_true rfl)) d_MaskEdgesModel_moveAll_111 ⟨Nat.zero_le _, Nat.zero_le _⟩) ?_
      refine W.eq (g2 := F0 m 114 ls [.int c111, .int v4, .ref (ad 14)]) rfl ?_
      exact (hL114 _ hr37) v1 v2 v3 v4 c111 v4 ST _ _ hP hS ls (lv_sub hl [1, 2, 3, 4, 5] rfl) hf
    · replace hf := x_t hc hf
      refine lv_aload_n hx hb d_MaskEdgesModel_moveAll_90 rfl (lv_at hl 1 rfl) ?_
      refine va_get (D := X.1) (ci := 6) (v := .ref (ad 14)) (C := "MaskEdgesModel") (T := F_MaskEdgesModel) (N := 28) hx hb ht in_MaskEdgesModel hown hK hP 0 yg0 rfl 17 (by decide) (ht _ xw_464) (fun _ h9 => h9) rfl d_MaskEdgesModel_moveAll_91 ?_
      refine lv_iload hx hb d_MaskEdgesModel_moveAll_94 (lv_at hl 5 rfl) ?_
      obtain ⟨g96, hf⟩ := x_g hf
      refine va_iald hx hb hK hP 14 0 yg14 rfl (xin_in g96) d_MaskEdgesModel_moveAll_96 ?_
      refine lv_goto (tgt := 114) hx hb d_MaskEdgesModel_moveAll_97 (by decide) ?_
      exact (hL114 _ hr37) v1 v2 v3 v4 (Y_moves ST v4.toNatClampNeg) v4 ST _ _ hP hS ls (lv_sub hl [1, 2, 3, 4, 5] rfl) hf
  have hL37 : ∀ (n : Nat), ∀ (v1 : Int32) (v2 : Int32) (v3 : Int32) (v4 : Int32) (ST : ySt), ∀ (H : Heap) (locs : List Loc), va_P X.1 vwCl (wY X ad ST) H → va_S (yA ad) s.heap H locs → ∀ (ls : Array Slot), lv_has ls 6 [(0, .ref (ad 0)), (1, .int v1), (2, .int v2), (3, .int v3), (4, .int v4)] → (xloop (fun r => f_MaskEdgesModel_moveAll_37 r) (fun _ _ _ _ _ => none) n) v1 v2 v3 v4 ST = some res → W p l e (headSpec (Cond.code y_MaskEdgesModel_moveAll prog_8_method_31_code 6 (some .boolean) :: xT) ({ frames := 5, cells := 0, slots := 0, locals := 123 } : Room)).room s m args below meth c H locs 0 0 Q (F0 m 37 ls []) := by
    intro n
    induction n with
    | zero => intro v1 v2 v3 v4 ST H locs hP hS ls hl hf; cases hf
    | succ n ih =>
      intro v1 v2 v3 v4 ST H locs hP hS ls hl hf
      replace hf : f_MaskEdgesModel_moveAll_37 (xloop (fun r => f_MaskEdgesModel_moveAll_37 r) (fun _ _ _ _ _ => none) n) v1 v2 v3 v4 ST = some res := hf
      have hr37 := ih
      clear ih
      unfold f_MaskEdgesModel_moveAll_37 at hf
      refine lv_iload hx hb d_MaskEdgesModel_moveAll_37 (lv_at hl 4 rfl) ?_
      refine lv_aload_n hx hb d_MaskEdgesModel_moveAll_39 rfl (lv_at hl 0 rfl) ?_
      refine va_get (D := X.1) (ci := 6) (v := .int (Y_pieces ST)) (C := "MaskEdgesModel") (T := F_MaskEdgesModel) (N := 28) hx hb ht in_MaskEdgesModel hown hK hP 0 yg0 rfl 9 (by decide) (ht _ xw_456) (fun _ h9 => h9) rfl d_MaskEdgesModel_moveAll_40 ?_
      refine lv_icmp_ge (tgt := 148) hx hb d_MaskEdgesModel_moveAll_43 (by decide) (fun hc => ?_) (fun hc => ?_)
      · replace hf := x_t hc hf
        refine lv_iload_n hx hb d_MaskEdgesModel_moveAll_148 rfl (lv_at hl 3 rfl) ?_
        obtain ⟨zr, hf⟩ := x_g hf
        replace hf := x_s hf
        subst hf
        subst hQ
        exact W.zret (v := v3) hx hb hr (xz_n zr) (fun t ht hW => ⟨⟨rfl, by rw [ht]; exact hP⟩, hS.F ht⟩) hS.2.2 d_MaskEdgesModel_moveAll_149
      · replace hf := x_f hc hf
        refine lv_aload_n hx hb d_MaskEdgesModel_moveAll_46 rfl (lv_at hl 0 rfl) ?_
        refine va_get (D := X.1) (ci := 6) (v := .ref (ad 13)) (C := "MaskEdgesModel") (T := F_MaskEdgesModel) (N := 28) hx hb ht in_MaskEdgesModel hown hK hP 0 yg0 rfl 16 (by decide) (ht _ xw_463) (fun _ h9 => h9) rfl d_MaskEdgesModel_moveAll_47 ?_
        refine lv_iload hx hb d_MaskEdgesModel_moveAll_50 (lv_at hl 4 rfl) ?_
        obtain ⟨g52, hf⟩ := x_g hf
        refine va_iald hx hb hK hP 13 0 yg13 rfl (xin_in g52) d_MaskEdgesModel_moveAll_52 ?_
        refine lv_if_ne (tgt := 60) hx hb d_MaskEdgesModel_moveAll_53 (by decide) (fun hc => ?_) (fun hc => ?_)
        · replace hf := x_f hc hf
          refine lv_aload_n hx hb d_MaskEdgesModel_moveAll_60 rfl (lv_at hl 0 rfl) ?_
          refine lv_iload hx hb d_MaskEdgesModel_moveAll_61 (lv_at hl 4 rfl) ?_
          refine lv_bipush (v := (100 : Int32)) hx hb d_MaskEdgesModel_moveAll_63 (by decide) ?_
          obtain ⟨c65, e65, hf⟩ := x_b hf
          refine xcR (va_runV (As := [.int v4, .int (100 : Int32)]) (rest := []) ⟨hx, hb, hml, hown, ht⟩ (c_MaskEdgesModel_errorAt l X ad ST v4 (100 : Int32) hP e65) (cwV 2 ht (xgV xw_592 xw_593 xw_29 xw_43 xw_594) rfl rfl rfl (by decide +kernel) ⟨Nat.le_of_ble_eq_true rfl, Nat.le_of_ble_eq_true rfl⟩) (xPV hKK (va_recv hK hP (ci := 6) (q0 := 0) rfl yg0)) rfl rfl hl.1 rfl (lv_room (Nat.le_of_ble_eq_true rfl)) d_MaskEdgesModel_moveAll_65 ⟨Nat.zero_le _, Nat.zero_le _⟩) ?_
          refine W.eq (g2 := F0 m 68 ls [.int c65]) rfl ?_
          refine lv_iload_n hx hb d_MaskEdgesModel_moveAll_68 rfl (lv_at hl 1 rfl) ?_
          obtain ⟨c69, e69, hf⟩ := x_b hf
          refine xcR (va_runS (As := [.int c65, .int v1]) (rest := []) ⟨hx, hb, hml, hown, ht⟩ (c_MaskEdgesModel_clamp l X c65 v1 e69) (cwS 2 ht (xgS xw_612 xw_613 xw_43 xw_614) rfl rfl rfl (by decide +kernel) ⟨Nat.le_of_ble_eq_true rfl, Nat.le_of_ble_eq_true rfl⟩) (xPS hKK) rfl rfl hl.1 rfl (lv_room (Nat.le_of_ble_eq_true rfl)) d_MaskEdgesModel_moveAll_69 ⟨Nat.zero_le _, Nat.zero_le _⟩) ?_
          refine W.eq (g2 := F0 m 72 ls [.int c69]) rfl ?_
          exact (hL72 _ hr37) v1 v2 v3 v4 c69 ST _ _ hP hS ls (lv_sub hl [0, 1, 2, 3, 4] rfl) hf
        · replace hf := x_t hc hf
          refine lv_iconst (v := (0 : Int32)) hx hb d_MaskEdgesModel_moveAll_56 (by decide) ?_
          refine lv_goto (tgt := 72) hx hb d_MaskEdgesModel_moveAll_57 (by decide) ?_
          exact (hL72 _ hr37) v1 v2 v3 v4 (0 : Int32) ST _ _ hP hS ls (lv_sub hl [0, 1, 2, 3, 4] rfl) hf
  have hL34 : ∀ (v1 : Int32) (v2 : Int32) (v3 : Int32) (ST : ySt), ∀ (H : Heap) (locs : List Loc), va_P X.1 vwCl (wY X ad ST) H → va_S (yA ad) s.heap H locs → ∀ (ls : Array Slot), lv_has ls 6 [(0, .ref (ad 0)), (1, .int v1), (2, .int v2), (3, .int v3)] → f_MaskEdgesModel_moveAll_34 v1 v2 v3 ST = some res → W p l e (headSpec (Cond.code y_MaskEdgesModel_moveAll prog_8_method_31_code 6 (some .boolean) :: xT) ({ frames := 5, cells := 0, slots := 0, locals := 123 } : Room)).room s m args below meth c H locs 0 0 Q (F0 m 34 ls []) := by
    intro v1 v2 v3 ST H locs hP hS ls hl hf
    unfold f_MaskEdgesModel_moveAll_34 at hf
    refine lv_iconst (v := (0 : Int32)) hx hb d_MaskEdgesModel_moveAll_34 (by decide) ?_
    refine lv_istore (lv' := [(4, .int (0 : Int32)), (0, .ref (ad 0)), (1, .int v1), (2, .int v2), (3, .int v3)]) hx hb d_MaskEdgesModel_moveAll_35 hl (by decide) rfl (fun ls hl => ?_)
    exact (hL37 100000) v1 v2 v3 (0 : Int32) ST _ _ hP hS ls (lv_sub hl [1, 2, 3, 4, 0] rfl) hf
  unfold f_MaskEdgesModel_moveAll at hf
  refine lv_iconst (v := (0 : Int32)) hx hb d_MaskEdgesModel_moveAll_0 (by decide) ?_
  refine lv_istore_n (lv' := [(3, .int (0 : Int32)), (0, .ref (ad 0)), (1, .int v1), (2, .int v2)]) hx hb d_MaskEdgesModel_moveAll_1 rfl hl (by decide) rfl (fun ls hl => ?_)
  refine lv_iconst (v := (0 : Int32)) hx hb d_MaskEdgesModel_moveAll_2 (by decide) ?_
  refine lv_istore (lv' := [(4, .int (0 : Int32)), (3, .int (0 : Int32)), (0, .ref (ad 0)), (1, .int v1), (2, .int v2)]) hx hb d_MaskEdgesModel_moveAll_3 hl (by decide) rfl (fun ls hl => ?_)
  exact (hL5 _ hL34 100000) v1 v2 (0 : Int32) (0 : Int32) ST _ _ hP hS ls (lv_sub hl [2, 3, 4, 1, 0] rfl) hf
def f_MaskEdgesModel_moveBack_2 (r2 : Int32 → ySt → Option (ySt)) (v1 : Int32) (ST : ySt) : Option (ySt) :=
  if (Y_pieces ST) ≤ v1 then
  some ST
else
  if xin v1 120 = true then
    if xin v1 120 = true then
      r2 (v1 + (1 : Int32)) (Y_u_moves ST (upd (Y_moves ST) v1.toNatClampNeg (Y_before ST v1.toNatClampNeg)))
    else none
  else none
def f_MaskEdgesModel_moveBack (ST : ySt) : Option (ySt) :=
  (xloop (fun r => f_MaskEdgesModel_moveBack_2 r) (fun _ _ => none) 100000) (0 : Int32) ST
set_option maxHeartbeats 4000000 in
set_option maxRecDepth 100000 in
theorem c_MaskEdgesModel_moveBack (l : Launch) (X : xG) {H : Heap} (ad : Nat → Nat) (ST : ySt) {res : ySt} (hP : va_P X.1 vwCl (wY X ad ST) H) (hA : okB ad) (hf : f_MaskEdgesModel_moveBack ST = some res) : xM l y_MaskEdgesModel_moveBack (Cond.code y_MaskEdgesModel_moveBack prog_8_method_32_code 2 none :: xT) ({ frames := 0, cells := 0, slots := 0, locals := 0 } : Room) (xK X) [.ref (ad 0)] H (yA ad) none (fun H1 => va_P X.1 vwCl (wY X ad res) H1) := by
  refine Met.ofW (cc := prog_8_method_32_code) (maxL := 2) (ret := none) (by decide) rfl ?_
  intro p e s m args below meth c s₁ B hml hv
  obtain ⟨ha, hH, hKK⟩ := hv
  subst hH
  have hx := B.exec
  have hb := B.bytes
  have hr := B.returns
  have ht : ∀ w ∈ xT, w.before args s = true := fun w h => atoms_spec (ws := (Cond.code y_MaskEdgesModel_moveBack prog_8_method_32_code 2 none :: xT)) B.pre w (List.mem_cons_of_mem _ h)
  have hown : s.vm.findClass "MaskEdgesModel" = some m.cls := findClass_of_methodNamed B.named
  have hlocks := B.notSynchronized
  have hK := hKK.1
  rw [show entryFrame m args 2 = entryFrame m ([.ref (ad 0)] : List Value).toArray 2 from by rw [ha]]
  clear ha
  have hS : va_S (yA ad) s.heap s.heap [] := va_S.rf
  have hl := lv_entry ([.ref (ad 0)]) (n := 2) (Nat.le_of_ble_eq_true rfl)
  rw [lg_entry_eq]
  generalize (lg_sl ([.ref (ad 0)]) ++ List.replicate (2 - (lg_sl ([.ref (ad 0)])).length) Slot.unset).toArray = ls at hl ⊢
  replace hl : lv_has ls 2 [(0, .ref (ad 0))] := hl
  refine x_Q (fun Q hQ => ?_)
  have hL2 : ∀ (n : Nat), ∀ (v1 : Int32) (ST : ySt), ∀ (H : Heap) (locs : List Loc), va_P X.1 vwCl (wY X ad ST) H → va_S (yA ad) s.heap H locs → ∀ (ls : Array Slot), lv_has ls 2 [(0, .ref (ad 0)), (1, .int v1)] → (xloop (fun r => f_MaskEdgesModel_moveBack_2 r) (fun _ _ => none) n) v1 ST = some res → W p l e (headSpec (Cond.code y_MaskEdgesModel_moveBack prog_8_method_32_code 2 none :: xT) ({ frames := 0, cells := 0, slots := 0, locals := 0 } : Room)).room s m args below meth c H locs 0 0 Q (F0 m 2 ls []) := by
    intro n
    induction n with
    | zero => intro v1 ST H locs hP hS ls hl hf; cases hf
    | succ n ih =>
      intro v1 ST H locs hP hS ls hl hf
      replace hf : f_MaskEdgesModel_moveBack_2 (xloop (fun r => f_MaskEdgesModel_moveBack_2 r) (fun _ _ => none) n) v1 ST = some res := hf
      have hr2 := ih
      clear ih
      unfold f_MaskEdgesModel_moveBack_2 at hf
      refine lv_iload_n hx hb d_MaskEdgesModel_moveBack_2 rfl (lv_at hl 1 rfl) ?_
      refine lv_aload_n hx hb d_MaskEdgesModel_moveBack_3 rfl (lv_at hl 0 rfl) ?_
      refine va_get (D := X.1) (ci := 6) (v := .int (Y_pieces ST)) (C := "MaskEdgesModel") (T := F_MaskEdgesModel) (N := 28) hx hb ht in_MaskEdgesModel hown hK hP 0 yg0 rfl 9 (by decide) (ht _ xw_456) (fun _ h9 => h9) rfl d_MaskEdgesModel_moveBack_4 ?_
      refine lv_icmp_ge (tgt := 28) hx hb d_MaskEdgesModel_moveBack_7 (by decide) (fun hc => ?_) (fun hc => ?_)
      · replace hf := x_t hc hf
        replace hf := x_s hf
        subst hf
        subst hQ
        exact W.vret hx hb hr (fun t ht hW => ⟨⟨rfl, by rw [ht]; exact hP⟩, hS.F ht⟩) hS.2.2 d_MaskEdgesModel_moveBack_28
      · replace hf := x_f hc hf
        refine lv_aload_n hx hb d_MaskEdgesModel_moveBack_10 rfl (lv_at hl 0 rfl) ?_
        refine va_get (D := X.1) (ci := 6) (v := .ref (ad 14)) (C := "MaskEdgesModel") (T := F_MaskEdgesModel) (N := 28) hx hb ht in_MaskEdgesModel hown hK hP 0 yg0 rfl 17 (by decide) (ht _ xw_464) (fun _ h9 => h9) rfl d_MaskEdgesModel_moveBack_11 ?_
        refine lv_iload_n hx hb d_MaskEdgesModel_moveBack_14 rfl (lv_at hl 1 rfl) ?_
        refine lv_aload_n hx hb d_MaskEdgesModel_moveBack_15 rfl (lv_at hl 0 rfl) ?_
        refine va_get (D := X.1) (ci := 6) (v := .ref (ad 15)) (C := "MaskEdgesModel") (T := F_MaskEdgesModel) (N := 28) hx hb ht in_MaskEdgesModel hown hK hP 0 yg0 rfl 18 (by decide) (ht _ xw_465) (fun _ h9 => h9) rfl d_MaskEdgesModel_moveBack_16 ?_
        refine lv_iload_n hx hb d_MaskEdgesModel_moveBack_19 rfl (lv_at hl 1 rfl) ?_
        obtain ⟨g20, hf⟩ := x_g hf
        refine va_iald hx hb hK hP 15 0 yg15 rfl (xin_in g20) d_MaskEdgesModel_moveBack_20 ?_
        obtain ⟨g21, hf⟩ := x_g hf
        refine va_iast hx hb hK hP (yD hA) hS 14 0 yg14 rfl (xin_in g21) d_MaskEdgesModel_moveBack_21 (fun H locs hP _ hS => ?_)
        replace hP : va_P X.1 vwCl (wY X ad (Y_u_moves ST (upd (Y_moves ST) v1.toNatClampNeg (Y_before ST v1.toNatClampNeg)))) H := xeq ym_moves hP
        refine lv_iinc (v := (v1 + (1 : Int32))) (lv' := [(1, .int (v1 + (1 : Int32))), (0, .ref (ad 0))]) hx hb d_MaskEdgesModel_moveBack_22 hl (k := 1) rfl rfl (by decide) rfl (fun ls hl => ?_)
        refine lv_goto (tgt := 2) hx hb d_MaskEdgesModel_moveBack_25 (by decide) ?_
        exact hr2 (v1 + (1 : Int32)) (Y_u_moves ST (upd (Y_moves ST) v1.toNatClampNeg (Y_before ST v1.toNatClampNeg))) _ _ hP hS ls (lv_sub hl [1, 0] rfl) hf
  unfold f_MaskEdgesModel_moveBack at hf
  refine lv_iconst (v := (0 : Int32)) hx hb d_MaskEdgesModel_moveBack_0 (by decide) ?_
  refine lv_istore_n (lv' := [(1, .int (0 : Int32)), (0, .ref (ad 0))]) hx hb d_MaskEdgesModel_moveBack_1 rfl hl (by decide) rfl (fun ls hl => ?_)
  exact (hL2 100000) (0 : Int32) ST _ _ hP hS ls (lv_sub hl [1, 0] rfl) hf
def f_MaskEdgesModel_run_192 (r89 : Int32 → Int32 → Int32 → Int32 → ySt → Option (Int32 × ySt)) (v1 : Int32) (v3 : Int32) (v4 : Int32) (v5 : Int32) (ST : ySt) : Option (Int32 × ySt) :=
  r89 v1 v3 v4 v5 ST
def f_MaskEdgesModel_run_157 (r89 : Int32 → Int32 → Int32 → Int32 → ySt → Option (Int32 × ySt)) (v1 : Int32) (v3 : Int32) (v4 : Int32) (v6 : Int32) (s0 : Int32) (ST : ySt) : Option (Int32 × ySt) :=
  if s0 = 0 then
  (f_MaskEdgesModel_moveBack ST).bind fun c189 =>
    (f_MaskEdgesModel_run_192 r89) v1 v3 v4 s0 c189
else
  if xin (Y_kept (Y_u_kept ST ((Y_kept ST) + (1 : Int32)))) 21 = true then
    (f_MaskEdgesModel_run_192 r89) v1 v3 v4 s0 (Y_u_worsts (Y_u_kept ST ((Y_kept ST) + (1 : Int32))) (upd (Y_worsts (Y_u_kept ST ((Y_kept ST) + (1 : Int32)))) (Y_kept (Y_u_kept ST ((Y_kept ST) + (1 : Int32)))).toNatClampNeg v6))
  else none
def f_MaskEdgesModel_run_156 (r89 : Int32 → Int32 → Int32 → Int32 → ySt → Option (Int32 × ySt)) (v1 : Int32) (v3 : Int32) (v4 : Int32) (v6 : Int32) (ST : ySt) : Option (Int32 × ySt) :=
  (f_MaskEdgesModel_run_157 r89) v1 v3 v4 v6 (0 : Int32) ST
def f_MaskEdgesModel_run_89 (r89 : Int32 → Int32 → Int32 → Int32 → ySt → Option (Int32 × ySt)) (v1 : Int32) (v3 : Int32) (v4 : Int32) (v5 : Int32) (ST : ySt) : Option (Int32 × ySt) :=
  if v5 = 0 then
  some ((Y_kept ST), ST)
else
  if v1 ≤ (Y_kept ST) then
    some ((Y_kept ST), ST)
  else
    if xin (Y_kept ST) 21 = true then
      if (Y_worsts ST (Y_kept ST).toNatClampNeg) ≤ 0 then
        some ((Y_kept ST), ST)
      else
        (f_MaskEdgesModel_moveAll v3 v4 ST).bind fun c118 =>
          (f_MaskEdgesModel_make c118.2).bind fun c124 =>
          (f_MaskEdgesModel_worstNow c124).bind fun c128 =>
          if c118.1 = 0 then
          (f_MaskEdgesModel_run_156 r89) v1 v3 v4 c128 c124
        else
          if xin (Y_kept c124) 21 = true then
            if (Y_worsts c124 (Y_kept c124).toNatClampNeg) < c128 then
              (f_MaskEdgesModel_run_156 r89) v1 v3 v4 c128 c124
            else
              (f_MaskEdgesModel_run_157 r89) v1 v3 v4 c128 (1 : Int32) c124
          else none
    else none
def f_MaskEdgesModel_run (v1 : Int32) (v2 : Int32) (v3 : Int32) (v4 : Int32) (ST : ySt) : Option (Int32 × ySt) :=
  (f_MaskEdgesModel_isBetween v1.toInt64 (1 : Int64) (20 : Int64)).bind fun c6 =>
  if c6 = 0 then
  some ((-2 : Int32), ST)
else
  (f_MaskEdgesModel_isBetween v2.toInt64 (1 : Int64) (100000 : Int64)).bind fun c18 =>
    if c18 = 0 then
    some ((-2 : Int32), ST)
  else
    (f_MaskEdgesModel_isBetween v3.toInt64 (1 : Int64) (4 : Int64)).bind fun c30 =>
      if c30 = 0 then
      some ((-2 : Int32), ST)
    else
      (f_MaskEdgesModel_isBetween v4.toInt64 (1 : Int64) (6 : Int64)).bind fun c43 =>
        if c43 = 0 then
        some ((-2 : Int32), ST)
      else
        if (Y_pieces ST) = 0 then
          some ((-3 : Int32), ST)
        else
          (f_MaskEdgesModel_make (Y_u_threshold ST v2)).bind fun c68 =>
            (f_MaskEdgesModel_worstNow (Y_u_kept c68 (0 : Int32))).bind fun c82 =>
            if xin (0 : Int32) 21 = true then
            (xloop (fun r => f_MaskEdgesModel_run_89 r) (fun _ _ _ _ _ => none) 100000) v1 v3 v4 (1 : Int32) (Y_u_worsts (Y_u_kept c68 (0 : Int32)) (upd (Y_worsts (Y_u_kept c68 (0 : Int32))) (0 : Int32).toNatClampNeg c82))
          else none
set_option maxHeartbeats 4000000 in
set_option maxRecDepth 100000 in
theorem c_MaskEdgesModel_run (l : Launch) (X : xG) {H : Heap} (ad : Nat → Nat) (ST : ySt) (v1 : Int32) (v2 : Int32) (v3 : Int32) (v4 : Int32) {res : Int32 × ySt} (hP : va_P X.1 vwCl (wY X ad ST) H) (hA : okB ad) (hf : f_MaskEdgesModel_run v1 v2 v3 v4 ST = some res) : xM l y_MaskEdgesModel_run (Cond.code y_MaskEdgesModel_run prog_8_method_33_code 7 (some .int) :: xT) ({ frames := 6, cells := 0, slots := 0, locals := 148 } : Room) (xK X) [.ref (ad 0), .int v1, .int v2, .int v3, .int v4] H (yA ad) (some (.int res.1)) (fun H1 => va_P X.1 vwCl (wY X ad res.2) H1) := by
  refine Met.ofW (cc := prog_8_method_33_code) (maxL := 7) (ret := (some .int)) (by decide) rfl ?_
  intro p e s m args below meth c s₁ B hml hv
  obtain ⟨ha, hH, hKK⟩ := hv
  subst hH
  have hx := B.exec
  have hb := B.bytes
  have hr := B.returns
  have ht : ∀ w ∈ xT, w.before args s = true := fun w h => atoms_spec (ws := (Cond.code y_MaskEdgesModel_run prog_8_method_33_code 7 (some .int) :: xT)) B.pre w (List.mem_cons_of_mem _ h)
  have hown : s.vm.findClass "MaskEdgesModel" = some m.cls := findClass_of_methodNamed B.named
  have hlocks := B.notSynchronized
  have hK := hKK.1
  rw [show entryFrame m args 7 = entryFrame m ([.ref (ad 0), .int v1, .int v2, .int v3, .int v4] : List Value).toArray 7 from by rw [ha]]
  clear ha
  have hS : va_S (yA ad) s.heap s.heap [] := va_S.rf
  have hl := lv_entry ([.ref (ad 0), .int v1, .int v2, .int v3, .int v4]) (n := 7) (Nat.le_of_ble_eq_true rfl)
  rw [lg_entry_eq]
  generalize (lg_sl ([.ref (ad 0), .int v1, .int v2, .int v3, .int v4]) ++ List.replicate (7 - (lg_sl ([.ref (ad 0), .int v1, .int v2, .int v3, .int v4])).length) Slot.unset).toArray = ls at hl ⊢
  replace hl : lv_has ls 7 [(0, .ref (ad 0)), (1, .int v1), (2, .int v2), (3, .int v3), (4, .int v4)] := hl
  refine x_Q (fun Q hQ => ?_)
  have hL192 : ∀ (r89 : Int32 → Int32 → Int32 → Int32 → ySt → Option (Int32 × ySt)) (hr89 : ∀ (v1 : Int32) (v3 : Int32) (v4 : Int32) (v5 : Int32) (ST : ySt), ∀ (H : Heap) (locs : List Loc), va_P X.1 vwCl (wY X ad ST) H → va_S (yA ad) s.heap H locs → ∀ (ls : Array Slot), lv_has ls 7 [(0, .ref (ad 0)), (1, .int v1), (3, .int v3), (4, .int v4), (5, .int v5)] → r89 v1 v3 v4 v5 ST = some res → W p l e (headSpec (Cond.code y_MaskEdgesModel_run prog_8_method_33_code 7 (some .int) :: xT) ({ frames := 6, cells := 0, slots := 0, locals := 148 } : Room)).room s m args below meth c H locs 0 0 Q (F0 m 89 ls [])), ∀ (v1 : Int32) (v3 : Int32) (v4 : Int32) (v5 : Int32) (ST : ySt), ∀ (H : Heap) (locs : List Loc), va_P X.1 vwCl (wY X ad ST) H → va_S (yA ad) s.heap H locs → ∀ (ls : Array Slot), lv_has ls 7 [(0, .ref (ad 0)), (1, .int v1), (3, .int v3), (4, .int v4), (5, .int v5)] → f_MaskEdgesModel_run_192 r89 v1 v3 v4 v5 ST = some res → W p l e (headSpec (Cond.code y_MaskEdgesModel_run prog_8_method_33_code 7 (some .int) :: xT) ({ frames := 6, cells := 0, slots := 0, locals := 148 } : Room)).room s m args below meth c H locs 0 0 Q (F0 m 192 ls []) := by
    intro r89 hr89 v1 v3 v4 v5 ST H locs hP hS ls hl hf
    unfold f_MaskEdgesModel_run_192 at hf
    refine lv_goto (tgt := 89) hx hb d_MaskEdgesModel_run_192 (by decide) ?_
    exact hr89 v1 v3 v4 v5 ST _ _ hP hS ls (lv_sub hl [0, 1, 2, 3, 4] rfl) hf
  have hL157 : ∀ (r89 : Int32 → Int32 → Int32 → Int32 → ySt → Option (Int32 × ySt)) (hr89 : ∀ (v1 : Int32) (v3 : Int32) (v4 : Int32) (v5 : Int32) (ST : ySt), ∀ (H : Heap) (locs : List Loc), va_P X.1 vwCl (wY X ad ST) H → va_S (yA ad) s.heap H locs → ∀ (ls : Array Slot), lv_has ls 7 [(0, .ref (ad 0)), (1, .int v1), (3, .int v3), (4, .int v4), (5, .int v5)] → r89 v1 v3 v4 v5 ST = some res → W p l e (headSpec (Cond.code y_MaskEdgesModel_run prog_8_method_33_code 7 (some .int) :: xT) ({ frames := 6, cells := 0, slots := 0, locals := 148 } : Room)).room s m args below meth c H locs 0 0 Q (F0 m 89 ls [])), ∀ (v1 : Int32) (v3 : Int32) (v4 : Int32) (v6 : Int32) (s0 : Int32) (ST : ySt), ∀ (H : Heap) (locs : List Loc), va_P X.1 vwCl (wY X ad ST) H → va_S (yA ad) s.heap H locs → ∀ (ls : Array Slot), lv_has ls 7 [(0, .ref (ad 0)), (1, .int v1), (3, .int v3), (4, .int v4), (6, .int v6)] → f_MaskEdgesModel_run_157 r89 v1 v3 v4 v6 s0 ST = some res → W p l e (headSpec (Cond.code y_MaskEdgesModel_run prog_8_method_33_code 7 (some .int) :: xT) ({ frames := 6, cells := 0, slots := 0, locals := 148 } : Room)).room s m args below meth c H locs 0 0 Q (F0 m 157 ls [.int s0]) := by
    intro r89 hr89 v1 v3 v4 v6 s0 ST H locs hP hS ls hl hf
    unfold f_MaskEdgesModel_run_157 at hf
    refine lv_istore (lv' := [(5, .int s0), (0, .ref (ad 0)), (1, .int v1), (3, .int v3), (4, .int v4), (6, .int v6)]) hx hb d_MaskEdgesModel_run_157 hl (by decide) rfl (fun ls hl => ?_)
    refine lv_iload hx hb d_MaskEdgesModel_run_159 (lv_at hl 0 rfl) ?_
    refine lv_if_eq (tgt := 188) hx hb d_MaskEdgesModel_run_161 (by decide) (fun hc => ?_) (fun hc => ?_)
    · replace hf := x_t hc hf
      refine lv_aload_n hx hb d_MaskEdgesModel_run_188 rfl (lv_at hl 1 rfl) ?_
      obtain ⟨c189, e189, hf⟩ := x_b hf
      refine xc (va_runV (As := []) (rest := []) ⟨hx, hb, hml, hown, ht⟩ (c_MaskEdgesModel_moveBack l X ad ST hP hA e189) (cwV 0 ht (xgV xw_615 xw_616 xw_33 xw_43 xw_617) rfl rfl rfl (by decide +kernel) ⟨Nat.le_of_ble_eq_true rfl, Nat.le_of_ble_eq_true rfl⟩) (xPV hKK (va_recv hK hP (ci := 6) (q0 := 0) rfl yg0)) rfl rfl hl.1 rfl (lv_room (Nat.le_of_ble_eq_true rfl)) d_MaskEdgesModel_run_189 ⟨Nat.zero_le _, Nat.zero_le _⟩) (fun H1 L hq hz => ?_)
      replace hS := xS_call hS hz (fun _ h => h)
      replace hP : va_P X.1 vwCl (wY X ad c189) H1 := hq
      clear hq hz
      refine W.eq (g2 := F0 m 192 ls []) rfl ?_
      exact (hL192 _ hr89) v1 v3 v4 s0 c189 _ _ hP hS ls (lv_sub hl [1, 2, 3, 4, 0] rfl) hf
    · replace hf := x_f hc hf
      refine lv_aload_n hx hb d_MaskEdgesModel_run_164 rfl (lv_at hl 1 rfl) ?_
      refine lv_dup hx hb d_MaskEdgesModel_run_165 rfl ?_
      refine va_get (D := X.1) (ci := 6) (v := .int (Y_kept ST)) (C := "MaskEdgesModel") (T := F_MaskEdgesModel) (N := 28) hx hb ht in_MaskEdgesModel hown hK hP 0 yg0 rfl 26 (by decide) (ht _ xw_473) (fun _ h9 => h9) rfl d_MaskEdgesModel_run_166 ?_
      refine lv_iconst (v := (1 : Int32)) hx hb d_MaskEdgesModel_run_169 (by decide) ?_
      refine lv_iadd hx hb d_MaskEdgesModel_run_170 ?_
      refine va_put (D := X.1) (ci := 6) (v := .int ((Y_kept ST) + (1 : Int32))) (ty := .int) (C := "MaskEdgesModel") (T := F_MaskEdgesModel) (N := 28) hx hb ht in_MaskEdgesModel ty_MaskEdgesModel tyk_MaskEdgesModel nm_MaskEdgesModel hown hK hP (yD hA) hS 0 yg0 rfl 26 (by decide) (ht _ xw_473) (fun _ h9 => h9) rfl (by decide +kernel) rfl rfl (Nat.le_of_ble_eq_true rfl) d_MaskEdgesModel_run_171 (fun H locs hP _ hS => ?_)
      replace hP : va_P X.1 vwCl (wY X ad (Y_u_kept ST ((Y_kept ST) + (1 : Int32)))) H := xeq ym_kept hP
      refine lv_aload_n hx hb d_MaskEdgesModel_run_174 rfl (lv_at hl 1 rfl) ?_
      refine va_get (D := X.1) (ci := 6) (v := .ref (ad 22)) (C := "MaskEdgesModel") (T := F_MaskEdgesModel) (N := 28) hx hb ht in_MaskEdgesModel hown hK hP 0 yg0 rfl 27 (by decide) (ht _ xw_474) (fun _ h9 => h9) rfl d_MaskEdgesModel_run_175 ?_
      refine lv_aload_n hx hb d_MaskEdgesModel_run_178 rfl (lv_at hl 1 rfl) ?_
      refine va_get (D := X.1) (ci := 6) (v := .int (Y_kept (Y_u_kept ST ((Y_kept ST) + (1 : Int32))))) (C := "MaskEdgesModel") (T := F_MaskEdgesModel) (N := 28) hx hb ht in_MaskEdgesModel hown hK hP 0 yg0 rfl 26 (by decide) (ht _ xw_473) (fun _ h9 => h9) rfl d_MaskEdgesModel_run_179 ?_
      refine lv_iload hx hb d_MaskEdgesModel_run_182 (lv_at hl 5 rfl) ?_
      obtain ⟨g184, hf⟩ := x_g hf
      refine va_iast hx hb hK hP (yD hA) hS 22 0 yg22 rfl (xin_in g184) d_MaskEdgesModel_run_184 (fun H locs hP _ hS => ?_)
      replace hP : va_P X.1 vwCl (wY X ad (Y_u_worsts (Y_u_kept ST ((Y_kept ST) + (1 : Int32))) (upd (Y_worsts (Y_u_kept ST ((Y_kept ST) + (1 : Int32)))) (Y_kept (Y_u_kept ST ((Y_kept ST) + (1 : Int32)))).toNatClampNeg v6))) H := xeq ym_worsts hP
      refine lv_goto (tgt := 192) hx hb d_MaskEdgesModel_run_185 (by decide) ?_
      exact (hL192 _ hr89) v1 v3 v4 s0 (Y_u_worsts (Y_u_kept ST ((Y_kept ST) + (1 : Int32))) (upd (Y_worsts (Y_u_kept ST ((Y_kept ST) + (1 : Int32)))) (Y_kept (Y_u_kept ST ((Y_kept ST) + (1 : Int32)))).toNatClampNeg v6)) _ _ hP hS ls (lv_sub hl [1, 2, 3, 4, 0] rfl) hf
  have hL156 : ∀ (r89 : Int32 → Int32 → Int32 → Int32 → ySt → Option (Int32 × ySt)) (hr89 : ∀ (v1 : Int32) (v3 : Int32) (v4 : Int32) (v5 : Int32) (ST : ySt), ∀ (H : Heap) (locs : List Loc), va_P X.1 vwCl (wY X ad ST) H → va_S (yA ad) s.heap H locs → ∀ (ls : Array Slot), lv_has ls 7 [(0, .ref (ad 0)), (1, .int v1), (3, .int v3), (4, .int v4), (5, .int v5)] → r89 v1 v3 v4 v5 ST = some res → W p l e (headSpec (Cond.code y_MaskEdgesModel_run prog_8_method_33_code 7 (some .int) :: xT) ({ frames := 6, cells := 0, slots := 0, locals := 148 } : Room)).room s m args below meth c H locs 0 0 Q (F0 m 89 ls [])), ∀ (v1 : Int32) (v3 : Int32) (v4 : Int32) (v6 : Int32) (ST : ySt), ∀ (H : Heap) (locs : List Loc), va_P X.1 vwCl (wY X ad ST) H → va_S (yA ad) s.heap H locs → ∀ (ls : Array Slot), lv_has ls 7 [(0, .ref (ad 0)), (1, .int v1), (3, .int v3), (4, .int v4), (6, .int v6)] → f_MaskEdgesModel_run_156 r89 v1 v3 v4 v6 ST = some res → W p l e (headSpec (Cond.code y_MaskEdgesModel_run prog_8_method_33_code 7 (some .int) :: xT) ({ frames := 6, cells := 0, slots := 0, locals := 148 } : Room)).room s m args below meth c H locs 0 0 Q (F0 m 156 ls []) := by
    intro r89 hr89 v1 v3 v4 v6 ST H locs hP hS ls hl hf
    unfold f_MaskEdgesModel_run_156 at hf
    refine lv_iconst (v := (0 : Int32)) hx hb d_MaskEdgesModel_run_156 (by decide) ?_
    exact (hL157 _ hr89) v1 v3 v4 v6 (0 : Int32) ST _ _ hP hS ls (lv_sub hl [0, 1, 2, 3, 4] rfl) hf
  have hL89 : ∀ (n : Nat), ∀ (v1 : Int32) (v3 : Int32) (v4 : Int32) (v5 : Int32) (ST : ySt), ∀ (H : Heap) (locs : List Loc), va_P X.1 vwCl (wY X ad ST) H → va_S (yA ad) s.heap H locs → ∀ (ls : Array Slot), lv_has ls 7 [(0, .ref (ad 0)), (1, .int v1), (3, .int v3), (4, .int v4), (5, .int v5)] → (xloop (fun r => f_MaskEdgesModel_run_89 r) (fun _ _ _ _ _ => none) n) v1 v3 v4 v5 ST = some res → W p l e (headSpec (Cond.code y_MaskEdgesModel_run prog_8_method_33_code 7 (some .int) :: xT) ({ frames := 6, cells := 0, slots := 0, locals := 148 } : Room)).room s m args below meth c H locs 0 0 Q (F0 m 89 ls []) := by
    intro n
    induction n with
    | zero => intro v1 v3 v4 v5 ST H locs hP hS ls hl hf; cases hf
    | succ n ih =>
      intro v1 v3 v4 v5 ST H locs hP hS ls hl hf
      replace hf : f_MaskEdgesModel_run_89 (xloop (fun r => f_MaskEdgesModel_run_89 r) (fun _ _ _ _ _ => none) n) v1 v3 v4 v5 ST = some res := hf
      have hr89 := ih
      clear ih
      unfold f_MaskEdgesModel_run_89 at hf
      refine lv_iload hx hb d_MaskEdgesModel_run_89 (lv_at hl 4 rfl) ?_
      refine lv_if_eq (tgt := 195) hx hb d_MaskEdgesModel_run_91 (by decide) (fun hc => ?_) (fun hc => ?_)
      · replace hf := x_t hc hf
        refine lv_aload_n hx hb d_MaskEdgesModel_run_195 rfl (lv_at hl 0 rfl) ?_
        refine va_get (D := X.1) (ci := 6) (v := .int (Y_kept ST)) (C := "MaskEdgesModel") (T := F_MaskEdgesModel) (N := 28) hx hb ht in_MaskEdgesModel hown hK hP 0 yg0 rfl 26 (by decide) (ht _ xw_473) (fun _ h9 => h9) rfl d_MaskEdgesModel_run_196 ?_
        replace hf := x_s hf
        subst hf
        subst hQ
        exact W.iret (v := (Y_kept ST)) hx hb hr (fun t ht hW => ⟨⟨rfl, by rw [ht]; exact hP⟩, hS.F ht⟩) hS.2.2 d_MaskEdgesModel_run_199
      · replace hf := x_f hc hf
        refine lv_aload_n hx hb d_MaskEdgesModel_run_94 rfl (lv_at hl 0 rfl) ?_
        refine va_get (D := X.1) (ci := 6) (v := .int (Y_kept ST)) (C := "MaskEdgesModel") (T := F_MaskEdgesModel) (N := 28) hx hb ht in_MaskEdgesModel hown hK hP 0 yg0 rfl 26 (by decide) (ht _ xw_473) (fun _ h9 => h9) rfl d_MaskEdgesModel_run_95 ?_
        refine lv_iload_n hx hb d_MaskEdgesModel_run_98 rfl (lv_at hl 1 rfl) ?_
        refine lv_icmp_ge (tgt := 195) hx hb d_MaskEdgesModel_run_99 (by decide) (fun hc => ?_) (fun hc => ?_)
        · replace hf := x_t hc hf
          refine lv_aload_n hx hb d_MaskEdgesModel_run_195 rfl (lv_at hl 0 rfl) ?_
          refine va_get (D := X.1) (ci := 6) (v := .int (Y_kept ST)) (C := "MaskEdgesModel") (T := F_MaskEdgesModel) (N := 28) hx hb ht in_MaskEdgesModel hown hK hP 0 yg0 rfl 26 (by decide) (ht _ xw_473) (fun _ h9 => h9) rfl d_MaskEdgesModel_run_196 ?_
          replace hf := x_s hf
          subst hf
          subst hQ
          exact W.iret (v := (Y_kept ST)) hx hb hr (fun t ht hW => ⟨⟨rfl, by rw [ht]; exact hP⟩, hS.F ht⟩) hS.2.2 d_MaskEdgesModel_run_199
        · replace hf := x_f hc hf
          refine lv_aload_n hx hb d_MaskEdgesModel_run_102 rfl (lv_at hl 0 rfl) ?_
          refine va_get (D := X.1) (ci := 6) (v := .ref (ad 22)) (C := "MaskEdgesModel") (T := F_MaskEdgesModel) (N := 28) hx hb ht in_MaskEdgesModel hown hK hP 0 yg0 rfl 27 (by decide) (ht _ xw_474) (fun _ h9 => h9) rfl d_MaskEdgesModel_run_103 ?_
          refine lv_aload_n hx hb d_MaskEdgesModel_run_106 rfl (lv_at hl 0 rfl) ?_
          refine va_get (D := X.1) (ci := 6) (v := .int (Y_kept ST)) (C := "MaskEdgesModel") (T := F_MaskEdgesModel) (N := 28) hx hb ht in_MaskEdgesModel hown hK hP 0 yg0 rfl 26 (by decide) (ht _ xw_473) (fun _ h9 => h9) rfl d_MaskEdgesModel_run_107 ?_
          obtain ⟨g110, hf⟩ := x_g hf
          refine va_iald hx hb hK hP 22 0 yg22 rfl (xin_in g110) d_MaskEdgesModel_run_110 ?_
          refine lv_if_le (tgt := 195) hx hb d_MaskEdgesModel_run_111 (by decide) (fun hc => ?_) (fun hc => ?_)
          · replace hf := x_t hc hf
            refine lv_aload_n hx hb d_MaskEdgesModel_run_195 rfl (lv_at hl 0 rfl) ?_
            refine va_get (D := X.1) (ci := 6) (v := .int (Y_kept ST)) (C := "MaskEdgesModel") (T := F_MaskEdgesModel) (N := 28) hx hb ht in_MaskEdgesModel hown hK hP 0 yg0 rfl 26 (by decide) (ht _ xw_473) (fun _ h9 => h9) rfl d_MaskEdgesModel_run_196 ?_
            replace hf := x_s hf
            subst hf
            subst hQ
            exact W.iret (v := (Y_kept ST)) hx hb hr (fun t ht hW => ⟨⟨rfl, by rw [ht]; exact hP⟩, hS.F ht⟩) hS.2.2 d_MaskEdgesModel_run_199
          · replace hf := x_f hc hf
            refine lv_aload_n hx hb d_MaskEdgesModel_run_114 rfl (lv_at hl 0 rfl) ?_
            refine lv_iload_n hx hb d_MaskEdgesModel_run_115 rfl (lv_at hl 2 rfl) ?_
            refine lv_iload hx hb d_MaskEdgesModel_run_116 (lv_at hl 3 rfl) ?_
            obtain ⟨c118, e118, hf⟩ := x_b hf
            refine xc (va_runV (As := [.int v3, .int v4]) (rest := []) ⟨hx, hb, hml, hown, ht⟩ (c_MaskEdgesModel_moveAll l X ad ST v3 v4 hP hA e118) (cwV 2 ht (xgV xw_609 xw_610 xw_32 xw_43 xw_611) rfl rfl rfl (by decide +kernel) ⟨Nat.le_of_ble_eq_true rfl, Nat.le_of_ble_eq_true rfl⟩) (xPV hKK (va_recv hK hP (ci := 6) (q0 := 0) rfl yg0)) rfl rfl hl.1 rfl (lv_room (Nat.le_of_ble_eq_true rfl)) d_MaskEdgesModel_run_118 ⟨Nat.zero_le _, Nat.zero_le _⟩) (fun H1 L hq hz => ?_)
            replace hS := xS_call hS hz (fun _ h => h)
            replace hP : va_P X.1 vwCl (wY X ad c118.2) H1 := hq
            clear hq hz
            refine W.eq (g2 := F0 m 121 ls [.int c118.1]) rfl ?_
            refine lv_istore (lv' := [(5, .int c118.1), (0, .ref (ad 0)), (1, .int v1), (3, .int v3), (4, .int v4)]) hx hb d_MaskEdgesModel_run_121 hl (by decide) rfl (fun ls hl => ?_)
            refine lv_aload_n hx hb d_MaskEdgesModel_run_123 rfl (lv_at hl 1 rfl) ?_
            obtain ⟨c124, e124, hf⟩ := x_b hf
            refine xc (va_runV (As := []) (rest := []) ⟨hx, hb, hml, hown, ht⟩ (c_MaskEdgesModel_make l X ad c118.2 hP hA e124) (cwV 0 ht (xgV xw_559 xw_560 xw_22 xw_43 xw_561) rfl rfl rfl (by decide +kernel) ⟨Nat.le_of_ble_eq_true rfl, Nat.le_of_ble_eq_true rfl⟩) (xPV hKK (va_recv hK hP (ci := 6) (q0 := 0) rfl yg0)) rfl rfl hl.1 rfl (lv_room (Nat.le_of_ble_eq_true rfl)) d_MaskEdgesModel_run_124 ⟨Nat.zero_le _, Nat.zero_le _⟩) (fun H1 L hq hz => ?_)
            replace hS := xS_call hS hz (fun _ h => h)
            replace hP : va_P X.1 vwCl (wY X ad c124) H1 := hq
            clear hq hz
            refine W.eq (g2 := F0 m 127 ls []) rfl ?_
            refine lv_aload_n hx hb d_MaskEdgesModel_run_127 rfl (lv_at hl 1 rfl) ?_
            obtain ⟨c128, e128, hf⟩ := x_b hf
            refine xcR (va_runV (As := []) (rest := []) ⟨hx, hb, hml, hown, ht⟩ (c_MaskEdgesModel_worstNow l X ad c124 hP e128) (cwV 0 ht (xgV xw_606 xw_607 xw_31 xw_43 xw_608) rfl rfl rfl (by decide +kernel) ⟨Nat.le_of_ble_eq_true rfl, Nat.le_of_ble_eq_true rfl⟩) (xPV hKK (va_recv hK hP (ci := 6) (q0 := 0) rfl yg0)) rfl rfl hl.1 rfl (lv_room (Nat.le_of_ble_eq_true rfl)) d_MaskEdgesModel_run_128 ⟨Nat.zero_le _, Nat.zero_le _⟩) ?_
            refine W.eq (g2 := F0 m 131 ls [.int c128]) rfl ?_
            refine lv_istore (lv' := [(6, .int c128), (5, .int c118.1), (0, .ref (ad 0)), (1, .int v1), (3, .int v3), (4, .int v4)]) hx hb d_MaskEdgesModel_run_131 hl (by decide) rfl (fun ls hl => ?_)
            refine lv_iload hx hb d_MaskEdgesModel_run_133 (lv_at hl 1 rfl) ?_
            refine lv_if_eq (tgt := 156) hx hb d_MaskEdgesModel_run_135 (by decide) (fun hc => ?_) (fun hc => ?_)
            · replace hf := x_t hc hf
              exact (hL156 _ hr89) v1 v3 v4 c128 c124 _ _ hP hS ls (lv_sub hl [2, 3, 4, 5, 0] rfl) hf
            · replace hf := x_f hc hf
              refine lv_iload hx hb d_MaskEdgesModel_run_138 (lv_at hl 0 rfl) ?_
              refine lv_aload_n hx hb d_MaskEdgesModel_run_140 rfl (lv_at hl 2 rfl) ?_
              refine va_get (D := X.1) (ci := 6) (v := .ref (ad 22)) (C := "MaskEdgesModel") (T := F_MaskEdgesModel) (N := 28) hx hb ht in_MaskEdgesModel hown hK hP 0 yg0 rfl 27 (by decide) (ht _ xw_474) (fun _ h9 => h9) rfl d_MaskEdgesModel_run_141 ?_
              refine lv_aload_n hx hb d_MaskEdgesModel_run_144 rfl (lv_at hl 2 rfl) ?_
              refine va_get (D := X.1) (ci := 6) (v := .int (Y_kept c124)) (C := "MaskEdgesModel") (T := F_MaskEdgesModel) (N := 28) hx hb ht in_MaskEdgesModel hown hK hP 0 yg0 rfl 26 (by decide) (ht _ xw_473) (fun _ h9 => h9) rfl d_MaskEdgesModel_run_145 ?_
              obtain ⟨g148, hf⟩ := x_g hf
              refine va_iald hx hb hK hP 22 0 yg22 rfl (xin_in g148) d_MaskEdgesModel_run_148 ?_
              refine lv_icmp_gt (tgt := 156) hx hb d_MaskEdgesModel_run_149 (by decide) (fun hc => ?_) (fun hc => ?_)
              · replace hf := x_t hc hf
                exact (hL156 _ hr89) v1 v3 v4 c128 c124 _ _ hP hS ls (lv_sub hl [2, 3, 4, 5, 0] rfl) hf
              · replace hf := x_f hc hf
                refine lv_iconst (v := (1 : Int32)) hx hb d_MaskEdgesModel_run_152 (by decide) ?_
                refine lv_goto (tgt := 157) hx hb d_MaskEdgesModel_run_153 (by decide) ?_
                exact (hL157 _ hr89) v1 v3 v4 c128 (1 : Int32) c124 _ _ hP hS ls (lv_sub hl [2, 3, 4, 5, 0] rfl) hf
  unfold f_MaskEdgesModel_run at hf
  refine lv_iload_n hx hb d_MaskEdgesModel_run_0 rfl (lv_at hl 1 rfl) ?_
  refine lv_i2l hx hb d_MaskEdgesModel_run_1 rfl ?_
  refine lv_lconst (v := (1 : Int64)) hx hb d_MaskEdgesModel_run_2 (by decide) ?_
  refine lv_ldc2 (v := (20 : Int64)) hx hb hown (ht _ xw_524) d_MaskEdgesModel_run_3 ?_
  obtain ⟨c6, e6, hf⟩ := x_b hf
  refine xcR (va_runS (As := [.long v1.toInt64, .long (1 : Int64), .long (20 : Int64)]) (rest := []) ⟨hx, hb, hml, hown, ht⟩ (c_MaskEdgesModel_isBetween l X v1.toInt64 (1 : Int64) (20 : Int64) e6) (cwS 3 ht (xgS xw_512 xw_513 xw_43 xw_514) rfl rfl rfl (by decide +kernel) ⟨Nat.le_of_ble_eq_true rfl, Nat.le_of_ble_eq_true rfl⟩) (xPS hKK) rfl rfl hl.1 rfl (lv_room (Nat.le_of_ble_eq_true rfl)) d_MaskEdgesModel_run_6 ⟨Nat.zero_le _, Nat.zero_le _⟩) ?_
  refine W.eq (g2 := F0 m 9 ls [.int c6]) rfl ?_
  refine lv_if_eq (tgt := 49) hx hb d_MaskEdgesModel_run_9 (by decide) (fun hc => ?_) (fun hc => ?_)
  · replace hf := x_t hc hf
    refine lv_bipush (v := (-2 : Int32)) hx hb d_MaskEdgesModel_run_49 (by decide) ?_
    replace hf := x_s hf
    subst hf
    subst hQ
    exact W.iret (v := (-2 : Int32)) hx hb hr (fun t ht hW => ⟨⟨rfl, by rw [ht]; exact hP⟩, hS.F ht⟩) hS.2.2 d_MaskEdgesModel_run_51
  · replace hf := x_f hc hf
    refine lv_iload_n hx hb d_MaskEdgesModel_run_12 rfl (lv_at hl 2 rfl) ?_
    refine lv_i2l hx hb d_MaskEdgesModel_run_13 rfl ?_
    refine lv_lconst (v := (1 : Int64)) hx hb d_MaskEdgesModel_run_14 (by decide) ?_
    refine lv_ldc2 (v := (100000 : Int64)) hx hb hown (ht _ xw_604) d_MaskEdgesModel_run_15 ?_
    obtain ⟨c18, e18, hf⟩ := x_b hf
    refine xcR (va_runS (As := [.long v2.toInt64, .long (1 : Int64), .long (100000 : Int64)]) (rest := []) ⟨hx, hb, hml, hown, ht⟩ (c_MaskEdgesModel_isBetween l X v2.toInt64 (1 : Int64) (100000 : Int64) e18) (cwS 3 ht (xgS xw_512 xw_513 xw_43 xw_514) rfl rfl rfl (by decide +kernel) ⟨Nat.le_of_ble_eq_true rfl, Nat.le_of_ble_eq_true rfl⟩) (xPS hKK) rfl rfl hl.1 rfl (lv_room (Nat.le_of_ble_eq_true rfl)) d_MaskEdgesModel_run_18 ⟨Nat.zero_le _, Nat.zero_le _⟩) ?_
    refine W.eq (g2 := F0 m 21 ls [.int c18]) rfl ?_
    refine lv_if_eq (tgt := 49) hx hb d_MaskEdgesModel_run_21 (by decide) (fun hc => ?_) (fun hc => ?_)
    · replace hf := x_t hc hf
      refine lv_bipush (v := (-2 : Int32)) hx hb d_MaskEdgesModel_run_49 (by decide) ?_
      replace hf := x_s hf
      subst hf
      subst hQ
      exact W.iret (v := (-2 : Int32)) hx hb hr (fun t ht hW => ⟨⟨rfl, by rw [ht]; exact hP⟩, hS.F ht⟩) hS.2.2 d_MaskEdgesModel_run_51
    · replace hf := x_f hc hf
      refine lv_iload_n hx hb d_MaskEdgesModel_run_24 rfl (lv_at hl 3 rfl) ?_
      refine lv_i2l hx hb d_MaskEdgesModel_run_25 rfl ?_
      refine lv_lconst (v := (1 : Int64)) hx hb d_MaskEdgesModel_run_26 (by decide) ?_
      refine lv_ldc2 (v := (4 : Int64)) hx hb hown (ht _ xw_605) d_MaskEdgesModel_run_27 ?_
      obtain ⟨c30, e30, hf⟩ := x_b hf
      refine xcR (va_runS (As := [.long v3.toInt64, .long (1 : Int64), .long (4 : Int64)]) (rest := []) ⟨hx, hb, hml, hown, ht⟩ (c_MaskEdgesModel_isBetween l X v3.toInt64 (1 : Int64) (4 : Int64) e30) (cwS 3 ht (xgS xw_512 xw_513 xw_43 xw_514) rfl rfl rfl (by decide +kernel) ⟨Nat.le_of_ble_eq_true rfl, Nat.le_of_ble_eq_true rfl⟩) (xPS hKK) rfl rfl hl.1 rfl (lv_room (Nat.le_of_ble_eq_true rfl)) d_MaskEdgesModel_run_30 ⟨Nat.zero_le _, Nat.zero_le _⟩) ?_
      refine W.eq (g2 := F0 m 33 ls [.int c30]) rfl ?_
      refine lv_if_eq (tgt := 49) hx hb d_MaskEdgesModel_run_33 (by decide) (fun hc => ?_) (fun hc => ?_)
      · replace hf := x_t hc hf
        refine lv_bipush (v := (-2 : Int32)) hx hb d_MaskEdgesModel_run_49 (by decide) ?_
        replace hf := x_s hf
        subst hf
        subst hQ
        exact W.iret (v := (-2 : Int32)) hx hb hr (fun t ht hW => ⟨⟨rfl, by rw [ht]; exact hP⟩, hS.F ht⟩) hS.2.2 d_MaskEdgesModel_run_51
      · replace hf := x_f hc hf
        refine lv_iload hx hb d_MaskEdgesModel_run_36 (lv_at hl 4 rfl) ?_
        refine lv_i2l hx hb d_MaskEdgesModel_run_38 rfl ?_
        refine lv_lconst (v := (1 : Int64)) hx hb d_MaskEdgesModel_run_39 (by decide) ?_
        refine lv_ldc2 (v := (6 : Int64)) hx hb hown (ht _ xw_525) d_MaskEdgesModel_run_40 ?_
        obtain ⟨c43, e43, hf⟩ := x_b hf
        refine xcR (va_runS (As := [.long v4.toInt64, .long (1 : Int64), .long (6 : Int64)]) (rest := []) ⟨hx, hb, hml, hown, ht⟩ (c_MaskEdgesModel_isBetween l X v4.toInt64 (1 : Int64) (6 : Int64) e43) (cwS 3 ht (xgS xw_512 xw_513 xw_43 xw_514) rfl rfl rfl (by decide +kernel) ⟨Nat.le_of_ble_eq_true rfl, Nat.le_of_ble_eq_true rfl⟩) (xPS hKK) rfl rfl hl.1 rfl (lv_room (Nat.le_of_ble_eq_true rfl)) d_MaskEdgesModel_run_43 ⟨Nat.zero_le _, Nat.zero_le _⟩) ?_
        refine W.eq (g2 := F0 m 46 ls [.int c43]) rfl ?_
        refine lv_if_ne (tgt := 52) hx hb d_MaskEdgesModel_run_46 (by decide) (fun hc => ?_) (fun hc => ?_)
        · replace hf := x_f hc hf
          refine lv_aload_n hx hb d_MaskEdgesModel_run_52 rfl (lv_at hl 0 rfl) ?_
          refine va_get (D := X.1) (ci := 6) (v := .int (Y_pieces ST)) (C := "MaskEdgesModel") (T := F_MaskEdgesModel) (N := 28) hx hb ht in_MaskEdgesModel hown hK hP 0 yg0 rfl 9 (by decide) (ht _ xw_456) (fun _ h9 => h9) rfl d_MaskEdgesModel_run_53 ?_
          refine lv_if_ne (tgt := 62) hx hb d_MaskEdgesModel_run_56 (by decide) (fun hc => ?_) (fun hc => ?_)
          · replace hf := x_f hc hf
            refine lv_aload_n hx hb d_MaskEdgesModel_run_62 rfl (lv_at hl 0 rfl) ?_
            refine lv_iload_n hx hb d_MaskEdgesModel_run_63 rfl (lv_at hl 2 rfl) ?_
            refine va_put (D := X.1) (ci := 6) (v := .int v2) (ty := .int) (C := "MaskEdgesModel") (T := F_MaskEdgesModel) (N := 28) hx hb ht in_MaskEdgesModel ty_MaskEdgesModel tyk_MaskEdgesModel nm_MaskEdgesModel hown hK hP (yD hA) hS 0 yg0 rfl 8 (by decide) (ht _ xw_455) (fun _ h9 => h9) rfl (by decide +kernel) rfl rfl (Nat.le_of_ble_eq_true rfl) d_MaskEdgesModel_run_64 (fun H locs hP _ hS => ?_)
            replace hP : va_P X.1 vwCl (wY X ad (Y_u_threshold ST v2)) H := xeq ym_threshold hP
            refine lv_aload_n hx hb d_MaskEdgesModel_run_67 rfl (lv_at hl 0 rfl) ?_
            obtain ⟨c68, e68, hf⟩ := x_b hf
            refine xc (va_runV (As := []) (rest := []) ⟨hx, hb, hml, hown, ht⟩ (c_MaskEdgesModel_make l X ad (Y_u_threshold ST v2) hP hA e68) (cwV 0 ht (xgV xw_559 xw_560 xw_22 xw_43 xw_561) rfl rfl rfl (by decide +kernel) ⟨Nat.le_of_ble_eq_true rfl, Nat.le_of_ble_eq_true rfl⟩) (xPV hKK (va_recv hK hP (ci := 6) (q0 := 0) rfl yg0)) rfl rfl hl.1 rfl (lv_room (Nat.le_of_ble_eq_true rfl)) d_MaskEdgesModel_run_68 ⟨Nat.zero_le _, Nat.zero_le _⟩) (fun H1 L hq hz => ?_)
            replace hS := xS_call hS hz (fun _ h => h)
            replace hP : va_P X.1 vwCl (wY X ad c68) H1 := hq
            clear hq hz
            refine W.eq (g2 := F0 m 71 ls []) rfl ?_
            refine lv_aload_n hx hb d_MaskEdgesModel_run_71 rfl (lv_at hl 0 rfl) ?_
            refine lv_iconst (v := (0 : Int32)) hx hb d_MaskEdgesModel_run_72 (by decide) ?_
            refine va_put (D := X.1) (ci := 6) (v := .int (0 : Int32)) (ty := .int) (C := "MaskEdgesModel") (T := F_MaskEdgesModel) (N := 28) hx hb ht in_MaskEdgesModel ty_MaskEdgesModel tyk_MaskEdgesModel nm_MaskEdgesModel hown hK hP (yD hA) hS 0 yg0 rfl 26 (by decide) (ht _ xw_473) (fun _ h9 => h9) rfl (by decide +kernel) rfl rfl (Nat.le_of_ble_eq_true rfl) d_MaskEdgesModel_run_73 (fun H locs hP _ hS => ?_)
            replace hP : va_P X.1 vwCl (wY X ad (Y_u_kept c68 (0 : Int32))) H := xeq ym_kept hP
            refine lv_aload_n hx hb d_MaskEdgesModel_run_76 rfl (lv_at hl 0 rfl) ?_
            refine va_get (D := X.1) (ci := 6) (v := .ref (ad 22)) (C := "MaskEdgesModel") (T := F_MaskEdgesModel) (N := 28) hx hb ht in_MaskEdgesModel hown hK hP 0 yg0 rfl 27 (by decide) (ht _ xw_474) (fun _ h9 => h9) rfl d_MaskEdgesModel_run_77 ?_
            refine lv_iconst (v := (0 : Int32)) hx hb d_MaskEdgesModel_run_80 (by decide) ?_
            refine lv_aload_n hx hb d_MaskEdgesModel_run_81 rfl (lv_at hl 0 rfl) ?_
            obtain ⟨c82, e82, hf⟩ := x_b hf
            refine xcR (va_runV (As := []) (rest := [.int (0 : Int32), .ref (ad 22)]) ⟨hx, hb, hml, hown, ht⟩ (c_MaskEdgesModel_worstNow l X ad (Y_u_kept c68 (0 : Int32)) hP e82) (cwV 0 ht (xgV xw_606 xw_607 xw_31 xw_43 xw_608) rfl rfl rfl (by decide +kernel) ⟨Nat.le_of_ble_eq_true rfl, Nat.le_of_ble_eq_true rfl⟩) (xPV hKK (va_recv hK hP (ci := 6) (q0 := 0) rfl yg0)) rfl rfl hl.1 rfl (lv_room (Nat.le_of_ble_eq_true rfl)) d_MaskEdgesModel_run_82 ⟨Nat.zero_le _, Nat.zero_le _⟩) ?_
            refine W.eq (g2 := F0 m 85 ls [.int c82, .int (0 : Int32), .ref (ad 22)]) rfl ?_
            obtain ⟨g85, hf⟩ := x_g hf
            refine va_iast hx hb hK hP (yD hA) hS 22 0 yg22 rfl (xin_in g85) d_MaskEdgesModel_run_85 (fun H locs hP _ hS => ?_)
            replace hP : va_P X.1 vwCl (wY X ad (Y_u_worsts (Y_u_kept c68 (0 : Int32)) (upd (Y_worsts (Y_u_kept c68 (0 : Int32))) (0 : Int32).toNatClampNeg c82))) H := xeq ym_worsts hP
            refine lv_iconst (v := (1 : Int32)) hx hb d_MaskEdgesModel_run_86 (by decide) ?_
            refine lv_istore (lv' := [(5, .int (1 : Int32)), (0, .ref (ad 0)), (1, .int v1), (2, .int v2), (3, .int v3), (4, .int v4)]) hx hb d_MaskEdgesModel_run_87 hl (by decide) rfl (fun ls hl => ?_)
            exact (hL89 100000) v1 v3 v4 (1 : Int32) (Y_u_worsts (Y_u_kept c68 (0 : Int32)) (upd (Y_worsts (Y_u_kept c68 (0 : Int32))) (0 : Int32).toNatClampNeg c82)) _ _ hP hS ls (lv_sub hl [1, 2, 4, 5, 0] rfl) hf
          · replace hf := x_t hc hf
            refine lv_bipush (v := (-3 : Int32)) hx hb d_MaskEdgesModel_run_59 (by decide) ?_
            replace hf := x_s hf
            subst hf
            subst hQ
            exact W.iret (v := (-3 : Int32)) hx hb hr (fun t ht hW => ⟨⟨rfl, by rw [ht]; exact hP⟩, hS.F ht⟩) hS.2.2 d_MaskEdgesModel_run_61
        · replace hf := x_t hc hf
          refine lv_bipush (v := (-2 : Int32)) hx hb d_MaskEdgesModel_run_49 (by decide) ?_
          replace hf := x_s hf
          subst hf
          subst hQ
          exact W.iret (v := (-2 : Int32)) hx hb hr (fun t ht hW => ⟨⟨rfl, by rw [ht]; exact hP⟩, hS.F ht⟩) hS.2.2 d_MaskEdgesModel_run_51
