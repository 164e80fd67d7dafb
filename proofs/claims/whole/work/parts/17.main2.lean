def f_MaskEdges_errorOf_121 (ST : xSt) (r121 : Int32 → Int32 → Int32 → Int32 → Int32 → Int32 → Int32 → Option (Int32)) (k178 : Int32 → Int32 → Option (Int32)) (v2 : Int32) (v3 : Int32) (v5 : Int32) (v6 : Int32) (v7 : Int32) (v8 : Int32) (v9 : Int32) : Option (Int32) :=
  if (8 : Int32) ≤ v9 then
  k178 v3 v9
else
  (f_MaskEdges_onGrid v7 v8).bind fun c132 =>
    if c132 = 0 then
    k178 v3 v9
  else
    (f_Exposure_printsAt (X_exposure ST) (X_mask ST) v7 v8 v2).bind fun c151 =>
      if c151 = v3 then
      r121 v2 v3 v5 v6 (v7 + v5) (v8 + v6) (v9 + (1 : Int32))
    else
      k178 v3 v9
def f_MaskEdges_errorOf_178 (ST : xSt) (v3 : Int32) (v9 : Int32) : Option (Int32) :=
  if v3 = 0 then
  some (-v9)
else
  some v9
def f_MaskEdges_errorOf_116 (ST : xSt) (v2 : Int32) (v3 : Int32) (v5 : Int32) (v6 : Int32) (v7 : Int32) (s0 : Int32) : Option (Int32) :=
  (xloop (fun r => f_MaskEdges_errorOf_121 ST r (f_MaskEdges_errorOf_178 ST)) (fun _ _ _ _ _ _ _ => none) 100000) v2 v3 v5 v6 v7 s0 (0 : Int32)
def f_MaskEdges_errorOf_96 (ST : xSt) (kv1 : Nat) (v2 : Int32) (v3 : Int32) (v5 : Int32) (v6 : Int32) (s0 : Int32) : Option (Int32) :=
  if v3 = 0 then
  (f_MaskEdges_errorOf_116 ST) v2 v3 v5 v6 s0 (Piece_insideY (X_pieces ST kv1))
else
  (f_MaskEdges_errorOf_116 ST) v2 v3 v5 v6 s0 ((Piece_insideY (X_pieces ST kv1)) + v6)
def f_MaskEdges_errorOf_76 (ST : xSt) (kv1 : Nat) (v2 : Int32) (v3 : Int32) (v5 : Int32) (s0 : Int32) : Option (Int32) :=
  if v3 = 0 then
  (f_MaskEdges_errorOf_96 ST) kv1 v2 v3 v5 s0 (Piece_insideX (X_pieces ST kv1))
else
  (f_MaskEdges_errorOf_96 ST) kv1 v2 v3 v5 s0 ((Piece_insideX (X_pieces ST kv1)) + v5)
def f_MaskEdges_errorOf_61 (ST : xSt) (kv1 : Nat) (v2 : Int32) (v3 : Int32) (v4 : Int32) (s0 : Int32) : Option (Int32) :=
  if (Piece_alongX (X_pieces ST kv1)) = 0 then
  (f_MaskEdges_errorOf_76 ST) kv1 v2 v3 s0 (0 : Int32)
else
  (f_MaskEdges_errorOf_76 ST) kv1 v2 v3 s0 v4
def f_MaskEdges_errorOf_46 (ST : xSt) (kv1 : Nat) (v2 : Int32) (v3 : Int32) (s0 : Int32) : Option (Int32) :=
  if (Piece_alongX (X_pieces ST kv1)) = 0 then
  (f_MaskEdges_errorOf_61 ST) kv1 v2 v3 s0 s0
else
  (f_MaskEdges_errorOf_61 ST) kv1 v2 v3 s0 (0 : Int32)
def f_MaskEdges_errorOf (ST : xSt) (k1 : Nat) (v2 : Int32) : Option (Int32) :=
  (f_Piece_isFlat (X_pieces ST k1)).bind fun c1 =>
  if c1 = 0 then
  (f_Exposure_printsAt (X_exposure ST) (X_mask ST) (Piece_insideX (X_pieces ST k1)) (Piece_insideY (X_pieces ST k1)) v2).bind fun c26 =>
    if c26 = 0 then
    (f_MaskEdges_errorOf_46 ST) k1 v2 c26 (-(Piece_outward (X_pieces ST k1)))
  else
    (f_MaskEdges_errorOf_46 ST) k1 v2 c26 (Piece_outward (X_pieces ST k1))
else
  some (0 : Int32)
set_option maxHeartbeats 4000000 in
set_option maxRecDepth 100000 in
theorem c_MaskEdges_errorOf (l : Launch) (X : xG) {H : Heap} (ad : Nat → Nat) (ST : xSt) (k1 : Nat) (v2 : Int32) {res : Int32} (hP : va_P X.1 vwCl (wX X ad ST) H) (hk1 : k1 < 120) (hf : f_MaskEdges_errorOf ST k1 v2 = some res) : xM l y_MaskEdges_errorOf (Cond.code y_MaskEdges_errorOf prog_1_method_27_code 10 (some .int) :: xT) ({ frames := 4, cells := 0, slots := 0, locals := 100 } : Room) (xK X) [.ref (ad 0), .ref (ad (28 + k1)), .int v2] H xNo (some (.int res)) (fun H1 => H1 = H) := by
  refine Met.ofW (cc := prog_1_method_27_code) (maxL := 10) (ret := (some .int)) (by decide) rfl ?_
  intro p e s m args below meth c s₁ B hml hv
  obtain ⟨ha, hH, hKK⟩ := hv
  subst hH
  have hx := B.exec
  have hb := B.bytes
  have hr := B.returns
  have ht : ∀ w ∈ xT, w.before args s = true := fun w h => atoms_spec (ws := (Cond.code y_MaskEdges_errorOf prog_1_method_27_code 10 (some .int) :: xT)) B.pre w (List.mem_cons_of_mem _ h)
  have hown : s.vm.findClass "MaskEdges" = some m.cls := findClass_of_methodNamed B.named
  have hlocks := B.notSynchronized
  have hK := hKK.1
  rw [show entryFrame m args 10 = entryFrame m ([.ref (ad 0), .ref (ad (28 + k1)), .int v2] : List Value).toArray 10 from by rw [ha]]
  clear ha
  have hl := lv_entry ([.ref (ad 0), .ref (ad (28 + k1)), .int v2]) (n := 10) (Nat.le_of_ble_eq_true rfl)
  rw [lg_entry_eq]
  generalize (lg_sl ([.ref (ad 0), .ref (ad (28 + k1)), .int v2]) ++ List.replicate (10 - (lg_sl ([.ref (ad 0), .ref (ad (28 + k1)), .int v2])).length) Slot.unset).toArray = ls at hl ⊢
  replace hl : lv_has ls 10 [(0, .ref (ad 0)), (1, .ref (ad (28 + k1))), (2, .int v2)] := hl
  refine x_Q (fun Q hQ => ?_)
  have hL121 : ∀ (k178 : Int32 → Int32 → Option (Int32)) (hk178 : ∀ (v3 : Int32) (v9 : Int32), ∀ (ls : Array Slot), lv_has ls 10 [(3, .int v3), (9, .int v9)] → k178 v3 v9 = some res → W p l e (headSpec (Cond.code y_MaskEdges_errorOf prog_1_method_27_code 10 (some .int) :: xT) ({ frames := 4, cells := 0, slots := 0, locals := 100 } : Room)).room s m args below meth c s.heap [] 0 0 Q (F0 m 178 ls [])), ∀ (n : Nat), ∀ (v2 : Int32) (v3 : Int32) (v5 : Int32) (v6 : Int32) (v7 : Int32) (v8 : Int32) (v9 : Int32), ∀ (ls : Array Slot), lv_has ls 10 [(0, .ref (ad 0)), (2, .int v2), (3, .int v3), (5, .int v5), (6, .int v6), (7, .int v7), (8, .int v8), (9, .int v9)] → (xloop (fun r => f_MaskEdges_errorOf_121 ST r k178) (fun _ _ _ _ _ _ _ => none) n) v2 v3 v5 v6 v7 v8 v9 = some res → W p l e (headSpec (Cond.code y_MaskEdges_errorOf prog_1_method_27_code 10 (some .int) :: xT) ({ frames := 4, cells := 0, slots := 0, locals := 100 } : Room)).room s m args below meth c s.heap [] 0 0 Q (F0 m 121 ls []) := by
    intro k178 hk178
    intro n
    induction n with
    | zero => intro v2 v3 v5 v6 v7 v8 v9 ls hl hf; cases hf
    | succ n ih =>
      intro v2 v3 v5 v6 v7 v8 v9 ls hl hf
      replace hf : f_MaskEdges_errorOf_121 ST (xloop (fun r => f_MaskEdges_errorOf_121 ST r k178) (fun _ _ _ _ _ _ _ => none) n) k178 v2 v3 v5 v6 v7 v8 v9 = some res := hf
      have hr121 := ih
      clear ih
      unfold f_MaskEdges_errorOf_121 at hf
      refine lv_iload hx hb d_MaskEdges_errorOf_121 (lv_at hl 7 rfl) ?_
      refine lv_bipush (v := (8 : Int32)) hx hb d_MaskEdges_errorOf_123 (by decide) ?_
      refine lv_icmp_ge (tgt := 178) hx hb d_MaskEdges_errorOf_125 (by decide) (fun hc => ?_) (fun hc => ?_)
      · replace hf := x_t hc hf
        exact hk178 v3 v9  ls (lv_sub hl [2, 7] rfl) hf
      · replace hf := x_f hc hf
        refine lv_iload hx hb d_MaskEdges_errorOf_128 (lv_at hl 5 rfl) ?_
        refine lv_iload hx hb d_MaskEdges_errorOf_130 (lv_at hl 6 rfl) ?_
        obtain ⟨c132, e132, hf⟩ := x_b hf
        refine xcR (va_runS (As := [.int v7, .int v8]) (rest := []) ⟨hx, hb, hml, hown, ht⟩ (c_MaskEdges_onGrid l X v7 v8 e132) (cwS 2 ht (xgS xw_316 xw_224 xw_37 xw_225) rfl rfl rfl (by decide +kernel) ⟨Nat.le_of_ble_eq_true rfl, Nat.le_of_ble_eq_true rfl⟩) (xPS hKK) rfl rfl hl.1 rfl (lv_room (Nat.le_of_ble_eq_true rfl)) d_MaskEdges_errorOf_132 ⟨Nat.zero_le _, Nat.zero_le _⟩) ?_
        refine W.eq (g2 := F0 m 135 ls [.int c132]) rfl ?_
        refine lv_if_eq (tgt := 178) hx hb d_MaskEdges_errorOf_135 (by decide) (fun hc => ?_) (fun hc => ?_)
        · replace hf := x_t hc hf
          exact hk178 v3 v9  ls (lv_sub hl [2, 7] rfl) hf
        · replace hf := x_f hc hf
          refine lv_aload_n hx hb d_MaskEdges_errorOf_138 rfl (lv_at hl 0 rfl) ?_
          refine va_get (D := X.1) (ci := 5) (v := .ref (ad 11)) (C := "MaskEdges") (T := F_MaskEdges) (N := 14) hx hb ht in_MaskEdges hown hK hP 0 xg0 rfl 10 (by decide) (ht _ xw_165) (fun _ h9 => h9) rfl d_MaskEdges_errorOf_139 ?_
          refine lv_aload_n hx hb d_MaskEdges_errorOf_142 rfl (lv_at hl 0 rfl) ?_
          refine va_get (D := X.1) (ci := 5) (v := .ref (ad 9)) (C := "MaskEdges") (T := F_MaskEdges) (N := 14) hx hb ht in_MaskEdges hown hK hP 0 xg0 rfl 9 (by decide) (ht _ xw_164) (fun _ h9 => h9) rfl d_MaskEdges_errorOf_143 ?_
          refine lv_iload hx hb d_MaskEdges_errorOf_146 (lv_at hl 5 rfl) ?_
          refine lv_iload hx hb d_MaskEdges_errorOf_148 (lv_at hl 6 rfl) ?_
          refine lv_iload_n hx hb d_MaskEdges_errorOf_150 rfl (lv_at hl 1 rfl) ?_
          obtain ⟨c151, e151, hf⟩ := x_b hf
          refine xcR (va_runV (As := [.ref (ad 9), .int v7, .int v8, .int v2]) (rest := []) ⟨hx, hb, hml, hown, ht⟩ (c_Exposure_printsAt l X (ad 11) (ad 12) (ad 13) (X_exposure ST) (ad 9) (ad 10) (X_mask ST) v7 v8 v2 (xs_exposure hP) (xs_mask hP) e151) (cwV 4 ht (xgV xw_345 xw_346 xw_347 xw_39 xw_348) rfl rfl rfl (by decide +kernel) ⟨Nat.le_of_ble_eq_true rfl, Nat.le_of_ble_eq_true rfl⟩) (xPV hKK (va_recv hK hP (ci := 2) (q0 := 11) rfl xg11)) rfl rfl hl.1 rfl (lv_room (Nat.le_of_ble_eq_true rfl)) d_MaskEdges_errorOf_151 ⟨Nat.zero_le _, Nat.zero_le _⟩) ?_
          refine W.eq (g2 := F0 m 154 ls [.int c151]) rfl ?_
          refine lv_iload_n hx hb d_MaskEdges_errorOf_154 rfl (lv_at hl 2 rfl) ?_
          refine lv_icmp_ne (tgt := 178) hx hb d_MaskEdges_errorOf_155 (by decide) (fun hc => ?_) (fun hc => ?_)
          · replace hf := x_f hc hf
            exact hk178 v3 v9  ls (lv_sub hl [2, 7] rfl) hf
          · replace hf := x_t hc hf
            refine lv_iinc (v := (v9 + (1 : Int32))) (lv' := [(9, .int (v9 + (1 : Int32))), (0, .ref (ad 0)), (2, .int v2), (3, .int v3), (5, .int v5), (6, .int v6), (7, .int v7), (8, .int v8)]) hx hb d_MaskEdges_errorOf_158 hl (k := 7) rfl rfl (by decide) rfl (fun ls hl => ?_)
            refine lv_iload hx hb d_MaskEdges_errorOf_161 (lv_at hl 6 rfl) ?_
            refine lv_iload hx hb d_MaskEdges_errorOf_163 (lv_at hl 4 rfl) ?_
            refine lv_iadd hx hb d_MaskEdges_errorOf_165 ?_
            refine lv_istore (lv' := [(7, .int (v7 + v5)), (9, .int (v9 + (1 : Int32))), (0, .ref (ad 0)), (2, .int v2), (3, .int v3), (5, .int v5), (6, .int v6), (8, .int v8)]) hx hb d_MaskEdges_errorOf_166 hl (by decide) rfl (fun ls hl => ?_)
            refine lv_iload hx hb d_MaskEdges_errorOf_168 (lv_at hl 7 rfl) ?_
            refine lv_iload hx hb d_MaskEdges_errorOf_170 (lv_at hl 6 rfl) ?_
            refine lv_iadd hx hb d_MaskEdges_errorOf_172 ?_
            refine lv_istore (lv' := [(8, .int (v8 + v6)), (7, .int (v7 + v5)), (9, .int (v9 + (1 : Int32))), (0, .ref (ad 0)), (2, .int v2), (3, .int v3), (5, .int v5), (6, .int v6)]) hx hb d_MaskEdges_errorOf_173 hl (by decide) rfl (fun ls hl => ?_)
            refine lv_goto (tgt := 121) hx hb d_MaskEdges_errorOf_175 (by decide) ?_
            exact hr121 v2 v3 v5 v6 (v7 + v5) (v8 + v6) (v9 + (1 : Int32))  ls (lv_sub hl [3, 4, 5, 6, 7, 1, 0, 2] rfl) hf
  have hL178 : ∀ (v3 : Int32) (v9 : Int32), ∀ (ls : Array Slot), lv_has ls 10 [(3, .int v3), (9, .int v9)] → f_MaskEdges_errorOf_178 ST v3 v9 = some res → W p l e (headSpec (Cond.code y_MaskEdges_errorOf prog_1_method_27_code 10 (some .int) :: xT) ({ frames := 4, cells := 0, slots := 0, locals := 100 } : Room)).room s m args below meth c s.heap [] 0 0 Q (F0 m 178 ls []) := by
    intro v3 v9 ls hl hf
    unfold f_MaskEdges_errorOf_178 at hf
    refine lv_iload_n hx hb d_MaskEdges_errorOf_178 rfl (lv_at hl 0 rfl) ?_
    refine lv_if_eq (tgt := 187) hx hb d_MaskEdges_errorOf_179 (by decide) (fun hc => ?_) (fun hc => ?_)
    · replace hf := x_t hc hf
      refine lv_iload hx hb d_MaskEdges_errorOf_187 (lv_at hl 1 rfl) ?_
      refine lv_ineg hx hb d_MaskEdges_errorOf_189 ?_
      replace hf := x_s hf
      subst hf
      subst hQ
      exact W.iret (v := (-v9)) hx hb hr (fun t ht hW => ⟨⟨rfl, ht⟩, x_F0 ht⟩) x_l0 d_MaskEdges_errorOf_190
    · replace hf := x_f hc hf
      refine lv_iload hx hb d_MaskEdges_errorOf_182 (lv_at hl 1 rfl) ?_
      refine lv_goto (tgt := 190) hx hb d_MaskEdges_errorOf_184 (by decide) ?_
      replace hf := x_s hf
      subst hf
      subst hQ
      exact W.iret (v := v9) hx hb hr (fun t ht hW => ⟨⟨rfl, ht⟩, x_F0 ht⟩) x_l0 d_MaskEdges_errorOf_190
  have hL116 : ∀ (v2 : Int32) (v3 : Int32) (v5 : Int32) (v6 : Int32) (v7 : Int32) (s0 : Int32), ∀ (ls : Array Slot), lv_has ls 10 [(0, .ref (ad 0)), (2, .int v2), (3, .int v3), (5, .int v5), (6, .int v6), (7, .int v7)] → f_MaskEdges_errorOf_116 ST v2 v3 v5 v6 v7 s0 = some res → W p l e (headSpec (Cond.code y_MaskEdges_errorOf prog_1_method_27_code 10 (some .int) :: xT) ({ frames := 4, cells := 0, slots := 0, locals := 100 } : Room)).room s m args below meth c s.heap [] 0 0 Q (F0 m 116 ls [.int s0]) := by
    intro v2 v3 v5 v6 v7 s0 ls hl hf
    unfold f_MaskEdges_errorOf_116 at hf
    refine lv_istore (lv' := [(8, .int s0), (0, .ref (ad 0)), (2, .int v2), (3, .int v3), (5, .int v5), (6, .int v6), (7, .int v7)]) hx hb d_MaskEdges_errorOf_116 hl (by decide) rfl (fun ls hl => ?_)
    refine lv_iconst (v := (0 : Int32)) hx hb d_MaskEdges_errorOf_118 (by decide) ?_
    refine lv_istore (lv' := [(9, .int (0 : Int32)), (8, .int s0), (0, .ref (ad 0)), (2, .int v2), (3, .int v3), (5, .int v5), (6, .int v6), (7, .int v7)]) hx hb d_MaskEdges_errorOf_119 hl (by decide) rfl (fun ls hl => ?_)
    exact (hL121 _ hL178 100000) v2 v3 v5 v6 v7 s0 (0 : Int32)  ls (lv_sub hl [2, 3, 4, 5, 6, 7, 1, 0] rfl) hf
  have hL96 : ∀ (kv1 : Nat) (v2 : Int32) (v3 : Int32) (v5 : Int32) (v6 : Int32) (s0 : Int32), kv1 < 120 → ∀ (ls : Array Slot), lv_has ls 10 [(0, .ref (ad 0)), (1, .ref (ad (28 + kv1))), (2, .int v2), (3, .int v3), (5, .int v5), (6, .int v6)] → f_MaskEdges_errorOf_96 ST kv1 v2 v3 v5 v6 s0 = some res → W p l e (headSpec (Cond.code y_MaskEdges_errorOf prog_1_method_27_code 10 (some .int) :: xT) ({ frames := 4, cells := 0, slots := 0, locals := 100 } : Room)).room s m args below meth c s.heap [] 0 0 Q (F0 m 96 ls [.int s0]) := by
    intro kv1 v2 v3 v5 v6 s0 hkv1 ls hl hf
    unfold f_MaskEdges_errorOf_96 at hf
    refine lv_istore (lv' := [(7, .int s0), (0, .ref (ad 0)), (1, .ref (ad (28 + kv1))), (2, .int v2), (3, .int v3), (5, .int v5), (6, .int v6)]) hx hb d_MaskEdges_errorOf_96 hl (by decide) rfl (fun ls hl => ?_)
    refine lv_iload_n hx hb d_MaskEdges_errorOf_98 rfl (lv_at hl 4 rfl) ?_
    refine lv_if_eq (tgt := 112) hx hb d_MaskEdges_errorOf_99 (by decide) (fun hc => ?_) (fun hc => ?_)
    · replace hf := x_t hc hf
      refine lv_aload_n hx hb d_MaskEdges_errorOf_112 rfl (lv_at hl 2 rfl) ?_
      refine va_get (D := X.1) (ci := 4) (v := .int (Piece_insideY (X_pieces ST kv1))) (C := "MaskEdges$Piece") (T := F_Piece) (N := 12) hx hb ht in_Piece hown hK hP (28 + kv1) (xg_pieces0 hkv1) rfl 10 (by decide) (ht _ xw_140) (fun _ h9 => h9) rfl d_MaskEdges_errorOf_113 ?_
      exact hL116 v2 v3 v5 v6 s0 (Piece_insideY (X_pieces ST kv1))  ls (lv_sub hl [1, 3, 4, 5, 6, 0] rfl) hf
    · replace hf := x_f hc hf
      refine lv_aload_n hx hb d_MaskEdges_errorOf_102 rfl (lv_at hl 2 rfl) ?_
      refine va_get (D := X.1) (ci := 4) (v := .int (Piece_insideY (X_pieces ST kv1))) (C := "MaskEdges$Piece") (T := F_Piece) (N := 12) hx hb ht in_Piece hown hK hP (28 + kv1) (xg_pieces0 hkv1) rfl 10 (by decide) (ht _ xw_140) (fun _ h9 => h9) rfl d_MaskEdges_errorOf_103 ?_
      refine lv_iload hx hb d_MaskEdges_errorOf_106 (lv_at hl 6 rfl) ?_
      refine lv_iadd hx hb d_MaskEdges_errorOf_108 ?_
      refine lv_goto (tgt := 116) hx hb d_MaskEdges_errorOf_109 (by decide) ?_
      exact hL116 v2 v3 v5 v6 s0 ((Piece_insideY (X_pieces ST kv1)) + v6)  ls (lv_sub hl [1, 3, 4, 5, 6, 0] rfl) hf
  have hL76 : ∀ (kv1 : Nat) (v2 : Int32) (v3 : Int32) (v5 : Int32) (s0 : Int32), kv1 < 120 → ∀ (ls : Array Slot), lv_has ls 10 [(0, .ref (ad 0)), (1, .ref (ad (28 + kv1))), (2, .int v2), (3, .int v3), (5, .int v5)] → f_MaskEdges_errorOf_76 ST kv1 v2 v3 v5 s0 = some res → W p l e (headSpec (Cond.code y_MaskEdges_errorOf prog_1_method_27_code 10 (some .int) :: xT) ({ frames := 4, cells := 0, slots := 0, locals := 100 } : Room)).room s m args below meth c s.heap [] 0 0 Q (F0 m 76 ls [.int s0]) := by
    intro kv1 v2 v3 v5 s0 hkv1 ls hl hf
    unfold f_MaskEdges_errorOf_76 at hf
    refine lv_istore (lv' := [(6, .int s0), (0, .ref (ad 0)), (1, .ref (ad (28 + kv1))), (2, .int v2), (3, .int v3), (5, .int v5)]) hx hb d_MaskEdges_errorOf_76 hl (by decide) rfl (fun ls hl => ?_)
    refine lv_iload_n hx hb d_MaskEdges_errorOf_78 rfl (lv_at hl 4 rfl) ?_
    refine lv_if_eq (tgt := 92) hx hb d_MaskEdges_errorOf_79 (by decide) (fun hc => ?_) (fun hc => ?_)
    · replace hf := x_t hc hf
      refine lv_aload_n hx hb d_MaskEdges_errorOf_92 rfl (lv_at hl 2 rfl) ?_
      refine va_get (D := X.1) (ci := 4) (v := .int (Piece_insideX (X_pieces ST kv1))) (C := "MaskEdges$Piece") (T := F_Piece) (N := 12) hx hb ht in_Piece hown hK hP (28 + kv1) (xg_pieces0 hkv1) rfl 9 (by decide) (ht _ xw_138) (fun _ h9 => h9) rfl d_MaskEdges_errorOf_93 ?_
      exact hL96 kv1 v2 v3 v5 s0 (Piece_insideX (X_pieces ST kv1)) hkv1  ls (lv_sub hl [1, 2, 3, 4, 5, 0] rfl) hf
    · replace hf := x_f hc hf
      refine lv_aload_n hx hb d_MaskEdges_errorOf_82 rfl (lv_at hl 2 rfl) ?_
      refine va_get (D := X.1) (ci := 4) (v := .int (Piece_insideX (X_pieces ST kv1))) (C := "MaskEdges$Piece") (T := F_Piece) (N := 12) hx hb ht in_Piece hown hK hP (28 + kv1) (xg_pieces0 hkv1) rfl 9 (by decide) (ht _ xw_138) (fun _ h9 => h9) rfl d_MaskEdges_errorOf_83 ?_
      refine lv_iload hx hb d_MaskEdges_errorOf_86 (lv_at hl 5 rfl) ?_
      refine lv_iadd hx hb d_MaskEdges_errorOf_88 ?_
      refine lv_goto (tgt := 96) hx hb d_MaskEdges_errorOf_89 (by decide) ?_
      exact hL96 kv1 v2 v3 v5 s0 ((Piece_insideX (X_pieces ST kv1)) + v5) hkv1  ls (lv_sub hl [1, 2, 3, 4, 5, 0] rfl) hf
  have hL61 : ∀ (kv1 : Nat) (v2 : Int32) (v3 : Int32) (v4 : Int32) (s0 : Int32), kv1 < 120 → ∀ (ls : Array Slot), lv_has ls 10 [(0, .ref (ad 0)), (1, .ref (ad (28 + kv1))), (2, .int v2), (3, .int v3), (4, .int v4)] → f_MaskEdges_errorOf_61 ST kv1 v2 v3 v4 s0 = some res → W p l e (headSpec (Cond.code y_MaskEdges_errorOf prog_1_method_27_code 10 (some .int) :: xT) ({ frames := 4, cells := 0, slots := 0, locals := 100 } : Room)).room s m args below meth c s.heap [] 0 0 Q (F0 m 61 ls [.int s0]) := by
    intro kv1 v2 v3 v4 s0 hkv1 ls hl hf
    unfold f_MaskEdges_errorOf_61 at hf
    refine lv_istore (lv' := [(5, .int s0), (0, .ref (ad 0)), (1, .ref (ad (28 + kv1))), (2, .int v2), (3, .int v3), (4, .int v4)]) hx hb d_MaskEdges_errorOf_61 hl (by decide) rfl (fun ls hl => ?_)
    refine lv_aload_n hx hb d_MaskEdges_errorOf_63 rfl (lv_at hl 2 rfl) ?_
    refine va_get (D := X.1) (ci := 4) (v := .int (Piece_alongX (X_pieces ST kv1))) (C := "MaskEdges$Piece") (T := F_Piece) (N := 12) hx hb ht in_Piece hown hK hP (28 + kv1) (xg_pieces0 hkv1) rfl 0 (by decide) (ht _ xw_122) (fun _ h9 => h9) rfl d_MaskEdges_errorOf_64 ?_
    refine lv_if_eq (tgt := 75) hx hb d_MaskEdges_errorOf_67 (by decide) (fun hc => ?_) (fun hc => ?_)
    · replace hf := x_t hc hf
      refine lv_iconst (v := (0 : Int32)) hx hb d_MaskEdges_errorOf_75 (by decide) ?_
      exact hL76 kv1 v2 v3 s0 (0 : Int32) hkv1  ls (lv_sub hl [1, 2, 3, 4, 0] rfl) hf
    · replace hf := x_f hc hf
      refine lv_iload hx hb d_MaskEdges_errorOf_70 (lv_at hl 5 rfl) ?_
      refine lv_goto (tgt := 76) hx hb d_MaskEdges_errorOf_72 (by decide) ?_
      exact hL76 kv1 v2 v3 s0 v4 hkv1  ls (lv_sub hl [1, 2, 3, 4, 0] rfl) hf
  have hL46 : ∀ (kv1 : Nat) (v2 : Int32) (v3 : Int32) (s0 : Int32), kv1 < 120 → ∀ (ls : Array Slot), lv_has ls 10 [(0, .ref (ad 0)), (1, .ref (ad (28 + kv1))), (2, .int v2), (3, .int v3)] → f_MaskEdges_errorOf_46 ST kv1 v2 v3 s0 = some res → W p l e (headSpec (Cond.code y_MaskEdges_errorOf prog_1_method_27_code 10 (some .int) :: xT) ({ frames := 4, cells := 0, slots := 0, locals := 100 } : Room)).room s m args below meth c s.heap [] 0 0 Q (F0 m 46 ls [.int s0]) := by
    intro kv1 v2 v3 s0 hkv1 ls hl hf
    unfold f_MaskEdges_errorOf_46 at hf
    refine lv_istore (lv' := [(4, .int s0), (0, .ref (ad 0)), (1, .ref (ad (28 + kv1))), (2, .int v2), (3, .int v3)]) hx hb d_MaskEdges_errorOf_46 hl (by decide) rfl (fun ls hl => ?_)
    refine lv_aload_n hx hb d_MaskEdges_errorOf_48 rfl (lv_at hl 2 rfl) ?_
    refine va_get (D := X.1) (ci := 4) (v := .int (Piece_alongX (X_pieces ST kv1))) (C := "MaskEdges$Piece") (T := F_Piece) (N := 12) hx hb ht in_Piece hown hK hP (28 + kv1) (xg_pieces0 hkv1) rfl 0 (by decide) (ht _ xw_122) (fun _ h9 => h9) rfl d_MaskEdges_errorOf_49 ?_
    refine lv_if_eq (tgt := 59) hx hb d_MaskEdges_errorOf_52 (by decide) (fun hc => ?_) (fun hc => ?_)
    · replace hf := x_t hc hf
      refine lv_iload hx hb d_MaskEdges_errorOf_59 (lv_at hl 0 rfl) ?_
      exact hL61 kv1 v2 v3 s0 s0 hkv1  ls (lv_sub hl [1, 2, 3, 4, 0] rfl) hf
    · replace hf := x_f hc hf
      refine lv_iconst (v := (0 : Int32)) hx hb d_MaskEdges_errorOf_55 (by decide) ?_
      refine lv_goto (tgt := 61) hx hb d_MaskEdges_errorOf_56 (by decide) ?_
      exact hL61 kv1 v2 v3 s0 (0 : Int32) hkv1  ls (lv_sub hl [1, 2, 3, 4, 0] rfl) hf
  unfold f_MaskEdges_errorOf at hf
  refine lv_aload_n hx hb d_MaskEdges_errorOf_0 rfl (lv_at hl 1 rfl) ?_
  obtain ⟨c1, e1, hf⟩ := x_b hf
  refine xcR (va_runV (As := []) (rest := []) ⟨hx, hb, hml, hown, ht⟩ (c_Piece_isFlat l X (ad (28 + k1)) (X_pieces ST k1) (xs_pieces hk1 hP) e1) (cwV 0 ht (xgV xw_341 xw_342 xw_343 xw_42 xw_344) rfl rfl rfl (by decide +kernel) ⟨Nat.le_of_ble_eq_true rfl, Nat.le_of_ble_eq_true rfl⟩) (xPV hKK (va_recv hK hP (ci := 4) (q0 := (28 + k1)) rfl (xg_pieces0 hk1))) rfl rfl hl.1 rfl (lv_room (Nat.le_of_ble_eq_true rfl)) d_MaskEdges_errorOf_1 ⟨Nat.zero_le _, Nat.zero_le _⟩) ?_
  refine W.eq (g2 := F0 m 4 ls [.int c1]) rfl ?_
  refine lv_if_eq (tgt := 9) hx hb d_MaskEdges_errorOf_4 (by decide) (fun hc => ?_) (fun hc => ?_)
  · replace hf := x_t hc hf
    refine lv_aload_n hx hb d_MaskEdges_errorOf_9 rfl (lv_at hl 0 rfl) ?_
    refine va_get (D := X.1) (ci := 5) (v := .ref (ad 11)) (C := "MaskEdges") (T := F_MaskEdges) (N := 14) hx hb ht in_MaskEdges hown hK hP 0 xg0 rfl 10 (by decide) (ht _ xw_165) (fun _ h9 => h9) rfl d_MaskEdges_errorOf_10 ?_
    refine lv_aload_n hx hb d_MaskEdges_errorOf_13 rfl (lv_at hl 0 rfl) ?_
    refine va_get (D := X.1) (ci := 5) (v := .ref (ad 9)) (C := "MaskEdges") (T := F_MaskEdges) (N := 14) hx hb ht in_MaskEdges hown hK hP 0 xg0 rfl 9 (by decide) (ht _ xw_164) (fun _ h9 => h9) rfl d_MaskEdges_errorOf_14 ?_
    refine lv_aload_n hx hb d_MaskEdges_errorOf_17 rfl (lv_at hl 1 rfl) ?_
    refine va_get (D := X.1) (ci := 4) (v := .int (Piece_insideX (X_pieces ST k1))) (C := "MaskEdges$Piece") (T := F_Piece) (N := 12) hx hb ht in_Piece hown hK hP (28 + k1) (xg_pieces0 hk1) rfl 9 (by decide) (ht _ xw_138) (fun _ h9 => h9) rfl d_MaskEdges_errorOf_18 ?_
    refine lv_aload_n hx hb d_MaskEdges_errorOf_21 rfl (lv_at hl 1 rfl) ?_
    refine va_get (D := X.1) (ci := 4) (v := .int (Piece_insideY (X_pieces ST k1))) (C := "MaskEdges$Piece") (T := F_Piece) (N := 12) hx hb ht in_Piece hown hK hP (28 + k1) (xg_pieces0 hk1) rfl 10 (by decide) (ht _ xw_140) (fun _ h9 => h9) rfl d_MaskEdges_errorOf_22 ?_
    refine lv_iload_n hx hb d_MaskEdges_errorOf_25 rfl (lv_at hl 2 rfl) ?_
    obtain ⟨c26, e26, hf⟩ := x_b hf
    refine xcR (va_runV (As := [.ref (ad 9), .int (Piece_insideX (X_pieces ST k1)), .int (Piece_insideY (X_pieces ST k1)), .int v2]) (rest := []) ⟨hx, hb, hml, hown, ht⟩ (c_Exposure_printsAt l X (ad 11) (ad 12) (ad 13) (X_exposure ST) (ad 9) (ad 10) (X_mask ST) (Piece_insideX (X_pieces ST k1)) (Piece_insideY (X_pieces ST k1)) v2 (xs_exposure hP) (xs_mask hP) e26) (cwV 4 ht (xgV xw_345 xw_346 xw_347 xw_39 xw_348) rfl rfl rfl (by decide +kernel) ⟨Nat.le_of_ble_eq_true rfl, Nat.le_of_ble_eq_true rfl⟩) (xPV hKK (va_recv hK hP (ci := 2) (q0 := 11) rfl xg11)) rfl rfl hl.1 rfl (lv_room (Nat.le_of_ble_eq_true rfl)) d_MaskEdges_errorOf_26 ⟨Nat.zero_le _, Nat.zero_le _⟩) ?_
    refine W.eq (g2 := F0 m 29 ls [.int c26]) rfl ?_
    refine lv_istore_n (lv' := [(3, .int c26), (0, .ref (ad 0)), (1, .ref (ad (28 + k1))), (2, .int v2)]) hx hb d_MaskEdges_errorOf_29 rfl hl (by decide) rfl (fun ls hl => ?_)
    refine lv_iload_n hx hb d_MaskEdges_errorOf_30 rfl (lv_at hl 0 rfl) ?_
    refine lv_if_eq (tgt := 41) hx hb d_MaskEdges_errorOf_31 (by decide) (fun hc => ?_) (fun hc => ?_)
    · replace hf := x_t hc hf
      refine lv_aload_n hx hb d_MaskEdges_errorOf_41 rfl (lv_at hl 2 rfl) ?_
      refine va_get (D := X.1) (ci := 4) (v := .int (Piece_outward (X_pieces ST k1))) (C := "MaskEdges$Piece") (T := F_Piece) (N := 12) hx hb ht in_Piece hown hK hP (28 + k1) (xg_pieces0 hk1) rfl 8 (by decide) (ht _ xw_136) (fun _ h9 => h9) rfl d_MaskEdges_errorOf_42 ?_
      refine lv_ineg hx hb d_MaskEdges_errorOf_45 ?_
      exact hL46 k1 v2 c26 (-(Piece_outward (X_pieces ST k1))) hk1  ls (lv_sub hl [1, 2, 3, 0] rfl) hf
    · replace hf := x_f hc hf
      refine lv_aload_n hx hb d_MaskEdges_errorOf_34 rfl (lv_at hl 2 rfl) ?_
      refine va_get (D := X.1) (ci := 4) (v := .int (Piece_outward (X_pieces ST k1))) (C := "MaskEdges$Piece") (T := F_Piece) (N := 12) hx hb ht in_Piece hown hK hP (28 + k1) (xg_pieces0 hk1) rfl 8 (by decide) (ht _ xw_136) (fun _ h9 => h9) rfl d_MaskEdges_errorOf_35 ?_
      refine lv_goto (tgt := 46) hx hb d_MaskEdges_errorOf_38 (by decide) ?_
      exact hL46 k1 v2 c26 (Piece_outward (X_pieces ST k1)) hk1  ls (lv_sub hl [1, 2, 3, 0] rfl) hf
  · replace hf := x_f hc hf
    refine lv_iconst (v := (0 : Int32)) hx hb d_MaskEdges_errorOf_7 (by decide) ?_
    replace hf := x_s hf
    subst hf
    subst hQ
    exact W.iret (v := (0 : Int32)) hx hb hr (fun t ht hW => ⟨⟨rfl, ht⟩, x_F0 ht⟩) x_l0 d_MaskEdges_errorOf_8
def f_MaskEdges_error (ST : xSt) (v1 : Int32) : Option (Int32) :=
  (f_MaskEdges_isPiece ST v1).bind fun c2 =>
  if c2 = 0 then
  some (0 : Int32)
else
  if xin v1 120 = true then
    (f_MaskEdges_errorOf ST v1.toNatClampNeg (100 : Int32)).bind fun c17 =>
      some c17
  else none
set_option maxHeartbeats 4000000 in
set_option maxRecDepth 100000 in
theorem c_MaskEdges_error (l : Launch) (X : xG) {H : Heap} (ad : Nat → Nat) (ST : xSt) (v1 : Int32) {res : Int32} (hP : va_P X.1 vwCl (wX X ad ST) H) (hf : f_MaskEdges_error ST v1 = some res) : xM l y_MaskEdges_error (Cond.code y_MaskEdges_error prog_1_method_7_code 2 (some .int) :: xT) ({ frames := 5, cells := 0, slots := 0, locals := 129 } : Room) (xK X) [.ref (ad 0), .int v1] H xNo (some (.int res)) (fun H1 => H1 = H) := by
  refine Met.ofW (cc := prog_1_method_7_code) (maxL := 2) (ret := (some .int)) (by decide) rfl ?_
  intro p e s m args below meth c s₁ B hml hv
  obtain ⟨ha, hH, hKK⟩ := hv
  subst hH
  have hx := B.exec
  have hb := B.bytes
  have hr := B.returns
  have ht : ∀ w ∈ xT, w.before args s = true := fun w h => atoms_spec (ws := (Cond.code y_MaskEdges_error prog_1_method_7_code 2 (some .int) :: xT)) B.pre w (List.mem_cons_of_mem _ h)
  have hown : s.vm.findClass "MaskEdges" = some m.cls := findClass_of_methodNamed B.named
  have hlocks := B.notSynchronized
  have hK := hKK.1
  rw [show entryFrame m args 2 = entryFrame m ([.ref (ad 0), .int v1] : List Value).toArray 2 from by rw [ha]]
  clear ha
  have hl := lv_entry ([.ref (ad 0), .int v1]) (n := 2) (Nat.le_of_ble_eq_true rfl)
  rw [lg_entry_eq]
  generalize (lg_sl ([.ref (ad 0), .int v1]) ++ List.replicate (2 - (lg_sl ([.ref (ad 0), .int v1])).length) Slot.unset).toArray = ls at hl ⊢
  replace hl : lv_has ls 2 [(0, .ref (ad 0)), (1, .int v1)] := hl
  refine x_Q (fun Q hQ => ?_)
  unfold f_MaskEdges_error at hf
  refine lv_aload_n hx hb d_MaskEdges_error_0 rfl (lv_at hl 0 rfl) ?_
  refine lv_iload_n hx hb d_MaskEdges_error_1 rfl (lv_at hl 1 rfl) ?_
  obtain ⟨c2, e2, hf⟩ := x_b hf
  refine xcR (va_runV (As := [.int v1]) (rest := []) ⟨hx, hb, hml, hown, ht⟩ (c_MaskEdges_isPiece l X ad ST v1 hP e2) (cwV 1 ht (xgV xw_335 xw_336 xw_7 xw_37 xw_337) rfl rfl rfl (by decide +kernel) ⟨Nat.le_of_ble_eq_true rfl, Nat.le_of_ble_eq_true rfl⟩) (xPV hKK (va_recv hK hP (ci := 5) (q0 := 0) rfl xg0)) rfl rfl hl.1 rfl (lv_room (Nat.le_of_ble_eq_true rfl)) d_MaskEdges_error_2 ⟨Nat.zero_le _, Nat.zero_le _⟩) ?_
  refine W.eq (g2 := F0 m 5 ls [.int c2]) rfl ?_
  refine lv_if_eq (tgt := 23) hx hb d_MaskEdges_error_5 (by decide) (fun hc => ?_) (fun hc => ?_)
  · replace hf := x_t hc hf
    refine lv_iconst (v := (0 : Int32)) hx hb d_MaskEdges_error_23 (by decide) ?_
    replace hf := x_s hf
    subst hf
    subst hQ
    exact W.iret (v := (0 : Int32)) hx hb hr (fun t ht hW => ⟨⟨rfl, ht⟩, x_F0 ht⟩) x_l0 d_MaskEdges_error_24
  · replace hf := x_f hc hf
    refine lv_aload_n hx hb d_MaskEdges_error_8 rfl (lv_at hl 0 rfl) ?_
    refine lv_aload_n hx hb d_MaskEdges_error_9 rfl (lv_at hl 0 rfl) ?_
    refine va_get (D := X.1) (ci := 5) (v := .ref (ad 2)) (C := "MaskEdges") (T := F_MaskEdges) (N := 14) hx hb ht in_MaskEdges hown hK hP 0 xg0 rfl 2 (by decide) (ht _ xw_157) (fun _ h9 => h9) rfl d_MaskEdges_error_10 ?_
    refine lv_iload_n hx hb d_MaskEdges_error_13 rfl (lv_at hl 1 rfl) ?_
    obtain ⟨g14, hf⟩ := x_g hf
    have hk14 := xin_lt g14
    refine va_aldq hx hb hK hP 2 3 xg2 rfl (xin_in g14) d_MaskEdges_error_14 ?_
    refine W.eq (g2 := F0 m 15 ls [.ref (ad (28 + v1.toNatClampNeg)), .ref (ad 0)]) rfl ?_
    refine lv_bipush (v := (100 : Int32)) hx hb d_MaskEdges_error_15 (by decide) ?_
    obtain ⟨c17, e17, hf⟩ := x_b hf
    refine xcR (va_runV (As := [.ref (ad (28 + v1.toNatClampNeg)), .int (100 : Int32)]) (rest := []) ⟨hx, hb, hml, hown, ht⟩ (c_MaskEdges_errorOf l X ad ST v1.toNatClampNeg (100 : Int32) hP hk14 e17) (cwV 2 ht (xgV xw_338 xw_339 xw_8 xw_37 xw_340) rfl rfl rfl (by decide +kernel) ⟨Nat.le_of_ble_eq_true rfl, Nat.le_of_ble_eq_true rfl⟩) (xPV hKK (va_recv hK hP (ci := 5) (q0 := 0) rfl xg0)) rfl rfl hl.1 rfl (lv_room (Nat.le_of_ble_eq_true rfl)) d_MaskEdges_error_17 ⟨Nat.zero_le _, Nat.zero_le _⟩) ?_
    refine W.eq (g2 := F0 m 20 ls [.int c17]) rfl ?_
    refine lv_goto (tgt := 24) hx hb d_MaskEdges_error_20 (by decide) ?_
    replace hf := x_s hf
    subst hf
    subst hQ
    exact W.iret (v := c17) hx hb hr (fun t ht hW => ⟨⟨rfl, ht⟩, x_F0 ht⟩) x_l0 d_MaskEdges_error_24
def f_MaskEdges_worstError_4 (ST : xSt) (r4 : Int32 → Int32 → Option (Int32)) (v1 : Int32) (v2 : Int32) : Option (Int32) :=
  if (X_pieceCount ST) ≤ v2 then
  some v1
else
  if xin v2 120 = true then
    (f_MaskEdges_errorOf ST v2.toNatClampNeg (100 : Int32)).bind fun c22 =>
      r4 (if v1 < (if 0 ≤ c22 then c22 else 0 - c22) then (if 0 ≤ c22 then c22 else 0 - c22) else v1) (v2 + (1 : Int32))
  else none
def f_MaskEdges_worstError (ST : xSt) : Option (Int32) :=
  (xloop (fun r => f_MaskEdges_worstError_4 ST r) (fun _ _ => none) 100000) (0 : Int32) (0 : Int32)
set_option maxHeartbeats 4000000 in
set_option maxRecDepth 100000 in
theorem c_MaskEdges_worstError (l : Launch) (X : xG) {H : Heap} (ad : Nat → Nat) (ST : xSt) {res : Int32} (hP : va_P X.1 vwCl (wX X ad ST) H) (hf : f_MaskEdges_worstError ST = some res) : xM l y_MaskEdges_worstError (Cond.code y_MaskEdges_worstError prog_1_method_28_code 3 (some .int) :: xT) ({ frames := 5, cells := 0, slots := 0, locals := 129 } : Room) (xK X) [.ref (ad 0)] H xNo (some (.int res)) (fun H1 => H1 = H) := by
  refine Met.ofW (cc := prog_1_method_28_code) (maxL := 3) (ret := (some .int)) (by decide) rfl ?_
  intro p e s m args below meth c s₁ B hml hv
  obtain ⟨ha, hH, hKK⟩ := hv
  subst hH
  have hx := B.exec
  have hb := B.bytes
  have hr := B.returns
  have ht : ∀ w ∈ xT, w.before args s = true := fun w h => atoms_spec (ws := (Cond.code y_MaskEdges_worstError prog_1_method_28_code 3 (some .int) :: xT)) B.pre w (List.mem_cons_of_mem _ h)
  have hown : s.vm.findClass "MaskEdges" = some m.cls := findClass_of_methodNamed B.named
  have hlocks := B.notSynchronized
  have hK := hKK.1
  rw [show entryFrame m args 3 = entryFrame m ([.ref (ad 0)] : List Value).toArray 3 from by rw [ha]]
  clear ha
  have hl := lv_entry ([.ref (ad 0)]) (n := 3) (Nat.le_of_ble_eq_true rfl)
  rw [lg_entry_eq]
  generalize (lg_sl ([.ref (ad 0)]) ++ List.replicate (3 - (lg_sl ([.ref (ad 0)])).length) Slot.unset).toArray = ls at hl ⊢
  replace hl : lv_has ls 3 [(0, .ref (ad 0))] := hl
  refine x_Q (fun Q hQ => ?_)
  have hL4 : ∀ (n : Nat), ∀ (v1 : Int32) (v2 : Int32), ∀ (ls : Array Slot), lv_has ls 3 [(0, .ref (ad 0)), (1, .int v1), (2, .int v2)] → (xloop (fun r => f_MaskEdges_worstError_4 ST r) (fun _ _ => none) n) v1 v2 = some res → W p l e (headSpec (Cond.code y_MaskEdges_worstError prog_1_method_28_code 3 (some .int) :: xT) ({ frames := 5, cells := 0, slots := 0, locals := 129 } : Room)).room s m args below meth c s.heap [] 0 0 Q (F0 m 4 ls []) := by
    intro n
    induction n with
    | zero => intro v1 v2 ls hl hf; cases hf
    | succ n ih =>
      intro v1 v2 ls hl hf
      replace hf : f_MaskEdges_worstError_4 ST (xloop (fun r => f_MaskEdges_worstError_4 ST r) (fun _ _ => none) n) v1 v2 = some res := hf
      have hr4 := ih
      clear ih
      unfold f_MaskEdges_worstError_4 at hf
      refine lv_iload_n hx hb d_MaskEdges_worstError_4 rfl (lv_at hl 2 rfl) ?_
      refine lv_aload_n hx hb d_MaskEdges_worstError_5 rfl (lv_at hl 0 rfl) ?_
      refine va_get (D := X.1) (ci := 5) (v := .int (X_pieceCount ST)) (C := "MaskEdges") (T := F_MaskEdges) (N := 14) hx hb ht in_MaskEdges hown hK hP 0 xg0 rfl 3 (by decide) (ht _ xw_158) (fun _ h9 => h9) rfl d_MaskEdges_worstError_6 ?_
      refine lv_icmp_ge (tgt := 38) hx hb d_MaskEdges_worstError_9 (by decide) (fun hc => ?_) (fun hc => ?_)
      · replace hf := x_t hc hf
        refine lv_iload_n hx hb d_MaskEdges_worstError_38 rfl (lv_at hl 1 rfl) ?_
        replace hf := x_s hf
        subst hf
        subst hQ
        exact W.iret (v := v1) hx hb hr (fun t ht hW => ⟨⟨rfl, ht⟩, x_F0 ht⟩) x_l0 d_MaskEdges_worstError_39
      · replace hf := x_f hc hf
        refine lv_iload_n hx hb d_MaskEdges_worstError_12 rfl (lv_at hl 1 rfl) ?_
        refine lv_aload_n hx hb d_MaskEdges_worstError_13 rfl (lv_at hl 0 rfl) ?_
        refine lv_aload_n hx hb d_MaskEdges_worstError_14 rfl (lv_at hl 0 rfl) ?_
        refine va_get (D := X.1) (ci := 5) (v := .ref (ad 2)) (C := "MaskEdges") (T := F_MaskEdges) (N := 14) hx hb ht in_MaskEdges hown hK hP 0 xg0 rfl 2 (by decide) (ht _ xw_157) (fun _ h9 => h9) rfl d_MaskEdges_worstError_15 ?_
        refine lv_iload_n hx hb d_MaskEdges_worstError_18 rfl (lv_at hl 2 rfl) ?_
        obtain ⟨g19, hf⟩ := x_g hf
        have hk19 := xin_lt g19
        refine va_aldq hx hb hK hP 2 3 xg2 rfl (xin_in g19) d_MaskEdges_worstError_19 ?_
        refine W.eq (g2 := F0 m 20 ls [.ref (ad (28 + v2.toNatClampNeg)), .ref (ad 0), .int v1]) rfl ?_
        refine lv_bipush (v := (100 : Int32)) hx hb d_MaskEdges_worstError_20 (by decide) ?_
        obtain ⟨c22, e22, hf⟩ := x_b hf
        refine xcR (va_runV (As := [.ref (ad (28 + v2.toNatClampNeg)), .int (100 : Int32)]) (rest := [.int v1]) ⟨hx, hb, hml, hown, ht⟩ (c_MaskEdges_errorOf l X ad ST v2.toNatClampNeg (100 : Int32) hP hk19 e22) (cwV 2 ht (xgV xw_338 xw_339 xw_8 xw_37 xw_340) rfl rfl rfl (by decide +kernel) ⟨Nat.le_of_ble_eq_true rfl, Nat.le_of_ble_eq_true rfl⟩) (xPV hKK (va_recv hK hP (ci := 5) (q0 := 0) rfl xg0)) rfl rfl hl.1 rfl (lv_room (Nat.le_of_ble_eq_true rfl)) d_MaskEdges_worstError_22 ⟨Nat.zero_le _, Nat.zero_le _⟩) ?_
        refine W.eq (g2 := F0 m 25 ls [.int c22, .int v1]) rfl ?_
        refine va_mabs hx hb (hml.trans hl.1.symm) hown (ht _ xw_358) (ht _ xw_290) (ht _ xw_44) (ht _ xw_math_abs) (Nat.le_of_ble_eq_true rfl) (Nat.le_of_ble_eq_true rfl) (Nat.zero_le _) (Nat.zero_le _) d_MaskEdges_worstError_25 ?_
        refine va_mmax hx hb (hml.trans hl.1.symm) hown (ht _ xw_359) (ht _ xw_218) (ht _ xw_44) (ht _ xw_math_max) (Nat.le_of_ble_eq_true rfl) (Nat.le_of_ble_eq_true rfl) (Nat.zero_le _) (Nat.zero_le _) d_MaskEdges_worstError_28 ?_
        refine lv_istore_n (lv' := [(1, .int (if v1 < (if 0 ≤ c22 then c22 else 0 - c22) then (if 0 ≤ c22 then c22 else 0 - c22) else v1)), (0, .ref (ad 0)), (2, .int v2)]) hx hb d_MaskEdges_worstError_31 rfl hl (by decide) rfl (fun ls hl => ?_)
        refine lv_iinc (v := (v2 + (1 : Int32))) (lv' := [(2, .int (v2 + (1 : Int32))), (1, .int (if v1 < (if 0 ≤ c22 then c22 else 0 - c22) then (if 0 ≤ c22 then c22 else 0 - c22) else v1)), (0, .ref (ad 0))]) hx hb d_MaskEdges_worstError_32 hl (k := 2) rfl rfl (by decide) rfl (fun ls hl => ?_)
        refine lv_goto (tgt := 4) hx hb d_MaskEdges_worstError_35 (by decide) ?_
        exact hr4 (if v1 < (if 0 ≤ c22 then c22 else 0 - c22) then (if 0 ≤ c22 then c22 else 0 - c22) else v1) (v2 + (1 : Int32))  ls (lv_sub hl [2, 1, 0] rfl) hf
  unfold f_MaskEdges_worstError at hf
  refine lv_iconst (v := (0 : Int32)) hx hb d_MaskEdges_worstError_0 (by decide) ?_
  refine lv_istore_n (lv' := [(1, .int (0 : Int32)), (0, .ref (ad 0))]) hx hb d_MaskEdges_worstError_1 rfl hl (by decide) rfl (fun ls hl => ?_)
  refine lv_iconst (v := (0 : Int32)) hx hb d_MaskEdges_worstError_2 (by decide) ?_
  refine lv_istore_n (lv' := [(2, .int (0 : Int32)), (1, .int (0 : Int32)), (0, .ref (ad 0))]) hx hb d_MaskEdges_worstError_3 rfl hl (by decide) rfl (fun ls hl => ?_)
  exact (hL4 100000) (0 : Int32) (0 : Int32)  ls (lv_sub hl [2, 1, 0] rfl) hf
def f_MaskEdges_moveAgainstErrors_68 (r5 : Int32 → Int32 → Int32 → Int32 → xSt → Option (Int32 × xSt)) (v1 : Int32) (v2 : Int32) (v3 : Int32) (v4 : Int32) (ST : xSt) : Option (Int32 × xSt) :=
  r5 v1 v2 v3 (v4 + (1 : Int32)) ST
def f_MaskEdges_moveAgainstErrors_5 (r5 : Int32 → Int32 → Int32 → Int32 → xSt → Option (Int32 × xSt)) (v1 : Int32) (v2 : Int32) (v3 : Int32) (v4 : Int32) (ST : xSt) : Option (Int32 × xSt) :=
  if (X_pieceCount ST) ≤ v4 then
  if xz v3 = true then
    some (v3, ST)
  else none
else
  if xin v4 120 = true then
    if xin v4 120 = true then
      (f_MaskEdges_errorOf (X_u_movesBefore ST (upd (X_movesBefore ST) v4.toNatClampNeg (Piece_move (X_pieces ST v4.toNatClampNeg)))) v4.toNatClampNeg (100 : Int32)).bind fun c45 =>
        (f_MaskEdges_clamp c45 v1).bind fun c49 =>
        (f_Piece_moveTo ((Piece_move (X_pieces (X_u_movesBefore ST (upd (X_movesBefore ST) v4.toNatClampNeg (Piece_move (X_pieces ST v4.toNatClampNeg)))) v4.toNatClampNeg)) - c49) v2 (X_pieces (X_u_movesBefore ST (upd (X_movesBefore ST) v4.toNatClampNeg (Piece_move (X_pieces ST v4.toNatClampNeg)))) v4.toNatClampNeg)).bind fun c60 =>
        if c60.1 = 0 then
        (f_MaskEdges_moveAgainstErrors_68 r5) v1 v2 v3 v4 (X_u_pieces (X_u_movesBefore ST (upd (X_movesBefore ST) v4.toNatClampNeg (Piece_move (X_pieces ST v4.toNatClampNeg)))) (va_up (X_pieces (X_u_movesBefore ST (upd (X_movesBefore ST) v4.toNatClampNeg (Piece_move (X_pieces ST v4.toNatClampNeg))))) v4.toNatClampNeg c60.2))
      else
        (f_MaskEdges_moveAgainstErrors_68 r5) v1 v2 (1 : Int32) v4 (X_u_pieces (X_u_movesBefore ST (upd (X_movesBefore ST) v4.toNatClampNeg (Piece_move (X_pieces ST v4.toNatClampNeg)))) (va_up (X_pieces (X_u_movesBefore ST (upd (X_movesBefore ST) v4.toNatClampNeg (Piece_move (X_pieces ST v4.toNatClampNeg))))) v4.toNatClampNeg c60.2))
    else none
  else none
def f_MaskEdges_moveAgainstErrors (v1 : Int32) (v2 : Int32) (ST : xSt) : Option (Int32 × xSt) :=
  (xloop (fun r => f_MaskEdges_moveAgainstErrors_5 r) (fun _ _ _ _ _ => none) 100000) v1 v2 (0 : Int32) (0 : Int32) ST
set_option maxHeartbeats 4000000 in
set_option maxRecDepth 100000 in
theorem c_MaskEdges_moveAgainstErrors (l : Launch) (X : xG) {H : Heap} (ad : Nat → Nat) (ST : xSt) (v1 : Int32) (v2 : Int32) {res : Int32 × xSt} (hP : va_P X.1 vwCl (wX X ad ST) H) (hA : okA ad) (hf : f_MaskEdges_moveAgainstErrors v1 v2 ST = some res) : xM l y_MaskEdges_moveAgainstErrors (Cond.code y_MaskEdges_moveAgainstErrors prog_1_method_29_code 7 (some .boolean) :: xT) ({ frames := 5, cells := 0, slots := 0, locals := 129 } : Room) (xK X) [.ref (ad 0), .int v1, .int v2] H (xA ad) (some (.int res.1)) (fun H1 => va_P X.1 vwCl (wX X ad res.2) H1) := by
  refine Met.ofW (cc := prog_1_method_29_code) (maxL := 7) (ret := (some .boolean)) (by decide) rfl ?_
  intro p e s m args below meth c s₁ B hml hv
  obtain ⟨ha, hH, hKK⟩ := hv
  subst hH
  have hx := B.exec
  have hb := B.bytes
  have hr := B.returns
  have ht : ∀ w ∈ xT, w.before args s = true := fun w h => atoms_spec (ws := (Cond.code y_MaskEdges_moveAgainstErrors prog_1_method_29_code 7 (some .boolean) :: xT)) B.pre w (List.mem_cons_of_mem _ h)
  have hown : s.vm.findClass "MaskEdges" = some m.cls := findClass_of_methodNamed B.named
  have hlocks := B.notSynchronized
  have hK := hKK.1
  rw [show entryFrame m args 7 = entryFrame m ([.ref (ad 0), .int v1, .int v2] : List Value).toArray 7 from by rw [ha]]
  clear ha
  have hS : va_S (xA ad) s.heap s.heap [] := va_S.rf
  have hl := lv_entry ([.ref (ad 0), .int v1, .int v2]) (n := 7) (Nat.le_of_ble_eq_true rfl)
  rw [lg_entry_eq]
  generalize (lg_sl ([.ref (ad 0), .int v1, .int v2]) ++ List.replicate (7 - (lg_sl ([.ref (ad 0), .int v1, .int v2])).length) Slot.unset).toArray = ls at hl ⊢
  replace hl : lv_has ls 7 [(0, .ref (ad 0)), (1, .int v1), (2, .int v2)] := hl
  refine x_Q (fun Q hQ => ?_)
  have hL68 : ∀ (r5 : Int32 → Int32 → Int32 → Int32 → xSt → Option (Int32 × xSt)) (hr5 : ∀ (v1 : Int32) (v2 : Int32) (v3 : Int32) (v4 : Int32) (ST : xSt), ∀ (H : Heap) (locs : List Loc), va_P X.1 vwCl (wX X ad ST) H → va_S (xA ad) s.heap H locs → ∀ (ls : Array Slot), lv_has ls 7 [(0, .ref (ad 0)), (1, .int v1), (2, .int v2), (3, .int v3), (4, .int v4)] → r5 v1 v2 v3 v4 ST = some res → W p l e (headSpec (Cond.code y_MaskEdges_moveAgainstErrors prog_1_method_29_code 7 (some .boolean) :: xT) ({ frames := 5, cells := 0, slots := 0, locals := 129 } : Room)).room s m args below meth c H locs 0 0 Q (F0 m 5 ls [])), ∀ (v1 : Int32) (v2 : Int32) (v3 : Int32) (v4 : Int32) (ST : xSt), ∀ (H : Heap) (locs : List Loc), va_P X.1 vwCl (wX X ad ST) H → va_S (xA ad) s.heap H locs → ∀ (ls : Array Slot), lv_has ls 7 [(0, .ref (ad 0)), (1, .int v1), (2, .int v2), (3, .int v3), (4, .int v4)] → f_MaskEdges_moveAgainstErrors_68 r5 v1 v2 v3 v4 ST = some res → W p l e (headSpec (Cond.code y_MaskEdges_moveAgainstErrors prog_1_method_29_code 7 (some .boolean) :: xT) ({ frames := 5, cells := 0, slots := 0, locals := 129 } : Room)).room s m args below meth c H locs 0 0 Q (F0 m 68 ls []) := by
    intro r5 hr5 v1 v2 v3 v4 ST H locs hP hS ls hl hf
    unfold f_MaskEdges_moveAgainstErrors_68 at hf
    refine lv_iinc (v := (v4 + (1 : Int32))) (lv' := [(4, .int (v4 + (1 : Int32))), (0, .ref (ad 0)), (1, .int v1), (2, .int v2), (3, .int v3)]) hx hb d_MaskEdges_moveAgainstErrors_68 hl (k := 4) rfl rfl (by decide) rfl (fun ls hl => ?_)
    refine lv_goto (tgt := 5) hx hb d_MaskEdges_moveAgainstErrors_71 (by decide) ?_
    exact hr5 v1 v2 v3 (v4 + (1 : Int32)) ST _ _ hP hS ls (lv_sub hl [1, 2, 3, 4, 0] rfl) hf
  have hL5 : ∀ (n : Nat), ∀ (v1 : Int32) (v2 : Int32) (v3 : Int32) (v4 : Int32) (ST : xSt), ∀ (H : Heap) (locs : List Loc), va_P X.1 vwCl (wX X ad ST) H → va_S (xA ad) s.heap H locs → ∀ (ls : Array Slot), lv_has ls 7 [(0, .ref (ad 0)), (1, .int v1), (2, .int v2), (3, .int v3), (4, .int v4)] → (xloop (fun r => f_MaskEdges_moveAgainstErrors_5 r) (fun _ _ _ _ _ => none) n) v1 v2 v3 v4 ST = some res → W p l e (headSpec (Cond.code y_MaskEdges_moveAgainstErrors prog_1_method_29_code 7 (some .boolean) :: xT) ({ frames := 5, cells := 0, slots := 0, locals := 129 } : Room)).room s m args below meth c H locs 0 0 Q (F0 m 5 ls []) := by
    intro n
    induction n with
    | zero => intro v1 v2 v3 v4 ST H locs hP hS ls hl hf; cases hf
    | succ n ih =>
      intro v1 v2 v3 v4 ST H locs hP hS ls hl hf
      replace hf : f_MaskEdges_moveAgainstErrors_5 (xloop (fun r => f_MaskEdges_moveAgainstErrors_5 r) (fun _ _ _ _ _ => none) n) v1 v2 v3 v4 ST = some res := hf
      have hr5 := ih
      clear ih
      unfold f_MaskEdges_moveAgainstErrors_5 at hf
      refine lv_iload hx hb d_MaskEdges_moveAgainstErrors_5 (lv_at hl 4 rfl) ?_
      refine lv_aload_n hx hb d_MaskEdges_moveAgainstErrors_7 rfl (lv_at hl 0 rfl) ?_
      refine va_get (D := X.1) (ci := 5) (v := .int (X_pieceCount ST)) (C := "MaskEdges") (T := F_MaskEdges) (N := 14) hx hb ht in_MaskEdges hown hK hP 0 xg0 rfl 3 (by decide) (ht _ xw_158) (fun _ h9 => h9) rfl d_MaskEdges_moveAgainstErrors_8 ?_
      refine lv_icmp_ge (tgt := 74) hx hb d_MaskEdges_moveAgainstErrors_11 (by decide) (fun hc => ?_) (fun hc => ?_)
      · replace hf := x_t hc hf
        refine lv_iload_n hx hb d_MaskEdges_moveAgainstErrors_74 rfl (lv_at hl 3 rfl) ?_
        obtain ⟨zr, hf⟩ := x_g hf
        replace hf := x_s hf
        subst hf
        subst hQ
        exact W.zret (v := v3) hx hb hr (xz_n zr) (fun t ht hW => ⟨⟨rfl, by rw [ht]; exact hP⟩, hS.F ht⟩) hS.2.2 d_MaskEdges_moveAgainstErrors_75
      · replace hf := x_f hc hf
        refine lv_aload_n hx hb d_MaskEdges_moveAgainstErrors_14 rfl (lv_at hl 0 rfl) ?_
        refine va_get (D := X.1) (ci := 5) (v := .ref (ad 2)) (C := "MaskEdges") (T := F_MaskEdges) (N := 14) hx hb ht in_MaskEdges hown hK hP 0 xg0 rfl 2 (by decide) (ht _ xw_157) (fun _ h9 => h9) rfl d_MaskEdges_moveAgainstErrors_15 ?_
        refine lv_iload hx hb d_MaskEdges_moveAgainstErrors_18 (lv_at hl 4 rfl) ?_
        obtain ⟨g20, hf⟩ := x_g hf
        have hk20 := xin_lt g20
        refine va_aldq hx hb hK hP 2 3 xg2 rfl (xin_in g20) d_MaskEdges_moveAgainstErrors_20 ?_
        refine W.eq (g2 := F0 m 21 ls [.ref (ad (28 + v4.toNatClampNeg))]) rfl ?_
        refine lv_astore (lv' := [(5, .ref (ad (28 + v4.toNatClampNeg))), (0, .ref (ad 0)), (1, .int v1), (2, .int v2), (3, .int v3), (4, .int v4)]) hx hb d_MaskEdges_moveAgainstErrors_21 hl (by decide) rfl (fun ls hl => ?_)
        refine lv_aload_n hx hb d_MaskEdges_moveAgainstErrors_23 rfl (lv_at hl 1 rfl) ?_
        refine va_get (D := X.1) (ci := 5) (v := .ref (ad 3)) (C := "MaskEdges") (T := F_MaskEdges) (N := 14) hx hb ht in_MaskEdges hown hK hP 0 xg0 rfl 4 (by decide) (ht _ xw_159) (fun _ h9 => h9) rfl d_MaskEdges_moveAgainstErrors_24 ?_
        refine lv_iload hx hb d_MaskEdges_moveAgainstErrors_27 (lv_at hl 5 rfl) ?_
        refine lv_aload hx hb d_MaskEdges_moveAgainstErrors_29 (lv_at hl 0 rfl) ?_
        refine va_get (D := X.1) (ci := 4) (v := .int (Piece_move (X_pieces ST v4.toNatClampNeg))) (C := "MaskEdges$Piece") (T := F_Piece) (N := 12) hx hb ht in_Piece hown hK hP (28 + v4.toNatClampNeg) (xg_pieces0 hk20) rfl 11 (by decide) (ht _ xw_142) (fun _ h9 => h9) rfl d_MaskEdges_moveAgainstErrors_31 ?_
        obtain ⟨g34, hf⟩ := x_g hf
        refine va_iast hx hb hK hP (xD hA) hS 3 0 xg3 rfl (xin_in g34) d_MaskEdges_moveAgainstErrors_34 (fun H locs hP _ hS => ?_)
        replace hP : va_P X.1 vwCl (wX X ad (X_u_movesBefore ST (upd (X_movesBefore ST) v4.toNatClampNeg (Piece_move (X_pieces ST v4.toNatClampNeg))))) H := xeq xm_movesBefore hP
        refine lv_aload hx hb d_MaskEdges_moveAgainstErrors_35 (lv_at hl 0 rfl) ?_
        refine va_get (D := X.1) (ci := 4) (v := .int (Piece_move (X_pieces (X_u_movesBefore ST (upd (X_movesBefore ST) v4.toNatClampNeg (Piece_move (X_pieces ST v4.toNatClampNeg)))) v4.toNatClampNeg))) (C := "MaskEdges$Piece") (T := F_Piece) (N := 12) hx hb ht in_Piece hown hK hP (28 + v4.toNatClampNeg) (xg_pieces0 hk20) rfl 11 (by decide) (ht _ xw_142) (fun _ h9 => h9) rfl d_MaskEdges_moveAgainstErrors_37 ?_
        refine lv_aload_n hx hb d_MaskEdges_moveAgainstErrors_40 rfl (lv_at hl 1 rfl) ?_
        refine lv_aload hx hb d_MaskEdges_moveAgainstErrors_41 (lv_at hl 0 rfl) ?_
        refine lv_bipush (v := (100 : Int32)) hx hb d_MaskEdges_moveAgainstErrors_43 (by decide) ?_
        obtain ⟨c45, e45, hf⟩ := x_b hf
        refine xcR (va_runV (As := [.ref (ad (28 + v4.toNatClampNeg)), .int (100 : Int32)]) (rest := [.int (Piece_move (X_pieces (X_u_movesBefore ST (upd (X_movesBefore ST) v4.toNatClampNeg (Piece_move (X_pieces ST v4.toNatClampNeg)))) v4.toNatClampNeg))]) ⟨hx, hb, hml, hown, ht⟩ (c_MaskEdges_errorOf l X ad (X_u_movesBefore ST (upd (X_movesBefore ST) v4.toNatClampNeg (Piece_move (X_pieces ST v4.toNatClampNeg)))) v4.toNatClampNeg (100 : Int32) hP hk20 e45) (cwV 2 ht (xgV xw_338 xw_339 xw_8 xw_37 xw_340) rfl rfl rfl (by decide +kernel) ⟨Nat.le_of_ble_eq_true rfl, Nat.le_of_ble_eq_true rfl⟩) (xPV hKK (va_recv hK hP (ci := 5) (q0 := 0) rfl xg0)) rfl rfl hl.1 rfl (lv_room (Nat.le_of_ble_eq_true rfl)) d_MaskEdges_moveAgainstErrors_45 ⟨Nat.zero_le _, Nat.zero_le _⟩) ?_
        refine W.eq (g2 := F0 m 48 ls [.int c45, .int (Piece_move (X_pieces (X_u_movesBefore ST (upd (X_movesBefore ST) v4.toNatClampNeg (Piece_move (X_pieces ST v4.toNatClampNeg)))) v4.toNatClampNeg))]) rfl ?_
        refine lv_iload_n hx hb d_MaskEdges_moveAgainstErrors_48 rfl (lv_at hl 2 rfl) ?_
        obtain ⟨c49, e49, hf⟩ := x_b hf
        refine xcR (va_runS (As := [.int c45, .int v1]) (rest := [.int (Piece_move (X_pieces (X_u_movesBefore ST (upd (X_movesBefore ST) v4.toNatClampNeg (Piece_move (X_pieces ST v4.toNatClampNeg)))) v4.toNatClampNeg))]) ⟨hx, hb, hml, hown, ht⟩ (c_MaskEdges_clamp l X c45 v1 e49) (cwS 2 ht (xgS xw_363 xw_364 xw_37 xw_365) rfl rfl rfl (by decide +kernel) ⟨Nat.le_of_ble_eq_true rfl, Nat.le_of_ble_eq_true rfl⟩) (xPS hKK) rfl rfl hl.1 rfl (lv_room (Nat.le_of_ble_eq_true rfl)) d_MaskEdges_moveAgainstErrors_49 ⟨Nat.zero_le _, Nat.zero_le _⟩) ?_
        refine W.eq (g2 := F0 m 52 ls [.int c49, .int (Piece_move (X_pieces (X_u_movesBefore ST (upd (X_movesBefore ST) v4.toNatClampNeg (Piece_move (X_pieces ST v4.toNatClampNeg)))) v4.toNatClampNeg))]) rfl ?_
        refine lv_isub hx hb d_MaskEdges_moveAgainstErrors_52 ?_
        refine lv_istore (lv' := [(6, .int ((Piece_move (X_pieces (X_u_movesBefore ST (upd (X_movesBefore ST) v4.toNatClampNeg (Piece_move (X_pieces ST v4.toNatClampNeg)))) v4.toNatClampNeg)) - c49)), (5, .ref (ad (28 + v4.toNatClampNeg))), (0, .ref (ad 0)), (1, .int v1), (2, .int v2), (3, .int v3), (4, .int v4)]) hx hb d_MaskEdges_moveAgainstErrors_53 hl (by decide) rfl (fun ls hl => ?_)
        refine lv_aload hx hb d_MaskEdges_moveAgainstErrors_55 (lv_at hl 1 rfl) ?_
        refine lv_iload hx hb d_MaskEdges_moveAgainstErrors_57 (lv_at hl 0 rfl) ?_
        refine lv_iload_n hx hb d_MaskEdges_moveAgainstErrors_59 rfl (lv_at hl 4 rfl) ?_
        obtain ⟨c60, e60, hf⟩ := x_b hf
        refine xc (va_runV (As := [.int ((Piece_move (X_pieces (X_u_movesBefore ST (upd (X_movesBefore ST) v4.toNatClampNeg (Piece_move (X_pieces ST v4.toNatClampNeg)))) v4.toNatClampNeg)) - c49), .int v2]) (rest := []) ⟨hx, hb, hml, hown, ht⟩ (c_Piece_moveTo l X (ad (28 + v4.toNatClampNeg)) (X_pieces (X_u_movesBefore ST (upd (X_movesBefore ST) v4.toNatClampNeg (Piece_move (X_pieces ST v4.toNatClampNeg)))) v4.toNatClampNeg) ((Piece_move (X_pieces (X_u_movesBefore ST (upd (X_movesBefore ST) v4.toNatClampNeg (Piece_move (X_pieces ST v4.toNatClampNeg)))) v4.toNatClampNeg)) - c49) v2 (xs_pieces hk20 hP) (xnd1 _) e60) (cwV 2 ht (xgV xw_367 xw_368 xw_369 xw_42 xw_370) rfl rfl rfl (by decide +kernel) ⟨Nat.le_of_ble_eq_true rfl, Nat.le_of_ble_eq_true rfl⟩) (xPV hKK (va_recv hK hP (ci := 4) (q0 := (28 + v4.toNatClampNeg)) rfl (xg_pieces0 hk20))) rfl rfl hl.1 rfl (lv_room (Nat.le_of_ble_eq_true rfl)) d_MaskEdges_moveAgainstErrors_60 ⟨Nat.zero_le _, Nat.zero_le _⟩) (fun H1 L hq hz => ?_)
        replace hS := xS_call hS hz (fun q h => by
          simp only [xAl, List.mem_cons, List.mem_nil_iff, or_false] at h
          rcases h with rfl <;> exact xA_in _ (by omega))
        replace hP := xu_pieces hk20 hA hP hq hz
        clear hq hz
        refine W.eq (g2 := F0 m 63 ls [.int c60.1]) rfl ?_
        refine lv_if_eq (tgt := 68) hx hb d_MaskEdges_moveAgainstErrors_63 (by decide) (fun hc => ?_) (fun hc => ?_)
        · replace hf := x_t hc hf
          exact (hL68 _ hr5) v1 v2 v3 v4 (X_u_pieces (X_u_movesBefore ST (upd (X_movesBefore ST) v4.toNatClampNeg (Piece_move (X_pieces ST v4.toNatClampNeg)))) (va_up (X_pieces (X_u_movesBefore ST (upd (X_movesBefore ST) v4.toNatClampNeg (Piece_move (X_pieces ST v4.toNatClampNeg))))) v4.toNatClampNeg c60.2)) _ _ hP hS ls (lv_sub hl [2, 3, 4, 5, 6] rfl) hf
        · replace hf := x_f hc hf
          refine lv_iconst (v := (1 : Int32)) hx hb d_MaskEdges_moveAgainstErrors_66 (by decide) ?_
          refine lv_istore_n (lv' := [(3, .int (1 : Int32)), (6, .int ((Piece_move (X_pieces (X_u_movesBefore ST (upd (X_movesBefore ST) v4.toNatClampNeg (Piece_move (X_pieces ST v4.toNatClampNeg)))) v4.toNatClampNeg)) - c49)), (5, .ref (ad (28 + v4.toNatClampNeg))), (0, .ref (ad 0)), (1, .int v1), (2, .int v2), (4, .int v4)]) hx hb d_MaskEdges_moveAgainstErrors_67 rfl hl (by decide) rfl (fun ls hl => ?_)
          exact (hL68 _ hr5) v1 v2 (1 : Int32) v4 (X_u_pieces (X_u_movesBefore ST (upd (X_movesBefore ST) v4.toNatClampNeg (Piece_move (X_pieces ST v4.toNatClampNeg)))) (va_up (X_pieces (X_u_movesBefore ST (upd (X_movesBefore ST) v4.toNatClampNeg (Piece_move (X_pieces ST v4.toNatClampNeg))))) v4.toNatClampNeg c60.2)) _ _ hP hS ls (lv_sub hl [3, 4, 5, 0, 6] rfl) hf
  unfold f_MaskEdges_moveAgainstErrors at hf
  refine lv_iconst (v := (0 : Int32)) hx hb d_MaskEdges_moveAgainstErrors_0 (by decide) ?_
  refine lv_istore_n (lv' := [(3, .int (0 : Int32)), (0, .ref (ad 0)), (1, .int v1), (2, .int v2)]) hx hb d_MaskEdges_moveAgainstErrors_1 rfl hl (by decide) rfl (fun ls hl => ?_)
  refine lv_iconst (v := (0 : Int32)) hx hb d_MaskEdges_moveAgainstErrors_2 (by decide) ?_
  refine lv_istore (lv' := [(4, .int (0 : Int32)), (3, .int (0 : Int32)), (0, .ref (ad 0)), (1, .int v1), (2, .int v2)]) hx hb d_MaskEdges_moveAgainstErrors_3 hl (by decide) rfl (fun ls hl => ?_)
  exact (hL5 100000) v1 v2 (0 : Int32) (0 : Int32) ST _ _ hP hS ls (lv_sub hl [2, 3, 4, 1, 0] rfl) hf
def f_MaskEdges_takeMovesBack_2 (r2 : Int32 → xSt → Option (xSt)) (k31 : xSt → Option (xSt)) (v1 : Int32) (ST : xSt) : Option (xSt) :=
  if (X_pieceCount ST) ≤ v1 then
  k31 ST
else
  if xin v1 120 = true then
    if xin v1 120 = true then
      r2 (v1 + (1 : Int32)) (X_u_pieces ST (va_up (X_pieces ST) v1.toNatClampNeg (Piece_u_move (X_pieces ST v1.toNatClampNeg) (X_movesBefore ST v1.toNatClampNeg))))
    else none
  else none
def f_MaskEdges_takeMovesBack_31 (ST : xSt) : Option (xSt) :=
  (f_MaskEdges_renewMask ST).bind fun c32 =>
  some c32
def f_MaskEdges_takeMovesBack (ST : xSt) : Option (xSt) :=
  (xloop (fun r => f_MaskEdges_takeMovesBack_2 r f_MaskEdges_takeMovesBack_31) (fun _ _ => none) 100000) (0 : Int32) ST
set_option maxHeartbeats 4000000 in
set_option maxRecDepth 100000 in
theorem c_MaskEdges_takeMovesBack (l : Launch) (X : xG) {H : Heap} (ad : Nat → Nat) (ST : xSt) {res : xSt} (hP : va_P X.1 vwCl (wX X ad ST) H) (hA : okA ad) (hf : f_MaskEdges_takeMovesBack ST = some res) : xM l y_MaskEdges_takeMovesBack (Cond.code y_MaskEdges_takeMovesBack prog_1_method_30_code 2 none :: xT) ({ frames := 4, cells := 0, slots := 0, locals := 93 } : Room) (xK X) [.ref (ad 0)] H (xA ad) none (fun H1 => va_P X.1 vwCl (wX X ad res) H1) := by
  refine Met.ofW (cc := prog_1_method_30_code) (maxL := 2) (ret := none) (by decide) rfl ?_
  intro p e s m args below meth c s₁ B hml hv
  obtain ⟨ha, hH, hKK⟩ := hv
  subst hH
  have hx := B.exec
  have hb := B.bytes
  have hr := B.returns
  have ht : ∀ w ∈ xT, w.before args s = true := fun w h => atoms_spec (ws := (Cond.code y_MaskEdges_takeMovesBack prog_1_method_30_code 2 none :: xT)) B.pre w (List.mem_cons_of_mem _ h)
  have hown : s.vm.findClass "MaskEdges" = some m.cls := findClass_of_methodNamed B.named
  have hlocks := B.notSynchronized
  have hK := hKK.1
  rw [show entryFrame m args 2 = entryFrame m ([.ref (ad 0)] : List Value).toArray 2 from by rw [ha]]
  clear ha
  have hS : va_S (xA ad) s.heap s.heap [] := va_S.rf
  have hl := lv_entry ([.ref (ad 0)]) (n := 2) (Nat.le_of_ble_eq_true rfl)
  rw [lg_entry_eq]
  generalize (lg_sl ([.ref (ad 0)]) ++ List.replicate (2 - (lg_sl ([.ref (ad 0)])).length) Slot.unset).toArray = ls at hl ⊢
  replace hl : lv_has ls 2 [(0, .ref (ad 0))] := hl
  refine x_Q (fun Q hQ => ?_)
  have hL2 : ∀ (k31 : xSt → Option (xSt)) (hk31 : ∀ (ST : xSt), ∀ (H : Heap) (locs : List Loc), va_P X.1 vwCl (wX X ad ST) H → va_S (xA ad) s.heap H locs → ∀ (ls : Array Slot), lv_has ls 2 [(0, .ref (ad 0))] → k31 ST = some res → W p l e (headSpec (Cond.code y_MaskEdges_takeMovesBack prog_1_method_30_code 2 none :: xT) ({ frames := 4, cells := 0, slots := 0, locals := 93 } : Room)).room s m args below meth c H locs 0 0 Q (F0 m 31 ls [])), ∀ (n : Nat), ∀ (v1 : Int32) (ST : xSt), ∀ (H : Heap) (locs : List Loc), va_P X.1 vwCl (wX X ad ST) H → va_S (xA ad) s.heap H locs → ∀ (ls : Array Slot), lv_has ls 2 [(0, .ref (ad 0)), (1, .int v1)] → (xloop (fun r => f_MaskEdges_takeMovesBack_2 r k31) (fun _ _ => none) n) v1 ST = some res → W p l e (headSpec (Cond.code y_MaskEdges_takeMovesBack prog_1_method_30_code 2 none :: xT) ({ frames := 4, cells := 0, slots := 0, locals := 93 } : Room)).room s m args below meth c H locs 0 0 Q (F0 m 2 ls []) := by
    intro k31 hk31
    intro n
    induction n with
    | zero => intro v1 ST H locs hP hS ls hl hf; cases hf
    | succ n ih =>
      intro v1 ST H locs hP hS ls hl hf
      replace hf : f_MaskEdges_takeMovesBack_2 (xloop (fun r => f_MaskEdges_takeMovesBack_2 r k31) (fun _ _ => none) n) k31 v1 ST = some res := hf
      have hr2 := ih
      clear ih
      unfold f_MaskEdges_takeMovesBack_2 at hf
      refine lv_iload_n hx hb d_MaskEdges_takeMovesBack_2 rfl (lv_at hl 1 rfl) ?_
      refine lv_aload_n hx hb d_MaskEdges_takeMovesBack_3 rfl (lv_at hl 0 rfl) ?_
      refine va_get (D := X.1) (ci := 5) (v := .int (X_pieceCount ST)) (C := "MaskEdges") (T := F_MaskEdges) (N := 14) hx hb ht in_MaskEdges hown hK hP 0 xg0 rfl 3 (by decide) (ht _ xw_158) (fun _ h9 => h9) rfl d_MaskEdges_takeMovesBack_4 ?_
      refine lv_icmp_ge (tgt := 31) hx hb d_MaskEdges_takeMovesBack_7 (by decide) (fun hc => ?_) (fun hc => ?_)
      · replace hf := x_t hc hf
        exact hk31 ST _ _ hP hS ls (lv_sub hl [0] rfl) hf
      · replace hf := x_f hc hf
        refine lv_aload_n hx hb d_MaskEdges_takeMovesBack_10 rfl (lv_at hl 0 rfl) ?_
        refine va_get (D := X.1) (ci := 5) (v := .ref (ad 2)) (C := "MaskEdges") (T := F_MaskEdges) (N := 14) hx hb ht in_MaskEdges hown hK hP 0 xg0 rfl 2 (by decide) (ht _ xw_157) (fun _ h9 => h9) rfl d_MaskEdges_takeMovesBack_11 ?_
        refine lv_iload_n hx hb d_MaskEdges_takeMovesBack_14 rfl (lv_at hl 1 rfl) ?_
        obtain ⟨g15, hf⟩ := x_g hf
        have hk15 := xin_lt g15
        refine va_aldq hx hb hK hP 2 3 xg2 rfl (xin_in g15) d_MaskEdges_takeMovesBack_15 ?_
        refine W.eq (g2 := F0 m 16 ls [.ref (ad (28 + v1.toNatClampNeg))]) rfl ?_
        refine lv_aload_n hx hb d_MaskEdges_takeMovesBack_16 rfl (lv_at hl 0 rfl) ?_
        refine va_get (D := X.1) (ci := 5) (v := .ref (ad 3)) (C := "MaskEdges") (T := F_MaskEdges) (N := 14) hx hb ht in_MaskEdges hown hK hP 0 xg0 rfl 4 (by decide) (ht _ xw_159) (fun _ h9 => h9) rfl d_MaskEdges_takeMovesBack_17 ?_
        refine lv_iload_n hx hb d_MaskEdges_takeMovesBack_20 rfl (lv_at hl 1 rfl) ?_
        obtain ⟨g21, hf⟩ := x_g hf
        refine va_iald hx hb hK hP 3 0 xg3 rfl (xin_in g21) d_MaskEdges_takeMovesBack_21 ?_
        refine va_put (D := X.1) (ci := 4) (v := .int (X_movesBefore ST v1.toNatClampNeg)) (ty := .int) (C := "MaskEdges$Piece") (T := F_Piece) (N := 12) hx hb ht in_Piece ty_Piece tyk_Piece nm_Piece hown hK hP (xD hA) hS (28 + v1.toNatClampNeg) (xg_pieces0 hk15) rfl 11 (by decide) (ht _ xw_142) (fun _ h9 => h9) rfl (by decide +kernel) rfl rfl (Nat.le_of_ble_eq_true rfl) d_MaskEdges_takeMovesBack_22 (fun H locs hP _ hS => ?_)
        replace hP : va_P X.1 vwCl (wX X ad (X_u_pieces ST (va_up (X_pieces ST) v1.toNatClampNeg (Piece_u_move (X_pieces ST v1.toNatClampNeg) (X_movesBefore ST v1.toNatClampNeg))))) H := xeq (xm_pieces_move hk15) hP
        refine lv_iinc (v := (v1 + (1 : Int32))) (lv' := [(1, .int (v1 + (1 : Int32))), (0, .ref (ad 0))]) hx hb d_MaskEdges_takeMovesBack_25 hl (k := 1) rfl rfl (by decide) rfl (fun ls hl => ?_)
        refine lv_goto (tgt := 2) hx hb d_MaskEdges_takeMovesBack_28 (by decide) ?_
        exact hr2 (v1 + (1 : Int32)) (X_u_pieces ST (va_up (X_pieces ST) v1.toNatClampNeg (Piece_u_move (X_pieces ST v1.toNatClampNeg) (X_movesBefore ST v1.toNatClampNeg)))) _ _ hP hS ls (lv_sub hl [1, 0] rfl) hf
  have hL31 : ∀ (ST : xSt), ∀ (H : Heap) (locs : List Loc), va_P X.1 vwCl (wX X ad ST) H → va_S (xA ad) s.heap H locs → ∀ (ls : Array Slot), lv_has ls 2 [(0, .ref (ad 0))] → f_MaskEdges_takeMovesBack_31 ST = some res → W p l e (headSpec (Cond.code y_MaskEdges_takeMovesBack prog_1_method_30_code 2 none :: xT) ({ frames := 4, cells := 0, slots := 0, locals := 93 } : Room)).room s m args below meth c H locs 0 0 Q (F0 m 31 ls []) := by
    intro ST H locs hP hS ls hl hf
    unfold f_MaskEdges_takeMovesBack_31 at hf
    refine lv_aload_n hx hb d_MaskEdges_takeMovesBack_31 rfl (lv_at hl 0 rfl) ?_
    obtain ⟨c32, e32, hf⟩ := x_b hf
    refine xc (va_runV (As := []) (rest := []) ⟨hx, hb, hml, hown, ht⟩ (c_MaskEdges_renewMask l X ad ST hP hA e32) (cwV 0 ht (xgV xw_226 xw_227 xw_2 xw_37 xw_228) rfl rfl rfl (by decide +kernel) ⟨Nat.le_of_ble_eq_true rfl, Nat.le_of_ble_eq_true rfl⟩) (xPV hKK (va_recv hK hP (ci := 5) (q0 := 0) rfl xg0)) rfl rfl hl.1 rfl (lv_room (Nat.le_of_ble_eq_true rfl)) d_MaskEdges_takeMovesBack_32 ⟨Nat.zero_le _, Nat.zero_le _⟩) (fun H1 L hq hz => ?_)
    replace hS := xS_call hS hz (fun _ h => h)
    replace hP : va_P X.1 vwCl (wX X ad c32) H1 := hq
    clear hq hz
    refine W.eq (g2 := F0 m 35 ls []) rfl ?_
    replace hf := x_s hf
    subst hf
    subst hQ
    exact W.vret hx hb hr (fun t ht hW => ⟨⟨rfl, by rw [ht]; exact hP⟩, hS.F ht⟩) hS.2.2 d_MaskEdges_takeMovesBack_35
  unfold f_MaskEdges_takeMovesBack at hf
  refine lv_iconst (v := (0 : Int32)) hx hb d_MaskEdges_takeMovesBack_0 (by decide) ?_
  refine lv_istore_n (lv' := [(1, .int (0 : Int32)), (0, .ref (ad 0))]) hx hb d_MaskEdges_takeMovesBack_1 rfl hl (by decide) rfl (fun ls hl => ?_)
  exact (hL2 _ hL31 100000) (0 : Int32) ST _ _ hP hS ls (lv_sub hl [1, 0] rfl) hf
def f_MaskEdges_run_77 (r77 : Int32 → Int32 → Int32 → Int32 → xSt → Option (Int32 × xSt)) (k147 : Int32 → xSt → Option (Int32 × xSt)) (v1 : Int32) (v3 : Int32) (v4 : Int32) (v5 : Int32) (ST : xSt) : Option (Int32 × xSt) :=
  if v1 ≤ v5 then
  k147 v5 ST
else
  if xin v5 21 = true then
    if (X_worsts ST v5.toNatClampNeg) ≤ 0 then
      k147 v5 ST
    else
      (f_MaskEdges_moveAgainstErrors v3 v4 ST).bind fun c97 =>
        if c97.1 = 0 then
        k147 v5 c97.2
      else
        (f_MaskEdges_renewMask c97.2).bind fun c104 =>
          (f_MaskEdges_worstError c104).bind fun c108 =>
          if xin v5 21 = true then
          if c108 ≤ (X_worsts c104 v5.toNatClampNeg) then
            if xin (v5 + (1 : Int32)) 21 = true then
              r77 v1 v3 v4 (v5 + (1 : Int32)) (X_u_worsts c104 (upd (X_worsts c104) (v5 + (1 : Int32)).toNatClampNeg c108))
            else none
          else
            (f_MaskEdges_takeMovesBack c104).bind fun c126 =>
              k147 v5 c126
        else none
  else none
def f_MaskEdges_run_147 (v5 : Int32) (ST : xSt) : Option (Int32 × xSt) :=
  some (v5, (X_u_worstCount ST (v5 + (1 : Int32))))
def f_MaskEdges_run (v1 : Int32) (v2 : Int32) (v3 : Int32) (v4 : Int32) (ST : xSt) : Option (Int32 × xSt) :=
  (f_MaskEdges_within v1 (1 : Int32) (20 : Int32)).bind fun c4 =>
  if c4 = 0 then
  some ((-2 : Int32), ST)
else
  (f_MaskEdges_within v2 (1 : Int32) (100000 : Int32)).bind fun c14 =>
    if c14 = 0 then
    some ((-2 : Int32), ST)
  else
    (f_MaskEdges_within v3 (1 : Int32) (4 : Int32)).bind fun c26 =>
      if c26 = 0 then
      some ((-2 : Int32), ST)
    else
      (f_MaskEdges_within v4 (1 : Int32) (6 : Int32)).bind fun c37 =>
        if c37 = 0 then
        some ((-2 : Int32), ST)
      else
        if (X_pieceCount ST) = 0 then
          some ((-3 : Int32), ST)
        else
          (f_MaskEdges_worstError (X_u_exposure ST (Exposure_u_threshold (X_exposure ST) v2))).bind fun c70 =>
            if xin (0 : Int32) 21 = true then
            (xloop (fun r => f_MaskEdges_run_77 r f_MaskEdges_run_147) (fun _ _ _ _ _ => none) 100000) v1 v3 v4 (0 : Int32) (X_u_worsts (X_u_exposure ST (Exposure_u_threshold (X_exposure ST) v2)) (upd (X_worsts (X_u_exposure ST (Exposure_u_threshold (X_exposure ST) v2))) (0 : Int32).toNatClampNeg c70))
          else none
set_option maxHeartbeats 4000000 in
set_option maxRecDepth 100000 in
theorem c_MaskEdges_run (l : Launch) (X : xG) {H : Heap} (ad : Nat → Nat) (ST : xSt) (v1 : Int32) (v2 : Int32) (v3 : Int32) (v4 : Int32) {res : Int32 × xSt} (hP : va_P X.1 vwCl (wX X ad ST) H) (hA : okA ad) (hf : f_MaskEdges_run v1 v2 v3 v4 ST = some res) : xM l y_MaskEdges_run (Cond.code y_MaskEdges_run prog_1_method_8_code 7 (some .int) :: xT) ({ frames := 6, cells := 0, slots := 0, locals := 155 } : Room) (xK X) [.ref (ad 0), .int v1, .int v2, .int v3, .int v4] H (xA ad) (some (.int res.1)) (fun H1 => va_P X.1 vwCl (wX X ad res.2) H1) := by
  refine Met.ofW (cc := prog_1_method_8_code) (maxL := 7) (ret := (some .int)) (by decide) rfl ?_
  intro p e s m args below meth c s₁ B hml hv
  obtain ⟨ha, hH, hKK⟩ := hv
  subst hH
  have hx := B.exec
  have hb := B.bytes
  have hr := B.returns
  have ht : ∀ w ∈ xT, w.before args s = true := fun w h => atoms_spec (ws := (Cond.code y_MaskEdges_run prog_1_method_8_code 7 (some .int) :: xT)) B.pre w (List.mem_cons_of_mem _ h)
  have hown : s.vm.findClass "MaskEdges" = some m.cls := findClass_of_methodNamed B.named
  have hlocks := B.notSynchronized
  have hK := hKK.1
  rw [show entryFrame m args 7 = entryFrame m ([.ref (ad 0), .int v1, .int v2, .int v3, .int v4] : List Value).toArray 7 from by rw [ha]]
  clear ha
  have hS : va_S (xA ad) s.heap s.heap [] := va_S.rf
  have hl := lv_entry ([.ref (ad 0), .int v1, .int v2, .int v3, .int v4]) (n := 7) (Nat.le_of_ble_eq_true rfl)
  rw [lg_entry_eq]
  generalize (lg_sl ([.ref (ad 0), .int v1, .int v2, .int v3, .int v4]) ++ List.replicate (7 - (lg_sl ([.ref (ad 0), .int v1, .int v2, .int v3, .int v4])).length) Slot.unset).toArray = ls at hl ⊢
  replace hl : lv_has ls 7 [(0, .ref (ad 0)), (1, .int v1), (2, .int v2), (3, .int v3), (4, .int v4)] := hl
  refine x_Q (fun Q hQ => ?_)
  have hL77 : ∀ (k147 : Int32 → xSt → Option (Int32 × xSt)) (hk147 : ∀ (v5 : Int32) (ST : xSt), ∀ (H : Heap) (locs : List Loc), va_P X.1 vwCl (wX X ad ST) H → va_S (xA ad) s.heap H locs → ∀ (ls : Array Slot), lv_has ls 7 [(0, .ref (ad 0)), (5, .int v5)] → k147 v5 ST = some res → W p l e (headSpec (Cond.code y_MaskEdges_run prog_1_method_8_code 7 (some .int) :: xT) ({ frames := 6, cells := 0, slots := 0, locals := 155 } : Room)).room s m args below meth c H locs 0 0 Q (F0 m 147 ls [])), ∀ (n : Nat), ∀ (v1 : Int32) (v3 : Int32) (v4 : Int32) (v5 : Int32) (ST : xSt), ∀ (H : Heap) (locs : List Loc), va_P X.1 vwCl (wX X ad ST) H → va_S (xA ad) s.heap H locs → ∀ (ls : Array Slot), lv_has ls 7 [(0, .ref (ad 0)), (1, .int v1), (3, .int v3), (4, .int v4), (5, .int v5)] → (xloop (fun r => f_MaskEdges_run_77 r k147) (fun _ _ _ _ _ => none) n) v1 v3 v4 v5 ST = some res → W p l e (headSpec (Cond.code y_MaskEdges_run prog_1_method_8_code 7 (some .int) :: xT) ({ frames := 6, cells := 0, slots := 0, locals := 155 } : Room)).room s m args below meth c H locs 0 0 Q (F0 m 77 ls []) := by
    intro k147 hk147
    intro n
    induction n with
    | zero => intro v1 v3 v4 v5 ST H locs hP hS ls hl hf; cases hf
    | succ n ih =>
      intro v1 v3 v4 v5 ST H locs hP hS ls hl hf
      replace hf : f_MaskEdges_run_77 (xloop (fun r => f_MaskEdges_run_77 r k147) (fun _ _ _ _ _ => none) n) k147 v1 v3 v4 v5 ST = some res := hf
      have hr77 := ih
      clear ih
      unfold f_MaskEdges_run_77 at hf
      refine lv_iload hx hb d_MaskEdges_run_77 (lv_at hl 4 rfl) ?_
      refine lv_iload_n hx hb d_MaskEdges_run_79 rfl (lv_at hl 1 rfl) ?_
      refine lv_icmp_ge (tgt := 147) hx hb d_MaskEdges_run_80 (by decide) (fun hc => ?_) (fun hc => ?_)
      · replace hf := x_t hc hf
        exact hk147 v5 ST _ _ hP hS ls (lv_sub hl [0, 4] rfl) hf
      · replace hf := x_f hc hf
        refine lv_aload_n hx hb d_MaskEdges_run_83 rfl (lv_at hl 0 rfl) ?_
        refine va_get (D := X.1) (ci := 5) (v := .ref (ad 14)) (C := "MaskEdges") (T := F_MaskEdges) (N := 14) hx hb ht in_MaskEdges hown hK hP 0 xg0 rfl 11 (by decide) (ht _ xw_166) (fun _ h9 => h9) rfl d_MaskEdges_run_84 ?_
        refine lv_iload hx hb d_MaskEdges_run_87 (lv_at hl 4 rfl) ?_
        obtain ⟨g89, hf⟩ := x_g hf
        refine va_iald hx hb hK hP 14 0 xg14 rfl (xin_in g89) d_MaskEdges_run_89 ?_
        refine lv_if_le (tgt := 147) hx hb d_MaskEdges_run_90 (by decide) (fun hc => ?_) (fun hc => ?_)
        · replace hf := x_t hc hf
          exact hk147 v5 ST _ _ hP hS ls (lv_sub hl [0, 4] rfl) hf
        · replace hf := x_f hc hf
          refine lv_aload_n hx hb d_MaskEdges_run_93 rfl (lv_at hl 0 rfl) ?_
          refine lv_iload_n hx hb d_MaskEdges_run_94 rfl (lv_at hl 2 rfl) ?_
          refine lv_iload hx hb d_MaskEdges_run_95 (lv_at hl 3 rfl) ?_
          obtain ⟨c97, e97, hf⟩ := x_b hf
          refine xc (va_runV (As := [.int v3, .int v4]) (rest := []) ⟨hx, hb, hml, hown, ht⟩ (c_MaskEdges_moveAgainstErrors l X ad ST v3 v4 hP hA e97) (cwV 2 ht (xgV xw_360 xw_361 xw_10 xw_37 xw_362) rfl rfl rfl (by decide +kernel) ⟨Nat.le_of_ble_eq_true rfl, Nat.le_of_ble_eq_true rfl⟩) (xPV hKK (va_recv hK hP (ci := 5) (q0 := 0) rfl xg0)) rfl rfl hl.1 rfl (lv_room (Nat.le_of_ble_eq_true rfl)) d_MaskEdges_run_97 ⟨Nat.zero_le _, Nat.zero_le _⟩) (fun H1 L hq hz => ?_)
          replace hS := xS_call hS hz (fun _ h => h)
          replace hP : va_P X.1 vwCl (wX X ad c97.2) H1 := hq
          clear hq hz
          refine W.eq (g2 := F0 m 100 ls [.int c97.1]) rfl ?_
          refine lv_if_eq (tgt := 147) hx hb d_MaskEdges_run_100 (by decide) (fun hc => ?_) (fun hc => ?_)
          · replace hf := x_t hc hf
            exact hk147 v5 c97.2 _ _ hP hS ls (lv_sub hl [0, 4] rfl) hf
          · replace hf := x_f hc hf
            refine lv_aload_n hx hb d_MaskEdges_run_103 rfl (lv_at hl 0 rfl) ?_
            obtain ⟨c104, e104, hf⟩ := x_b hf
            refine xc (va_runV (As := []) (rest := []) ⟨hx, hb, hml, hown, ht⟩ (c_MaskEdges_renewMask l X ad c97.2 hP hA e104) (cwV 0 ht (xgV xw_226 xw_227 xw_2 xw_37 xw_228) rfl rfl rfl (by decide +kernel) ⟨Nat.le_of_ble_eq_true rfl, Nat.le_of_ble_eq_true rfl⟩) (xPV hKK (va_recv hK hP (ci := 5) (q0 := 0) rfl xg0)) rfl rfl hl.1 rfl (lv_room (Nat.le_of_ble_eq_true rfl)) d_MaskEdges_run_104 ⟨Nat.zero_le _, Nat.zero_le _⟩) (fun H1 L hq hz => ?_)
            replace hS := xS_call hS hz (fun _ h => h)
            replace hP : va_P X.1 vwCl (wX X ad c104) H1 := hq
            clear hq hz
            refine W.eq (g2 := F0 m 107 ls []) rfl ?_
            refine lv_aload_n hx hb d_MaskEdges_run_107 rfl (lv_at hl 0 rfl) ?_
            obtain ⟨c108, e108, hf⟩ := x_b hf
            refine xcR (va_runV (As := []) (rest := []) ⟨hx, hb, hml, hown, ht⟩ (c_MaskEdges_worstError l X ad c104 hP e108) (cwV 0 ht (xgV xw_355 xw_356 xw_9 xw_37 xw_357) rfl rfl rfl (by decide +kernel) ⟨Nat.le_of_ble_eq_true rfl, Nat.le_of_ble_eq_true rfl⟩) (xPV hKK (va_recv hK hP (ci := 5) (q0 := 0) rfl xg0)) rfl rfl hl.1 rfl (lv_room (Nat.le_of_ble_eq_true rfl)) d_MaskEdges_run_108 ⟨Nat.zero_le _, Nat.zero_le _⟩) ?_
            refine W.eq (g2 := F0 m 111 ls [.int c108]) rfl ?_
            refine lv_istore (lv' := [(6, .int c108), (0, .ref (ad 0)), (1, .int v1), (3, .int v3), (4, .int v4), (5, .int v5)]) hx hb d_MaskEdges_run_111 hl (by decide) rfl (fun ls hl => ?_)
            refine lv_iload hx hb d_MaskEdges_run_113 (lv_at hl 0 rfl) ?_
            refine lv_aload_n hx hb d_MaskEdges_run_115 rfl (lv_at hl 1 rfl) ?_
            refine va_get (D := X.1) (ci := 5) (v := .ref (ad 14)) (C := "MaskEdges") (T := F_MaskEdges) (N := 14) hx hb ht in_MaskEdges hown hK hP 0 xg0 rfl 11 (by decide) (ht _ xw_166) (fun _ h9 => h9) rfl d_MaskEdges_run_116 ?_
            refine lv_iload hx hb d_MaskEdges_run_119 (lv_at hl 5 rfl) ?_
            obtain ⟨g121, hf⟩ := x_g hf
            refine va_iald hx hb hK hP 14 0 xg14 rfl (xin_in g121) d_MaskEdges_run_121 ?_
            refine lv_icmp_le (tgt := 132) hx hb d_MaskEdges_run_122 (by decide) (fun hc => ?_) (fun hc => ?_)
            · replace hf := x_t hc hf
              refine lv_iinc (v := (v5 + (1 : Int32))) (lv' := [(5, .int (v5 + (1 : Int32))), (6, .int c108), (0, .ref (ad 0)), (1, .int v1), (3, .int v3), (4, .int v4)]) hx hb d_MaskEdges_run_132 hl (k := 5) rfl rfl (by decide) rfl (fun ls hl => ?_)
              refine lv_aload_n hx hb d_MaskEdges_run_135 rfl (lv_at hl 2 rfl) ?_
              refine va_get (D := X.1) (ci := 5) (v := .ref (ad 14)) (C := "MaskEdges") (T := F_MaskEdges) (N := 14) hx hb ht in_MaskEdges hown hK hP 0 xg0 rfl 11 (by decide) (ht _ xw_166) (fun _ h9 => h9) rfl d_MaskEdges_run_136 ?_
              refine lv_iload hx hb d_MaskEdges_run_139 (lv_at hl 0 rfl) ?_
              refine lv_iload hx hb d_MaskEdges_run_141 (lv_at hl 1 rfl) ?_
              obtain ⟨g143, hf⟩ := x_g hf
              refine va_iast hx hb hK hP (xD hA) hS 14 0 xg14 rfl (xin_in g143) d_MaskEdges_run_143 (fun H locs hP _ hS => ?_)
              replace hP : va_P X.1 vwCl (wX X ad (X_u_worsts c104 (upd (X_worsts c104) (v5 + (1 : Int32)).toNatClampNeg c108))) H := xeq xm_worsts hP
              refine lv_goto (tgt := 77) hx hb d_MaskEdges_run_144 (by decide) ?_
              exact hr77 v1 v3 v4 (v5 + (1 : Int32)) (X_u_worsts c104 (upd (X_worsts c104) (v5 + (1 : Int32)).toNatClampNeg c108)) _ _ hP hS ls (lv_sub hl [2, 3, 4, 5, 0] rfl) hf
            · replace hf := x_f hc hf
              refine lv_aload_n hx hb d_MaskEdges_run_125 rfl (lv_at hl 1 rfl) ?_
              obtain ⟨c126, e126, hf⟩ := x_b hf
              refine xc (va_runV (As := []) (rest := []) ⟨hx, hb, hml, hown, ht⟩ (c_MaskEdges_takeMovesBack l X ad c104 hP hA e126) (cwV 0 ht (xgV xw_372 xw_373 xw_11 xw_37 xw_374) rfl rfl rfl (by decide +kernel) ⟨Nat.le_of_ble_eq_true rfl, Nat.le_of_ble_eq_true rfl⟩) (xPV hKK (va_recv hK hP (ci := 5) (q0 := 0) rfl xg0)) rfl rfl hl.1 rfl (lv_room (Nat.le_of_ble_eq_true rfl)) d_MaskEdges_run_126 ⟨Nat.zero_le _, Nat.zero_le _⟩) (fun H1 L hq hz => ?_)
              replace hS := xS_call hS hz (fun _ h => h)
              replace hP : va_P X.1 vwCl (wX X ad c126) H1 := hq
              clear hq hz
              refine W.eq (g2 := F0 m 129 ls []) rfl ?_
              refine lv_goto (tgt := 147) hx hb d_MaskEdges_run_129 (by decide) ?_
              exact hk147 v5 c126 _ _ hP hS ls (lv_sub hl [1, 5] rfl) hf
  have hL147 : ∀ (v5 : Int32) (ST : xSt), ∀ (H : Heap) (locs : List Loc), va_P X.1 vwCl (wX X ad ST) H → va_S (xA ad) s.heap H locs → ∀ (ls : Array Slot), lv_has ls 7 [(0, .ref (ad 0)), (5, .int v5)] → f_MaskEdges_run_147 v5 ST = some res → W p l e (headSpec (Cond.code y_MaskEdges_run prog_1_method_8_code 7 (some .int) :: xT) ({ frames := 6, cells := 0, slots := 0, locals := 155 } : Room)).room s m args below meth c H locs 0 0 Q (F0 m 147 ls []) := by
    intro v5 ST H locs hP hS ls hl hf
    unfold f_MaskEdges_run_147 at hf
    refine lv_aload_n hx hb d_MaskEdges_run_147 rfl (lv_at hl 0 rfl) ?_
    refine lv_iload hx hb d_MaskEdges_run_148 (lv_at hl 1 rfl) ?_
    refine lv_iconst (v := (1 : Int32)) hx hb d_MaskEdges_run_150 (by decide) ?_
    refine lv_iadd hx hb d_MaskEdges_run_151 ?_
    refine va_put (D := X.1) (ci := 5) (v := .int (v5 + (1 : Int32))) (ty := .int) (C := "MaskEdges") (T := F_MaskEdges) (N := 14) hx hb ht in_MaskEdges ty_MaskEdges tyk_MaskEdges nm_MaskEdges hown hK hP (xD hA) hS 0 xg0 rfl 12 (by decide) (ht _ xw_167) (fun _ h9 => h9) rfl (by decide +kernel) rfl rfl (Nat.le_of_ble_eq_true rfl) d_MaskEdges_run_152 (fun H locs hP _ hS => ?_)
    replace hP : va_P X.1 vwCl (wX X ad (X_u_worstCount ST (v5 + (1 : Int32)))) H := xeq xm_worstCount hP
    refine lv_iload hx hb d_MaskEdges_run_155 (lv_at hl 1 rfl) ?_
    replace hf := x_s hf
    subst hf
    subst hQ
    exact W.iret (v := v5) hx hb hr (fun t ht hW => ⟨⟨rfl, by rw [ht]; exact hP⟩, hS.F ht⟩) hS.2.2 d_MaskEdges_run_157
  unfold f_MaskEdges_run at hf
  refine lv_iload_n hx hb d_MaskEdges_run_0 rfl (lv_at hl 1 rfl) ?_
  refine lv_iconst (v := (1 : Int32)) hx hb d_MaskEdges_run_1 (by decide) ?_
  refine lv_bipush (v := (20 : Int32)) hx hb d_MaskEdges_run_2 (by decide) ?_
  obtain ⟨c4, e4, hf⟩ := x_b hf
  refine xcR (va_runS (As := [.int v1, .int (1 : Int32), .int (20 : Int32)]) (rest := []) ⟨hx, hb, hml, hown, ht⟩ (c_MaskEdges_within l X v1 (1 : Int32) (20 : Int32) e4) (cwS 3 ht (xgS xw_263 xw_264 xw_37 xw_265) rfl rfl rfl (by decide +kernel) ⟨Nat.le_of_ble_eq_true rfl, Nat.le_of_ble_eq_true rfl⟩) (xPS hKK) rfl rfl hl.1 rfl (lv_room (Nat.le_of_ble_eq_true rfl)) d_MaskEdges_run_4 ⟨Nat.zero_le _, Nat.zero_le _⟩) ?_
  refine W.eq (g2 := F0 m 7 ls [.int c4]) rfl ?_
  refine lv_if_eq (tgt := 20) hx hb d_MaskEdges_run_7 (by decide) (fun hc => ?_) (fun hc => ?_)
  · replace hf := x_t hc hf
    refine lv_bipush (v := (-2 : Int32)) hx hb d_MaskEdges_run_20 (by decide) ?_
    replace hf := x_s hf
    subst hf
    subst hQ
    exact W.iret (v := (-2 : Int32)) hx hb hr (fun t ht hW => ⟨⟨rfl, by rw [ht]; exact hP⟩, hS.F ht⟩) hS.2.2 d_MaskEdges_run_22
  · replace hf := x_f hc hf
    refine lv_iload_n hx hb d_MaskEdges_run_10 rfl (lv_at hl 2 rfl) ?_
    refine lv_iconst (v := (1 : Int32)) hx hb d_MaskEdges_run_11 (by decide) ?_
    refine lv_ldc (v := (100000 : Int32)) hx hb hown (ht _ xw_354) d_MaskEdges_run_12 ?_
    obtain ⟨c14, e14, hf⟩ := x_b hf
    refine xcR (va_runS (As := [.int v2, .int (1 : Int32), .int (100000 : Int32)]) (rest := []) ⟨hx, hb, hml, hown, ht⟩ (c_MaskEdges_within l X v2 (1 : Int32) (100000 : Int32) e14) (cwS 3 ht (xgS xw_263 xw_264 xw_37 xw_265) rfl rfl rfl (by decide +kernel) ⟨Nat.le_of_ble_eq_true rfl, Nat.le_of_ble_eq_true rfl⟩) (xPS hKK) rfl rfl hl.1 rfl (lv_room (Nat.le_of_ble_eq_true rfl)) d_MaskEdges_run_14 ⟨Nat.zero_le _, Nat.zero_le _⟩) ?_
    refine W.eq (g2 := F0 m 17 ls [.int c14]) rfl ?_
    refine lv_if_ne (tgt := 23) hx hb d_MaskEdges_run_17 (by decide) (fun hc => ?_) (fun hc => ?_)
    · replace hf := x_f hc hf
      refine lv_iload_n hx hb d_MaskEdges_run_23 rfl (lv_at hl 3 rfl) ?_
      refine lv_iconst (v := (1 : Int32)) hx hb d_MaskEdges_run_24 (by decide) ?_
      refine lv_iconst (v := (4 : Int32)) hx hb d_MaskEdges_run_25 (by decide) ?_
      obtain ⟨c26, e26, hf⟩ := x_b hf
      refine xcR (va_runS (As := [.int v3, .int (1 : Int32), .int (4 : Int32)]) (rest := []) ⟨hx, hb, hml, hown, ht⟩ (c_MaskEdges_within l X v3 (1 : Int32) (4 : Int32) e26) (cwS 3 ht (xgS xw_263 xw_264 xw_37 xw_265) rfl rfl rfl (by decide +kernel) ⟨Nat.le_of_ble_eq_true rfl, Nat.le_of_ble_eq_true rfl⟩) (xPS hKK) rfl rfl hl.1 rfl (lv_room (Nat.le_of_ble_eq_true rfl)) d_MaskEdges_run_26 ⟨Nat.zero_le _, Nat.zero_le _⟩) ?_
      refine W.eq (g2 := F0 m 29 ls [.int c26]) rfl ?_
      refine lv_if_eq (tgt := 43) hx hb d_MaskEdges_run_29 (by decide) (fun hc => ?_) (fun hc => ?_)
      · replace hf := x_t hc hf
        refine lv_bipush (v := (-2 : Int32)) hx hb d_MaskEdges_run_43 (by decide) ?_
        replace hf := x_s hf
        subst hf
        subst hQ
        exact W.iret (v := (-2 : Int32)) hx hb hr (fun t ht hW => ⟨⟨rfl, by rw [ht]; exact hP⟩, hS.F ht⟩) hS.2.2 d_MaskEdges_run_45
      · replace hf := x_f hc hf
        refine lv_iload hx hb d_MaskEdges_run_32 (lv_at hl 4 rfl) ?_
        refine lv_iconst (v := (1 : Int32)) hx hb d_MaskEdges_run_34 (by decide) ?_
        refine lv_bipush (v := (6 : Int32)) hx hb d_MaskEdges_run_35 (by decide) ?_
        obtain ⟨c37, e37, hf⟩ := x_b hf
        refine xcR (va_runS (As := [.int v4, .int (1 : Int32), .int (6 : Int32)]) (rest := []) ⟨hx, hb, hml, hown, ht⟩ (c_MaskEdges_within l X v4 (1 : Int32) (6 : Int32) e37) (cwS 3 ht (xgS xw_263 xw_264 xw_37 xw_265) rfl rfl rfl (by decide +kernel) ⟨Nat.le_of_ble_eq_true rfl, Nat.le_of_ble_eq_true rfl⟩) (xPS hKK) rfl rfl hl.1 rfl (lv_room (Nat.le_of_ble_eq_true rfl)) d_MaskEdges_run_37 ⟨Nat.zero_le _, Nat.zero_le _⟩) ?_
        refine W.eq (g2 := F0 m 40 ls [.int c37]) rfl ?_
        refine lv_if_ne (tgt := 46) hx hb d_MaskEdges_run_40 (by decide) (fun hc => ?_) (fun hc => ?_)
        · replace hf := x_f hc hf
          refine lv_aload_n hx hb d_MaskEdges_run_46 rfl (lv_at hl 0 rfl) ?_
          refine va_get (D := X.1) (ci := 5) (v := .int (X_pieceCount ST)) (C := "MaskEdges") (T := F_MaskEdges) (N := 14) hx hb ht in_MaskEdges hown hK hP 0 xg0 rfl 3 (by decide) (ht _ xw_158) (fun _ h9 => h9) rfl d_MaskEdges_run_47 ?_
          refine lv_if_ne (tgt := 56) hx hb d_MaskEdges_run_50 (by decide) (fun hc => ?_) (fun hc => ?_)
          · replace hf := x_f hc hf
            refine lv_aload_n hx hb d_MaskEdges_run_56 rfl (lv_at hl 0 rfl) ?_
            refine va_get (D := X.1) (ci := 5) (v := .ref (ad 11)) (C := "MaskEdges") (T := F_MaskEdges) (N := 14) hx hb ht in_MaskEdges hown hK hP 0 xg0 rfl 10 (by decide) (ht _ xw_165) (fun _ h9 => h9) rfl d_MaskEdges_run_57 ?_
            refine lv_iload_n hx hb d_MaskEdges_run_60 rfl (lv_at hl 2 rfl) ?_
            refine va_put (D := X.1) (ci := 2) (v := .int v2) (ty := .int) (C := "MaskEdges$Exposure") (T := F_Exposure) (N := 4) hx hb ht in_Exposure ty_Exposure tyk_Exposure nm_Exposure hown hK hP (xD hA) hS 11 xg11 rfl 3 (by decide) (ht _ xw_75) (fun _ h9 => h9) rfl (by decide +kernel) rfl rfl (Nat.le_of_ble_eq_true rfl) d_MaskEdges_run_61 (fun H locs hP _ hS => ?_)
            replace hP : va_P X.1 vwCl (wX X ad (X_u_exposure ST (Exposure_u_threshold (X_exposure ST) v2))) H := xeq xm_exposure_threshold hP
            refine lv_aload_n hx hb d_MaskEdges_run_64 rfl (lv_at hl 0 rfl) ?_
            refine va_get (D := X.1) (ci := 5) (v := .ref (ad 14)) (C := "MaskEdges") (T := F_MaskEdges) (N := 14) hx hb ht in_MaskEdges hown hK hP 0 xg0 rfl 11 (by decide) (ht _ xw_166) (fun _ h9 => h9) rfl d_MaskEdges_run_65 ?_
            refine lv_iconst (v := (0 : Int32)) hx hb d_MaskEdges_run_68 (by decide) ?_
            refine lv_aload_n hx hb d_MaskEdges_run_69 rfl (lv_at hl 0 rfl) ?_
            obtain ⟨c70, e70, hf⟩ := x_b hf
            refine xcR (va_runV (As := []) (rest := [.int (0 : Int32), .ref (ad 14)]) ⟨hx, hb, hml, hown, ht⟩ (c_MaskEdges_worstError l X ad (X_u_exposure ST (Exposure_u_threshold (X_exposure ST) v2)) hP e70) (cwV 0 ht (xgV xw_355 xw_356 xw_9 xw_37 xw_357) rfl rfl rfl (by decide +kernel) ⟨Nat.le_of_ble_eq_true rfl, Nat.le_of_ble_eq_true rfl⟩) (xPV hKK (va_recv hK hP (ci := 5) (q0 := 0) rfl xg0)) rfl rfl hl.1 rfl (lv_room (Nat.le_of_ble_eq_true rfl)) d_MaskEdges_run_70 ⟨Nat.zero_le _, Nat.zero_le _⟩) ?_
            refine W.eq (g2 := F0 m 73 ls [.int c70, .int (0 : Int32), .ref (ad 14)]) rfl ?_
            obtain ⟨g73, hf⟩ := x_g hf
            refine va_iast hx hb hK hP (xD hA) hS 14 0 xg14 rfl (xin_in g73) d_MaskEdges_run_73 (fun H locs hP _ hS => ?_)
            replace hP : va_P X.1 vwCl (wX X ad (X_u_worsts (X_u_exposure ST (Exposure_u_threshold (X_exposure ST) v2)) (upd (X_worsts (X_u_exposure ST (Exposure_u_threshold (X_exposure ST) v2))) (0 : Int32).toNatClampNeg c70))) H := xeq xm_worsts hP
            refine lv_iconst (v := (0 : Int32)) hx hb d_MaskEdges_run_74 (by decide) ?_
            refine lv_istore (lv' := [(5, .int (0 : Int32)), (0, .ref (ad 0)), (1, .int v1), (2, .int v2), (3, .int v3), (4, .int v4)]) hx hb d_MaskEdges_run_75 hl (by decide) rfl (fun ls hl => ?_)
            exact (hL77 _ hL147 100000) v1 v3 v4 (0 : Int32) (X_u_worsts (X_u_exposure ST (Exposure_u_threshold (X_exposure ST) v2)) (upd (X_worsts (X_u_exposure ST (Exposure_u_threshold (X_exposure ST) v2))) (0 : Int32).toNatClampNeg c70)) _ _ hP hS ls (lv_sub hl [1, 2, 4, 5, 0] rfl) hf
          · replace hf := x_t hc hf
            refine lv_bipush (v := (-3 : Int32)) hx hb d_MaskEdges_run_53 (by decide) ?_
            replace hf := x_s hf
            subst hf
            subst hQ
            exact W.iret (v := (-3 : Int32)) hx hb hr (fun t ht hW => ⟨⟨rfl, by rw [ht]; exact hP⟩, hS.F ht⟩) hS.2.2 d_MaskEdges_run_55
        · replace hf := x_t hc hf
          refine lv_bipush (v := (-2 : Int32)) hx hb d_MaskEdges_run_43 (by decide) ?_
          replace hf := x_s hf
          subst hf
          subst hQ
          exact W.iret (v := (-2 : Int32)) hx hb hr (fun t ht hW => ⟨⟨rfl, by rw [ht]; exact hP⟩, hS.F ht⟩) hS.2.2 d_MaskEdges_run_45
    · replace hf := x_t hc hf
      refine lv_bipush (v := (-2 : Int32)) hx hb d_MaskEdges_run_20 (by decide) ?_
      replace hf := x_s hf
      subst hf
      subst hQ
      exact W.iret (v := (-2 : Int32)) hx hb hr (fun t ht hW => ⟨⟨rfl, by rw [ht]; exact hP⟩, hS.F ht⟩) hS.2.2 d_MaskEdges_run_22
def f_MaskEdges_moved (ST : xSt) (v1 : Int32) : Option (Int32) :=
  (f_MaskEdges_isPiece ST v1).bind fun c2 =>
  if c2 = 0 then
  some (0 : Int32)
else
  if xin v1 120 = true then
    some (Piece_move (X_pieces ST v1.toNatClampNeg))
  else none
set_option maxHeartbeats 4000000 in
set_option maxRecDepth 100000 in
theorem c_MaskEdges_moved (l : Launch) (X : xG) {H : Heap} (ad : Nat → Nat) (ST : xSt) (v1 : Int32) {res : Int32} (hP : va_P X.1 vwCl (wX X ad ST) H) (hf : f_MaskEdges_moved ST v1 = some res) : xM l y_MaskEdges_moved (Cond.code y_MaskEdges_moved prog_1_method_9_code 2 (some .int) :: xT) ({ frames := 1, cells := 0, slots := 0, locals := 21 } : Room) (xK X) [.ref (ad 0), .int v1] H xNo (some (.int res)) (fun H1 => H1 = H) := by
  refine Met.ofW (cc := prog_1_method_9_code) (maxL := 2) (ret := (some .int)) (by decide) rfl ?_
  intro p e s m args below meth c s₁ B hml hv
  obtain ⟨ha, hH, hKK⟩ := hv
  subst hH
  have hx := B.exec
  have hb := B.bytes
  have hr := B.returns
  have ht : ∀ w ∈ xT, w.before args s = true := fun w h => atoms_spec (ws := (Cond.code y_MaskEdges_moved prog_1_method_9_code 2 (some .int) :: xT)) B.pre w (List.mem_cons_of_mem _ h)
  have hown : s.vm.findClass "MaskEdges" = some m.cls := findClass_of_methodNamed B.named
  have hlocks := B.notSynchronized
  have hK := hKK.1
  rw [show entryFrame m args 2 = entryFrame m ([.ref (ad 0), .int v1] : List Value).toArray 2 from by rw [ha]]
  clear ha
  have hl := lv_entry ([.ref (ad 0), .int v1]) (n := 2) (Nat.le_of_ble_eq_true rfl)
  rw [lg_entry_eq]
  generalize (lg_sl ([.ref (ad 0), .int v1]) ++ List.replicate (2 - (lg_sl ([.ref (ad 0), .int v1])).length) Slot.unset).toArray = ls at hl ⊢
  replace hl : lv_has ls 2 [(0, .ref (ad 0)), (1, .int v1)] := hl
  refine x_Q (fun Q hQ => ?_)
  unfold f_MaskEdges_moved at hf
  refine lv_aload_n hx hb d_MaskEdges_moved_0 rfl (lv_at hl 0 rfl) ?_
  refine lv_iload_n hx hb d_MaskEdges_moved_1 rfl (lv_at hl 1 rfl) ?_
  obtain ⟨c2, e2, hf⟩ := x_b hf
  refine xcR (va_runV (As := [.int v1]) (rest := []) ⟨hx, hb, hml, hown, ht⟩ (c_MaskEdges_isPiece l X ad ST v1 hP e2) (cwV 1 ht (xgV xw_335 xw_336 xw_7 xw_37 xw_337) rfl rfl rfl (by decide +kernel) ⟨Nat.le_of_ble_eq_true rfl, Nat.le_of_ble_eq_true rfl⟩) (xPV hKK (va_recv hK hP (ci := 5) (q0 := 0) rfl xg0)) rfl rfl hl.1 rfl (lv_room (Nat.le_of_ble_eq_true rfl)) d_MaskEdges_moved_2 ⟨Nat.zero_le _, Nat.zero_le _⟩) ?_
  refine W.eq (g2 := F0 m 5 ls [.int c2]) rfl ?_
  refine lv_if_eq (tgt := 20) hx hb d_MaskEdges_moved_5 (by decide) (fun hc => ?_) (fun hc => ?_)
  · replace hf := x_t hc hf
    refine lv_iconst (v := (0 : Int32)) hx hb d_MaskEdges_moved_20 (by decide) ?_
    replace hf := x_s hf
    subst hf
    subst hQ
    exact W.iret (v := (0 : Int32)) hx hb hr (fun t ht hW => ⟨⟨rfl, ht⟩, x_F0 ht⟩) x_l0 d_MaskEdges_moved_21
  · replace hf := x_f hc hf
    refine lv_aload_n hx hb d_MaskEdges_moved_8 rfl (lv_at hl 0 rfl) ?_
    refine va_get (D := X.1) (ci := 5) (v := .ref (ad 2)) (C := "MaskEdges") (T := F_MaskEdges) (N := 14) hx hb ht in_MaskEdges hown hK hP 0 xg0 rfl 2 (by decide) (ht _ xw_157) (fun _ h9 => h9) rfl d_MaskEdges_moved_9 ?_
    refine lv_iload_n hx hb d_MaskEdges_moved_12 rfl (lv_at hl 1 rfl) ?_
    obtain ⟨g13, hf⟩ := x_g hf
    have hk13 := xin_lt g13
    refine va_aldq hx hb hK hP 2 3 xg2 rfl (xin_in g13) d_MaskEdges_moved_13 ?_
    refine W.eq (g2 := F0 m 14 ls [.ref (ad (28 + v1.toNatClampNeg))]) rfl ?_
    refine va_get (D := X.1) (ci := 4) (v := .int (Piece_move (X_pieces ST v1.toNatClampNeg))) (C := "MaskEdges$Piece") (T := F_Piece) (N := 12) hx hb ht in_Piece hown hK hP (28 + v1.toNatClampNeg) (xg_pieces0 hk13) rfl 11 (by decide) (ht _ xw_142) (fun _ h9 => h9) rfl d_MaskEdges_moved_14 ?_
    refine lv_goto (tgt := 21) hx hb d_MaskEdges_moved_17 (by decide) ?_
    replace hf := x_s hf
    subst hf
    subst hQ
    exact W.iret (v := (Piece_move (X_pieces ST v1.toNatClampNeg))) hx hb hr (fun t ht hW => ⟨⟨rfl, ht⟩, x_F0 ht⟩) x_l0 d_MaskEdges_moved_21
def f_MaskEdges_worst (ST : xSt) (v1 : Int32) : Option (Int32) :=
  if v1 < 0 then
  some (-1 : Int32)
else
  if (X_worstCount ST) ≤ v1 then
    some (-1 : Int32)
  else
    if xin v1 21 = true then
      some (X_worsts ST v1.toNatClampNeg)
    else none
set_option maxHeartbeats 4000000 in
set_option maxRecDepth 100000 in
theorem c_MaskEdges_worst (l : Launch) (X : xG) {H : Heap} (ad : Nat → Nat) (ST : xSt) (v1 : Int32) {res : Int32} (hP : va_P X.1 vwCl (wX X ad ST) H) (hf : f_MaskEdges_worst ST v1 = some res) : xM l y_MaskEdges_worst (Cond.code y_MaskEdges_worst prog_1_method_10_code 2 (some .int) :: xT) ({ frames := 0, cells := 0, slots := 0, locals := 0 } : Room) (xK X) [.ref (ad 0), .int v1] H xNo (some (.int res)) (fun H1 => H1 = H) := by
  refine Met.ofW (cc := prog_1_method_10_code) (maxL := 2) (ret := (some .int)) (by decide) rfl ?_
  intro p e s m args below meth c s₁ B hml hv
  obtain ⟨ha, hH, hKK⟩ := hv
  subst hH
  have hx := B.exec
  have hb := B.bytes
  have hr := B.returns
  have ht : ∀ w ∈ xT, w.before args s = true := fun w h => atoms_spec (ws := (Cond.code y_MaskEdges_worst prog_1_method_10_code 2 (some .int) :: xT)) B.pre w (List.mem_cons_of_mem _ h)
  have hown : s.vm.findClass "MaskEdges" = some m.cls := findClass_of_methodNamed B.named
  have hlocks := B.notSynchronized
  have hK := hKK.1
  rw [show entryFrame m args 2 = entryFrame m ([.ref (ad 0), .int v1] : List Value).toArray 2 from by rw [ha]]
  clear ha
  have hl := lv_entry ([.ref (ad 0), .int v1]) (n := 2) (Nat.le_of_ble_eq_true rfl)
  rw [lg_entry_eq]
  generalize (lg_sl ([.ref (ad 0), .int v1]) ++ List.replicate (2 - (lg_sl ([.ref (ad 0), .int v1])).length) Slot.unset).toArray = ls at hl ⊢
  replace hl : lv_has ls 2 [(0, .ref (ad 0)), (1, .int v1)] := hl
  refine x_Q (fun Q hQ => ?_)
  unfold f_MaskEdges_worst at hf
  refine lv_iload_n hx hb d_MaskEdges_worst_0 rfl (lv_at hl 1 rfl) ?_
  refine lv_if_lt (tgt := 21) hx hb d_MaskEdges_worst_1 (by decide) (fun hc => ?_) (fun hc => ?_)
  · replace hf := x_t hc hf
    refine lv_iconst (v := (-1 : Int32)) hx hb d_MaskEdges_worst_21 (by decide) ?_
    replace hf := x_s hf
    subst hf
    subst hQ
    exact W.iret (v := (-1 : Int32)) hx hb hr (fun t ht hW => ⟨⟨rfl, ht⟩, x_F0 ht⟩) x_l0 d_MaskEdges_worst_22
  · replace hf := x_f hc hf
    refine lv_iload_n hx hb d_MaskEdges_worst_4 rfl (lv_at hl 1 rfl) ?_
    refine lv_aload_n hx hb d_MaskEdges_worst_5 rfl (lv_at hl 0 rfl) ?_
    refine va_get (D := X.1) (ci := 5) (v := .int (X_worstCount ST)) (C := "MaskEdges") (T := F_MaskEdges) (N := 14) hx hb ht in_MaskEdges hown hK hP 0 xg0 rfl 12 (by decide) (ht _ xw_167) (fun _ h9 => h9) rfl d_MaskEdges_worst_6 ?_
    refine lv_icmp_ge (tgt := 21) hx hb d_MaskEdges_worst_9 (by decide) (fun hc => ?_) (fun hc => ?_)
    · replace hf := x_t hc hf
      refine lv_iconst (v := (-1 : Int32)) hx hb d_MaskEdges_worst_21 (by decide) ?_
      replace hf := x_s hf
      subst hf
      subst hQ
      exact W.iret (v := (-1 : Int32)) hx hb hr (fun t ht hW => ⟨⟨rfl, ht⟩, x_F0 ht⟩) x_l0 d_MaskEdges_worst_22
    · replace hf := x_f hc hf
      refine lv_aload_n hx hb d_MaskEdges_worst_12 rfl (lv_at hl 0 rfl) ?_
      refine va_get (D := X.1) (ci := 5) (v := .ref (ad 14)) (C := "MaskEdges") (T := F_MaskEdges) (N := 14) hx hb ht in_MaskEdges hown hK hP 0 xg0 rfl 11 (by decide) (ht _ xw_166) (fun _ h9 => h9) rfl d_MaskEdges_worst_13 ?_
      refine lv_iload_n hx hb d_MaskEdges_worst_16 rfl (lv_at hl 1 rfl) ?_
      obtain ⟨g17, hf⟩ := x_g hf
      refine va_iald hx hb hK hP 14 0 xg14 rfl (xin_in g17) d_MaskEdges_worst_17 ?_
      refine lv_goto (tgt := 22) hx hb d_MaskEdges_worst_18 (by decide) ?_
      replace hf := x_s hf
      subst hf
      subst hQ
      exact W.iret (v := (X_worsts ST v1.toNatClampNeg)) hx hb hr (fun t ht hW => ⟨⟨rfl, ht⟩, x_F0 ht⟩) x_l0 d_MaskEdges_worst_22
