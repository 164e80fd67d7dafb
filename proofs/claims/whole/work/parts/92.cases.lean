/-! The law's cases. -/
theorem xkeep {D : va_G} {cl : List vw_C} {ws : va_W} {A : Nat → Prop} {H H1 : Heap} {L : List Loc} (h : va_P D cl ws H) (hz : xFr A H H1 L) (hno : ∀ (k : Nat) (q : Nat × va_E), ws[k]? = some q → ¬ A q.1) : va_P D cl ws H1 := fun k q hk => (h k q hk).kept (hz.2.1 q.1 (h k q hk).lt (hno k q hk))
theorem in5 {i L j : Nat} (hi : i + 6 ≤ L) (hL : L ≤ 3072) (hj : j ≤ 5) {v : Int32} (hv : v = nI j) : vp_in (nI i + v) L := by
  rw [hv, nadd]
  exact vp_in_nI (by omega) (by omega)
set_option maxHeartbeats 4000000 in
set_option maxRecDepth 100000 in
theorem law_polygon {p : Program} {l : Launch} {e : Env} {s : State} {m : MethodId} {below : List Frame} {meth : Method} {c : Code} {b L : Nat} {xs : Nat → Int32} {X : xG} {ad bd : Nat → Nat} (C0 : lw_At p s m meth c b L xs) (hKK : xK X s) (hA : okA ad) (hB : okB bd) (had : ∀ j, j < 172 → s.heap.size ≤ ad j) (hbd : ∀ j, j < 23 → s.heap.size ≤ bd j) (hap : ∀ i j, i < 172 → j < 23 → ad i ≠ bd j) {i : Nat} (hi : i + 6 ≤ L) (hL : L ≤ 3072) {ST : xSt} {SY : ySt} (hrel : rel ST SY) {H : Heap} {locs : List Loc} (hP : va_P X.1 vwCl (wX X ad ST) H) (hPy : va_P X.1 vwCl (wY X bd SY) H) (hS : va_S (fun q : Nat => s.heap.size ≤ q) s.heap H locs) {ls : Array Slot} (hl : lv_has ls 4 [(0, .ref b), (1, .ref (ad 0)), (2, .ref (bd 0)), (3, .int (nI i))]) {Q : State → Prop} (kk : ∀ (ST' : xSt) (SY' : ySt) (H : Heap) (locs : List Loc), rel ST' SY' → va_P X.1 vwCl (wX X ad ST') H → va_P X.1 vwCl (wY X bd SY') H → va_S (fun q : Nat => s.heap.size ≤ q) s.heap H locs → W p l e room_1 s m #[Value.ref b] below meth c H locs 195 8228 Q (F0 m 643 ls [])) : W p l e room_1 s m #[Value.ref b] below meth c H locs 195 8228 Q (F0 m 108 ls []) := by
  obtain ⟨hx, hb, hr, hml, hown0, hts, hX, hbl, hlocks, hgv⟩ := id C0
  have ht : ∀ w ∈ xT, w.before #[Value.ref b] s = true := fun w h => hts w (xTg w h).1
  have hown : s.vm.findClass "MaskEdgesLaw" = some m.cls := hown0
  have hK := hKK.1
  have hbA : ¬ (fun q : Nat => s.heap.size ≤ q) b := Nat.not_le.mpr hbl
  obtain ⟨v, x', y', e1, e2, hr2⟩ := op_polygon hrel 
  refine lv_aload_n hx hb d_Law_law_108 rfl (lv_at hl 1 rfl) ?_
  refine xc (va_runV (As := []) (rest := []) ⟨hx, hb, hml, hown, ht⟩ (c_MaskEdges_polygon l X ad ST hP hA e1) (cwV 0 ht (xgV xw_183 xw_184 xw_185 xw_37 xw_186) rfl rfl rfl (by decide +kernel) ⟨Nat.le_of_ble_eq_true rfl, Nat.le_of_ble_eq_true rfl⟩) (xPV hKK (va_recv hK hP (ci := 5) (q0 := 0) rfl xg0)) rfl rfl hl.1 rfl (lv_room (Nat.le_of_ble_eq_true rfl)) d_Law_law_109 ⟨Nat.le_of_ble_eq_true rfl, Nat.le_of_ble_eq_true rfl⟩) (fun H1 L1 hq hz => ?_)
  replace hS := xS_call hS hz (fun q h => by obtain ⟨j, h1, h2⟩ := h; show s.heap.size ≤ q; rw [h2]; exact had j h1)
  replace hPy := xkeep hPy hz (fun k q hk h => by obtain ⟨h1, rfl⟩ := y_at hk; obtain ⟨j, h3, h4⟩ := h; exact hap j k h3 h1 h4.symm)
  replace hP : va_P X.1 vwCl (wX X ad x') H1 := hq
  clear hq hz
  refine W.eq (g2 := F0 m 112 ls [.int v]) rfl ?_
  refine lv_aload_n hx hb d_Law_law_112 rfl (lv_at hl 2 rfl) ?_
  refine xc (va_runV (As := []) (rest := [.int v]) ⟨hx, hb, hml, hown, ht⟩ (c_MaskEdgesModel_polygon l X bd SY hPy hB e2) (cwV 0 ht (xgV xw_504 xw_505 xw_506 xw_43 xw_507) rfl rfl rfl (by decide +kernel) ⟨Nat.le_of_ble_eq_true rfl, Nat.le_of_ble_eq_true rfl⟩) (xPV hKK (va_recv hK hPy (ci := 6) (q0 := 0) rfl yg0)) rfl rfl hl.1 rfl (lv_room (Nat.le_of_ble_eq_true rfl)) d_Law_law_113 ⟨Nat.le_of_ble_eq_true rfl, Nat.le_of_ble_eq_true rfl⟩) (fun H1 L1 hq hz => ?_)
  replace hS := xS_call hS hz (fun q h => by obtain ⟨j, h1, h2⟩ := h; show s.heap.size ≤ q; rw [h2]; exact hbd j h1)
  replace hP := xkeep hP hz (fun k q hk h => by obtain ⟨h1, rfl⟩ := x_at hk; obtain ⟨j, h3, h4⟩ := h; exact hap k j h1 h3 h4)
  replace hPy : va_P X.1 vwCl (wY X bd y') H1 := hq
  clear hq hz
  refine W.eq (g2 := F0 m 116 ls [.int v, .int v]) rfl ?_
  refine lv_icmp_eq (tgt := 643) hx hb d_Law_law_116 (by decide) (fun hc => ?_) (fun hc => absurd rfl hc)
  exact kk x' y' _ _ hr2 hP hPy hS
set_option maxHeartbeats 4000000 in
set_option maxRecDepth 100000 in
theorem law_corner {p : Program} {l : Launch} {e : Env} {s : State} {m : MethodId} {below : List Frame} {meth : Method} {c : Code} {b L : Nat} {xs : Nat → Int32} {X : xG} {ad bd : Nat → Nat} (C0 : lw_At p s m meth c b L xs) (hKK : xK X s) (hA : okA ad) (hB : okB bd) (had : ∀ j, j < 172 → s.heap.size ≤ ad j) (hbd : ∀ j, j < 23 → s.heap.size ≤ bd j) (hap : ∀ i j, i < 172 → j < 23 → ad i ≠ bd j) {i : Nat} (hi : i + 6 ≤ L) (hL : L ≤ 3072) {ST : xSt} {SY : ySt} (hrel : rel ST SY) {H : Heap} {locs : List Loc} (hP : va_P X.1 vwCl (wX X ad ST) H) (hPy : va_P X.1 vwCl (wY X bd SY) H) (hS : va_S (fun q : Nat => s.heap.size ≤ q) s.heap H locs) {ls : Array Slot} (hl : lv_has ls 4 [(0, .ref b), (1, .ref (ad 0)), (2, .ref (bd 0)), (3, .int (nI i))]) {Q : State → Prop} (kk : ∀ (ST' : xSt) (SY' : ySt) (H : Heap) (locs : List Loc), rel ST' SY' → va_P X.1 vwCl (wX X ad ST') H → va_P X.1 vwCl (wY X bd SY') H → va_S (fun q : Nat => s.heap.size ≤ q) s.heap H locs → W p l e room_1 s m #[Value.ref b] below meth c H locs 195 8228 Q (F0 m 643 ls [])) : W p l e room_1 s m #[Value.ref b] below meth c H locs 195 8228 Q (F0 m 121 ls []) := by
  obtain ⟨hx, hb, hr, hml, hown0, hts, hX, hbl, hlocks, hgv⟩ := id C0
  have ht : ∀ w ∈ xT, w.before #[Value.ref b] s = true := fun w h => hts w (xTg w h).1
  have hown : s.vm.findClass "MaskEdgesLaw" = some m.cls := hown0
  have hK := hKK.1
  have hbA : ¬ (fun q : Nat => s.heap.size ≤ q) b := Nat.not_le.mpr hbl
  obtain ⟨vX, hvX⟩ : ∃ v : Int64, v = (((xs (nI i + 2).toNatClampNeg).toInt64 <<< ((32 : Int32).toInt64 &&& 63)) ||| ((xs (nI i + 3).toNatClampNeg).toInt64 &&& (4294967295 : Int64))) := ⟨_, rfl⟩
  obtain ⟨vY, hvY⟩ : ∃ v : Int64, v = (((xs (nI i + 4).toNatClampNeg).toInt64 <<< ((32 : Int32).toInt64 &&& 63)) ||| ((xs (nI i + 5).toNatClampNeg).toInt64 &&& (4294967295 : Int64))) := ⟨_, rfl⟩
  obtain ⟨v, x', y', e1, e2, hr2⟩ := op_corner hrel (xs (nI i + 1).toNatClampNeg) vX vY
  refine lv_aload_n hx hb d_Law_law_121 rfl (lv_at hl 1 rfl) ?_
  refine lv_aload_n hx hb d_Law_law_122 rfl (lv_at hl 0 rfl) ?_
  refine lv_iload_n hx hb d_Law_law_123 rfl (lv_at hl 3 rfl) ?_
  refine lv_iconst (v := 1) hx hb d_Law_law_124 (by decide) ?_
  refine lv_iadd hx hb d_Law_law_125 ?_
  refine va_sld hx hb hX hbl hbA hS (in5 (j := 1) hi hL (by omega) rfl) d_Law_law_126 ?_
  refine lv_aload_n hx hb d_Law_law_127 rfl (lv_at hl 0 rfl) ?_
  refine lv_iload_n hx hb d_Law_law_128 rfl (lv_at hl 3 rfl) ?_
  refine lv_iconst (v := 2) hx hb d_Law_law_129 (by decide) ?_
  refine lv_iadd hx hb d_Law_law_130 ?_
  refine va_sld hx hb hX hbl hbA hS (in5 (j := 2) hi hL (by omega) rfl) d_Law_law_131 ?_
  refine lv_i2l hx hb d_Law_law_132 rfl ?_
  refine lv_bipush (v := 32) hx hb d_Law_law_133 (by decide) ?_
  refine lv_lshl hx hb d_Law_law_135 rfl ?_
  refine lv_aload_n hx hb d_Law_law_136 rfl (lv_at hl 0 rfl) ?_
  refine lv_iload_n hx hb d_Law_law_137 rfl (lv_at hl 3 rfl) ?_
  refine lv_iconst (v := 3) hx hb d_Law_law_138 (by decide) ?_
  refine lv_iadd hx hb d_Law_law_139 ?_
  refine va_sld hx hb hX hbl hbA hS (in5 (j := 3) hi hL (by omega) rfl) d_Law_law_140 ?_
  refine lv_i2l hx hb d_Law_law_141 rfl ?_
  refine lv_ldc2 (v := (4294967295 : Int64)) hx hb hown (ht _ xw_656) d_Law_law_142 ?_
  refine lv_land hx hb d_Law_law_145 ?_
  refine lv_lor hx hb d_Law_law_146 ?_
  rw [← hvX]
  refine lv_aload_n hx hb d_Law_law_147 rfl (lv_at hl 0 rfl) ?_
  refine lv_iload_n hx hb d_Law_law_148 rfl (lv_at hl 3 rfl) ?_
  refine lv_iconst (v := 4) hx hb d_Law_law_149 (by decide) ?_
  refine lv_iadd hx hb d_Law_law_150 ?_
  refine va_sld hx hb hX hbl hbA hS (in5 (j := 4) hi hL (by omega) rfl) d_Law_law_151 ?_
  refine lv_i2l hx hb d_Law_law_152 rfl ?_
  refine lv_bipush (v := 32) hx hb d_Law_law_153 (by decide) ?_
  refine lv_lshl hx hb d_Law_law_155 rfl ?_
  refine lv_aload_n hx hb d_Law_law_156 rfl (lv_at hl 0 rfl) ?_
  refine lv_iload_n hx hb d_Law_law_157 rfl (lv_at hl 3 rfl) ?_
  refine lv_iconst (v := 5) hx hb d_Law_law_158 (by decide) ?_
  refine lv_iadd hx hb d_Law_law_159 ?_
  refine va_sld hx hb hX hbl hbA hS (in5 (j := 5) hi hL (by omega) rfl) d_Law_law_160 ?_
  refine lv_i2l hx hb d_Law_law_161 rfl ?_
  refine lv_ldc2 (v := (4294967295 : Int64)) hx hb hown (ht _ xw_656) d_Law_law_162 ?_
  refine lv_land hx hb d_Law_law_165 ?_
  refine lv_lor hx hb d_Law_law_166 ?_
  rw [← hvY]
  refine xc (va_runV (As := [.int (xs (nI i + 1).toNatClampNeg), .long vX, .long vY]) (rest := []) ⟨hx, hb, hml, hown, ht⟩ (c_MaskEdges_corner l X ad ST (xs (nI i + 1).toNatClampNeg) vX vY hP hA e1) (cwV 3 ht (xgV xw_187 xw_188 xw_189 xw_37 xw_190) rfl rfl rfl (by decide +kernel) ⟨Nat.le_of_ble_eq_true rfl, Nat.le_of_ble_eq_true rfl⟩) (xPV hKK (va_recv hK hP (ci := 5) (q0 := 0) rfl xg0)) rfl rfl hl.1 rfl (lv_room (Nat.le_of_ble_eq_true rfl)) d_Law_law_167 ⟨Nat.le_of_ble_eq_true rfl, Nat.le_of_ble_eq_true rfl⟩) (fun H1 L1 hq hz => ?_)
  replace hS := xS_call hS hz (fun q h => by obtain ⟨j, h1, h2⟩ := h; show s.heap.size ≤ q; rw [h2]; exact had j h1)
  replace hPy := xkeep hPy hz (fun k q hk h => by obtain ⟨h1, rfl⟩ := y_at hk; obtain ⟨j, h3, h4⟩ := h; exact hap j k h3 h1 h4.symm)
  replace hP : va_P X.1 vwCl (wX X ad x') H1 := hq
  clear hq hz
  refine W.eq (g2 := F0 m 170 ls [.int v]) rfl ?_
  refine lv_aload_n hx hb d_Law_law_170 rfl (lv_at hl 2 rfl) ?_
  refine lv_aload_n hx hb d_Law_law_171 rfl (lv_at hl 0 rfl) ?_
  refine lv_iload_n hx hb d_Law_law_172 rfl (lv_at hl 3 rfl) ?_
  refine lv_iconst (v := 1) hx hb d_Law_law_173 (by decide) ?_
  refine lv_iadd hx hb d_Law_law_174 ?_
  refine va_sld hx hb hX hbl hbA hS (in5 (j := 1) hi hL (by omega) rfl) d_Law_law_175 ?_
  refine lv_aload_n hx hb d_Law_law_176 rfl (lv_at hl 0 rfl) ?_
  refine lv_iload_n hx hb d_Law_law_177 rfl (lv_at hl 3 rfl) ?_
  refine lv_iconst (v := 2) hx hb d_Law_law_178 (by decide) ?_
  refine lv_iadd hx hb d_Law_law_179 ?_
  refine va_sld hx hb hX hbl hbA hS (in5 (j := 2) hi hL (by omega) rfl) d_Law_law_180 ?_
  refine lv_i2l hx hb d_Law_law_181 rfl ?_
  refine lv_bipush (v := 32) hx hb d_Law_law_182 (by decide) ?_
  refine lv_lshl hx hb d_Law_law_184 rfl ?_
  refine lv_aload_n hx hb d_Law_law_185 rfl (lv_at hl 0 rfl) ?_
  refine lv_iload_n hx hb d_Law_law_186 rfl (lv_at hl 3 rfl) ?_
  refine lv_iconst (v := 3) hx hb d_Law_law_187 (by decide) ?_
  refine lv_iadd hx hb d_Law_law_188 ?_
  refine va_sld hx hb hX hbl hbA hS (in5 (j := 3) hi hL (by omega) rfl) d_Law_law_189 ?_
  refine lv_i2l hx hb d_Law_law_190 rfl ?_
  refine lv_ldc2 (v := (4294967295 : Int64)) hx hb hown (ht _ xw_656) d_Law_law_191 ?_
  refine lv_land hx hb d_Law_law_194 ?_
  refine lv_lor hx hb d_Law_law_195 ?_
  rw [← hvX]
  refine lv_aload_n hx hb d_Law_law_196 rfl (lv_at hl 0 rfl) ?_
  refine lv_iload_n hx hb d_Law_law_197 rfl (lv_at hl 3 rfl) ?_
  refine lv_iconst (v := 4) hx hb d_Law_law_198 (by decide) ?_
  refine lv_iadd hx hb d_Law_law_199 ?_
  refine va_sld hx hb hX hbl hbA hS (in5 (j := 4) hi hL (by omega) rfl) d_Law_law_200 ?_
  refine lv_i2l hx hb d_Law_law_201 rfl ?_
  refine lv_bipush (v := 32) hx hb d_Law_law_202 (by decide) ?_
  refine lv_lshl hx hb d_Law_law_204 rfl ?_
  refine lv_aload_n hx hb d_Law_law_205 rfl (lv_at hl 0 rfl) ?_
  refine lv_iload_n hx hb d_Law_law_206 rfl (lv_at hl 3 rfl) ?_
  refine lv_iconst (v := 5) hx hb d_Law_law_207 (by decide) ?_
  refine lv_iadd hx hb d_Law_law_208 ?_
  refine va_sld hx hb hX hbl hbA hS (in5 (j := 5) hi hL (by omega) rfl) d_Law_law_209 ?_
  refine lv_i2l hx hb d_Law_law_210 rfl ?_
  refine lv_ldc2 (v := (4294967295 : Int64)) hx hb hown (ht _ xw_656) d_Law_law_211 ?_
  refine lv_land hx hb d_Law_law_214 ?_
  refine lv_lor hx hb d_Law_law_215 ?_
  rw [← hvY]
  refine xc (va_runV (As := [.int (xs (nI i + 1).toNatClampNeg), .long vX, .long vY]) (rest := [.int v]) ⟨hx, hb, hml, hown, ht⟩ (c_MaskEdgesModel_corner l X bd SY (xs (nI i + 1).toNatClampNeg) vX vY hPy hB e2) (cwV 3 ht (xgV xw_508 xw_509 xw_510 xw_43 xw_511) rfl rfl rfl (by decide +kernel) ⟨Nat.le_of_ble_eq_true rfl, Nat.le_of_ble_eq_true rfl⟩) (xPV hKK (va_recv hK hPy (ci := 6) (q0 := 0) rfl yg0)) rfl rfl hl.1 rfl (lv_room (Nat.le_of_ble_eq_true rfl)) d_Law_law_216 ⟨Nat.le_of_ble_eq_true rfl, Nat.le_of_ble_eq_true rfl⟩) (fun H1 L1 hq hz => ?_)
  replace hS := xS_call hS hz (fun q h => by obtain ⟨j, h1, h2⟩ := h; show s.heap.size ≤ q; rw [h2]; exact hbd j h1)
  replace hP := xkeep hP hz (fun k q hk h => by obtain ⟨h1, rfl⟩ := x_at hk; obtain ⟨j, h3, h4⟩ := h; exact hap k j h1 h3 h4)
  replace hPy : va_P X.1 vwCl (wY X bd y') H1 := hq
  clear hq hz
  refine W.eq (g2 := F0 m 219 ls [.int v, .int v]) rfl ?_
  refine lv_icmp_eq (tgt := 643) hx hb d_Law_law_219 (by decide) (fun hc => ?_) (fun hc => absurd rfl hc)
  exact kk x' y' _ _ hr2 hP hPy hS
set_option maxHeartbeats 4000000 in
set_option maxRecDepth 100000 in
theorem law_kernel {p : Program} {l : Launch} {e : Env} {s : State} {m : MethodId} {below : List Frame} {meth : Method} {c : Code} {b L : Nat} {xs : Nat → Int32} {X : xG} {ad bd : Nat → Nat} (C0 : lw_At p s m meth c b L xs) (hKK : xK X s) (hA : okA ad) (hB : okB bd) (had : ∀ j, j < 172 → s.heap.size ≤ ad j) (hbd : ∀ j, j < 23 → s.heap.size ≤ bd j) (hap : ∀ i j, i < 172 → j < 23 → ad i ≠ bd j) {i : Nat} (hi : i + 6 ≤ L) (hL : L ≤ 3072) {ST : xSt} {SY : ySt} (hrel : rel ST SY) {H : Heap} {locs : List Loc} (hP : va_P X.1 vwCl (wX X ad ST) H) (hPy : va_P X.1 vwCl (wY X bd SY) H) (hS : va_S (fun q : Nat => s.heap.size ≤ q) s.heap H locs) {ls : Array Slot} (hl : lv_has ls 4 [(0, .ref b), (1, .ref (ad 0)), (2, .ref (bd 0)), (3, .int (nI i))]) {Q : State → Prop} (kk : ∀ (ST' : xSt) (SY' : ySt) (H : Heap) (locs : List Loc), rel ST' SY' → va_P X.1 vwCl (wX X ad ST') H → va_P X.1 vwCl (wY X bd SY') H → va_S (fun q : Nat => s.heap.size ≤ q) s.heap H locs → W p l e room_1 s m #[Value.ref b] below meth c H locs 195 8228 Q (F0 m 643 ls [])) : W p l e room_1 s m #[Value.ref b] below meth c H locs 195 8228 Q (F0 m 224 ls []) := by
  obtain ⟨hx, hb, hr, hml, hown0, hts, hX, hbl, hlocks, hgv⟩ := id C0
  have ht : ∀ w ∈ xT, w.before #[Value.ref b] s = true := fun w h => hts w (xTg w h).1
  have hown : s.vm.findClass "MaskEdgesLaw" = some m.cls := hown0
  have hK := hKK.1
  have hbA : ¬ (fun q : Nat => s.heap.size ≤ q) b := Nat.not_le.mpr hbl
  obtain ⟨v, x', y', e1, e2, hr2⟩ := op_kernel hrel (xs (nI i + 1).toNatClampNeg) (xs (nI i + 2).toNatClampNeg)
  refine lv_aload_n hx hb d_Law_law_224 rfl (lv_at hl 1 rfl) ?_
  refine lv_aload_n hx hb d_Law_law_225 rfl (lv_at hl 0 rfl) ?_
  refine lv_iload_n hx hb d_Law_law_226 rfl (lv_at hl 3 rfl) ?_
  refine lv_iconst (v := 1) hx hb d_Law_law_227 (by decide) ?_
  refine lv_iadd hx hb d_Law_law_228 ?_
  refine va_sld hx hb hX hbl hbA hS (in5 (j := 1) hi hL (by omega) rfl) d_Law_law_229 ?_
  refine lv_aload_n hx hb d_Law_law_230 rfl (lv_at hl 0 rfl) ?_
  refine lv_iload_n hx hb d_Law_law_231 rfl (lv_at hl 3 rfl) ?_
  refine lv_iconst (v := 2) hx hb d_Law_law_232 (by decide) ?_
  refine lv_iadd hx hb d_Law_law_233 ?_
  refine va_sld hx hb hX hbl hbA hS (in5 (j := 2) hi hL (by omega) rfl) d_Law_law_234 ?_
  refine xc (va_runV (As := [.int (xs (nI i + 1).toNatClampNeg), .int (xs (nI i + 2).toNatClampNeg)]) (rest := []) ⟨hx, hb, hml, hown, ht⟩ (c_MaskEdges_kernel l X ad ST (xs (nI i + 1).toNatClampNeg) (xs (nI i + 2).toNatClampNeg) hP hA e1) (cwV 2 ht (xgV xw_259 xw_260 xw_261 xw_37 xw_262) rfl rfl rfl (by decide +kernel) ⟨Nat.le_of_ble_eq_true rfl, Nat.le_of_ble_eq_true rfl⟩) (xPV hKK (va_recv hK hP (ci := 5) (q0 := 0) rfl xg0)) rfl rfl hl.1 rfl (lv_room (Nat.le_of_ble_eq_true rfl)) d_Law_law_235 ⟨Nat.le_of_ble_eq_true rfl, Nat.le_of_ble_eq_true rfl⟩) (fun H1 L1 hq hz => ?_)
  replace hS := xS_call hS hz (fun q h => by obtain ⟨j, h1, h2⟩ := h; show s.heap.size ≤ q; rw [h2]; exact had j h1)
  replace hPy := xkeep hPy hz (fun k q hk h => by obtain ⟨h1, rfl⟩ := y_at hk; obtain ⟨j, h3, h4⟩ := h; exact hap j k h3 h1 h4.symm)
  replace hP : va_P X.1 vwCl (wX X ad x') H1 := hq
  clear hq hz
  refine W.eq (g2 := F0 m 238 ls [.int v]) rfl ?_
  refine lv_aload_n hx hb d_Law_law_238 rfl (lv_at hl 2 rfl) ?_
  refine lv_aload_n hx hb d_Law_law_239 rfl (lv_at hl 0 rfl) ?_
  refine lv_iload_n hx hb d_Law_law_240 rfl (lv_at hl 3 rfl) ?_
  refine lv_iconst (v := 1) hx hb d_Law_law_241 (by decide) ?_
  refine lv_iadd hx hb d_Law_law_242 ?_
  refine va_sld hx hb hX hbl hbA hS (in5 (j := 1) hi hL (by omega) rfl) d_Law_law_243 ?_
  refine lv_aload_n hx hb d_Law_law_244 rfl (lv_at hl 0 rfl) ?_
  refine lv_iload_n hx hb d_Law_law_245 rfl (lv_at hl 3 rfl) ?_
  refine lv_iconst (v := 2) hx hb d_Law_law_246 (by decide) ?_
  refine lv_iadd hx hb d_Law_law_247 ?_
  refine va_sld hx hb hX hbl hbA hS (in5 (j := 2) hi hL (by omega) rfl) d_Law_law_248 ?_
  refine xc (va_runV (As := [.int (xs (nI i + 1).toNatClampNeg), .int (xs (nI i + 2).toNatClampNeg)]) (rest := [.int v]) ⟨hx, hb, hml, hown, ht⟩ (c_MaskEdgesModel_kernel l X bd SY (xs (nI i + 1).toNatClampNeg) (xs (nI i + 2).toNatClampNeg) hPy hB e2) (cwV 2 ht (xgV xw_519 xw_520 xw_521 xw_43 xw_522) rfl rfl rfl (by decide +kernel) ⟨Nat.le_of_ble_eq_true rfl, Nat.le_of_ble_eq_true rfl⟩) (xPV hKK (va_recv hK hPy (ci := 6) (q0 := 0) rfl yg0)) rfl rfl hl.1 rfl (lv_room (Nat.le_of_ble_eq_true rfl)) d_Law_law_249 ⟨Nat.le_of_ble_eq_true rfl, Nat.le_of_ble_eq_true rfl⟩) (fun H1 L1 hq hz => ?_)
  replace hS := xS_call hS hz (fun q h => by obtain ⟨j, h1, h2⟩ := h; show s.heap.size ≤ q; rw [h2]; exact hbd j h1)
  replace hP := xkeep hP hz (fun k q hk h => by obtain ⟨h1, rfl⟩ := x_at hk; obtain ⟨j, h3, h4⟩ := h; exact hap k j h1 h3 h4)
  replace hPy : va_P X.1 vwCl (wY X bd y') H1 := hq
  clear hq hz
  refine W.eq (g2 := F0 m 252 ls [.int v, .int v]) rfl ?_
  refine lv_icmp_eq (tgt := 643) hx hb d_Law_law_252 (by decide) (fun hc => ?_) (fun hc => absurd rfl hc)
  exact kk x' y' _ _ hr2 hP hPy hS
set_option maxHeartbeats 4000000 in
set_option maxRecDepth 100000 in
theorem law_cut {p : Program} {l : Launch} {e : Env} {s : State} {m : MethodId} {below : List Frame} {meth : Method} {c : Code} {b L : Nat} {xs : Nat → Int32} {X : xG} {ad bd : Nat → Nat} (C0 : lw_At p s m meth c b L xs) (hKK : xK X s) (hA : okA ad) (hB : okB bd) (had : ∀ j, j < 172 → s.heap.size ≤ ad j) (hbd : ∀ j, j < 23 → s.heap.size ≤ bd j) (hap : ∀ i j, i < 172 → j < 23 → ad i ≠ bd j) {i : Nat} (hi : i + 6 ≤ L) (hL : L ≤ 3072) {ST : xSt} {SY : ySt} (hrel : rel ST SY) {H : Heap} {locs : List Loc} (hP : va_P X.1 vwCl (wX X ad ST) H) (hPy : va_P X.1 vwCl (wY X bd SY) H) (hS : va_S (fun q : Nat => s.heap.size ≤ q) s.heap H locs) {ls : Array Slot} (hl : lv_has ls 4 [(0, .ref b), (1, .ref (ad 0)), (2, .ref (bd 0)), (3, .int (nI i))]) {Q : State → Prop} (kk : ∀ (ST' : xSt) (SY' : ySt) (H : Heap) (locs : List Loc), rel ST' SY' → va_P X.1 vwCl (wX X ad ST') H → va_P X.1 vwCl (wY X bd SY') H → va_S (fun q : Nat => s.heap.size ≤ q) s.heap H locs → W p l e room_1 s m #[Value.ref b] below meth c H locs 195 8228 Q (F0 m 643 ls [])) : W p l e room_1 s m #[Value.ref b] below meth c H locs 195 8228 Q (F0 m 257 ls []) := by
  obtain ⟨hx, hb, hr, hml, hown0, hts, hX, hbl, hlocks, hgv⟩ := id C0
  have ht : ∀ w ∈ xT, w.before #[Value.ref b] s = true := fun w h => hts w (xTg w h).1
  have hown : s.vm.findClass "MaskEdgesLaw" = some m.cls := hown0
  have hK := hKK.1
  have hbA : ¬ (fun q : Nat => s.heap.size ≤ q) b := Nat.not_le.mpr hbl
  obtain ⟨v, x', y', e1, e2, hr2⟩ := op_cut hrel (xs (nI i + 1).toNatClampNeg)
  refine lv_aload_n hx hb d_Law_law_257 rfl (lv_at hl 1 rfl) ?_
  refine lv_aload_n hx hb d_Law_law_258 rfl (lv_at hl 0 rfl) ?_
  refine lv_iload_n hx hb d_Law_law_259 rfl (lv_at hl 3 rfl) ?_
  refine lv_iconst (v := 1) hx hb d_Law_law_260 (by decide) ?_
  refine lv_iadd hx hb d_Law_law_261 ?_
  refine va_sld hx hb hX hbl hbA hS (in5 (j := 1) hi hL (by omega) rfl) d_Law_law_262 ?_
  refine xc (va_runV (As := [.int (xs (nI i + 1).toNatClampNeg)]) (rest := []) ⟨hx, hb, hml, hown, ht⟩ (c_MaskEdges_cut l X ad ST (xs (nI i + 1).toNatClampNeg) hP hA e1) (cwV 1 ht (xgV xw_270 xw_271 xw_272 xw_37 xw_273) rfl rfl rfl (by decide +kernel) ⟨Nat.le_of_ble_eq_true rfl, Nat.le_of_ble_eq_true rfl⟩) (xPV hKK (va_recv hK hP (ci := 5) (q0 := 0) rfl xg0)) rfl rfl hl.1 rfl (lv_room (Nat.le_of_ble_eq_true rfl)) d_Law_law_263 ⟨Nat.le_of_ble_eq_true rfl, Nat.le_of_ble_eq_true rfl⟩) (fun H1 L1 hq hz => ?_)
  replace hS := xS_call hS hz (fun q h => by obtain ⟨j, h1, h2⟩ := h; show s.heap.size ≤ q; rw [h2]; exact had j h1)
  replace hPy := xkeep hPy hz (fun k q hk h => by obtain ⟨h1, rfl⟩ := y_at hk; obtain ⟨j, h3, h4⟩ := h; exact hap j k h3 h1 h4.symm)
  replace hP : va_P X.1 vwCl (wX X ad x') H1 := hq
  clear hq hz
  refine W.eq (g2 := F0 m 266 ls [.int v]) rfl ?_
  refine lv_aload_n hx hb d_Law_law_266 rfl (lv_at hl 2 rfl) ?_
  refine lv_aload_n hx hb d_Law_law_267 rfl (lv_at hl 0 rfl) ?_
  refine lv_iload_n hx hb d_Law_law_268 rfl (lv_at hl 3 rfl) ?_
  refine lv_iconst (v := 1) hx hb d_Law_law_269 (by decide) ?_
  refine lv_iadd hx hb d_Law_law_270 ?_
  refine va_sld hx hb hX hbl hbA hS (in5 (j := 1) hi hL (by omega) rfl) d_Law_law_271 ?_
  refine xc (va_runV (As := [.int (xs (nI i + 1).toNatClampNeg)]) (rest := [.int v]) ⟨hx, hb, hml, hown, ht⟩ (c_MaskEdgesModel_cut l X bd SY (xs (nI i + 1).toNatClampNeg) hPy hB e2) (cwV 1 ht (xgV xw_526 xw_527 xw_528 xw_43 xw_529) rfl rfl rfl (by decide +kernel) ⟨Nat.le_of_ble_eq_true rfl, Nat.le_of_ble_eq_true rfl⟩) (xPV hKK (va_recv hK hPy (ci := 6) (q0 := 0) rfl yg0)) rfl rfl hl.1 rfl (lv_room (Nat.le_of_ble_eq_true rfl)) d_Law_law_272 ⟨Nat.le_of_ble_eq_true rfl, Nat.le_of_ble_eq_true rfl⟩) (fun H1 L1 hq hz => ?_)
  replace hS := xS_call hS hz (fun q h => by obtain ⟨j, h1, h2⟩ := h; show s.heap.size ≤ q; rw [h2]; exact hbd j h1)
  replace hP := xkeep hP hz (fun k q hk h => by obtain ⟨h1, rfl⟩ := x_at hk; obtain ⟨j, h3, h4⟩ := h; exact hap k j h1 h3 h4)
  replace hPy : va_P X.1 vwCl (wY X bd y') H1 := hq
  clear hq hz
  refine W.eq (g2 := F0 m 275 ls [.int v, .int v]) rfl ?_
  refine lv_icmp_eq (tgt := 643) hx hb d_Law_law_275 (by decide) (fun hc => ?_) (fun hc => absurd rfl hc)
  exact kk x' y' _ _ hr2 hP hPy hS
set_option maxHeartbeats 4000000 in
set_option maxRecDepth 100000 in
theorem law_image {p : Program} {l : Launch} {e : Env} {s : State} {m : MethodId} {below : List Frame} {meth : Method} {c : Code} {b L : Nat} {xs : Nat → Int32} {X : xG} {ad bd : Nat → Nat} (C0 : lw_At p s m meth c b L xs) (hKK : xK X s) (hA : okA ad) (hB : okB bd) (had : ∀ j, j < 172 → s.heap.size ≤ ad j) (hbd : ∀ j, j < 23 → s.heap.size ≤ bd j) (hap : ∀ i j, i < 172 → j < 23 → ad i ≠ bd j) {i : Nat} (hi : i + 6 ≤ L) (hL : L ≤ 3072) {ST : xSt} {SY : ySt} (hrel : rel ST SY) {H : Heap} {locs : List Loc} (hP : va_P X.1 vwCl (wX X ad ST) H) (hPy : va_P X.1 vwCl (wY X bd SY) H) (hS : va_S (fun q : Nat => s.heap.size ≤ q) s.heap H locs) {ls : Array Slot} (hl : lv_has ls 4 [(0, .ref b), (1, .ref (ad 0)), (2, .ref (bd 0)), (3, .int (nI i))]) {Q : State → Prop} (kk : ∀ (ST' : xSt) (SY' : ySt) (H : Heap) (locs : List Loc), rel ST' SY' → va_P X.1 vwCl (wX X ad ST') H → va_P X.1 vwCl (wY X bd SY') H → va_S (fun q : Nat => s.heap.size ≤ q) s.heap H locs → W p l e room_1 s m #[Value.ref b] below meth c H locs 195 8228 Q (F0 m 643 ls [])) : W p l e room_1 s m #[Value.ref b] below meth c H locs 195 8228 Q (F0 m 280 ls []) := by
  obtain ⟨hx, hb, hr, hml, hown0, hts, hX, hbl, hlocks, hgv⟩ := id C0
  have ht : ∀ w ∈ xT, w.before #[Value.ref b] s = true := fun w h => hts w (xTg w h).1
  have hown : s.vm.findClass "MaskEdgesLaw" = some m.cls := hown0
  have hK := hKK.1
  have hbA : ¬ (fun q : Nat => s.heap.size ≤ q) b := Nat.not_le.mpr hbl
  obtain ⟨v, y', e1, e2, hr2⟩ := op_image hrel (xs (nI i + 1).toNatClampNeg) (xs (nI i + 2).toNatClampNeg)
  refine lv_aload_n hx hb d_Law_law_280 rfl (lv_at hl 1 rfl) ?_
  refine lv_aload_n hx hb d_Law_law_281 rfl (lv_at hl 0 rfl) ?_
  refine lv_iload_n hx hb d_Law_law_282 rfl (lv_at hl 3 rfl) ?_
  refine lv_iconst (v := 1) hx hb d_Law_law_283 (by decide) ?_
  refine lv_iadd hx hb d_Law_law_284 ?_
  refine va_sld hx hb hX hbl hbA hS (in5 (j := 1) hi hL (by omega) rfl) d_Law_law_285 ?_
  refine lv_aload_n hx hb d_Law_law_286 rfl (lv_at hl 0 rfl) ?_
  refine lv_iload_n hx hb d_Law_law_287 rfl (lv_at hl 3 rfl) ?_
  refine lv_iconst (v := 2) hx hb d_Law_law_288 (by decide) ?_
  refine lv_iadd hx hb d_Law_law_289 ?_
  refine va_sld hx hb hX hbl hbA hS (in5 (j := 2) hi hL (by omega) rfl) d_Law_law_290 ?_
  refine xcR (va_runV (As := [.int (xs (nI i + 1).toNatClampNeg), .int (xs (nI i + 2).toNatClampNeg)]) (rest := []) ⟨hx, hb, hml, hown, ht⟩ (c_MaskEdges_image l X ad ST (xs (nI i + 1).toNatClampNeg) (xs (nI i + 2).toNatClampNeg) hP e1) (cwV 2 ht (xgV xw_312 xw_313 xw_314 xw_37 xw_315) rfl rfl rfl (by decide +kernel) ⟨Nat.le_of_ble_eq_true rfl, Nat.le_of_ble_eq_true rfl⟩) (xPV hKK (va_recv hK hP (ci := 5) (q0 := 0) rfl xg0)) rfl rfl hl.1 rfl (lv_room (Nat.le_of_ble_eq_true rfl)) d_Law_law_291 ⟨Nat.le_of_ble_eq_true rfl, Nat.le_of_ble_eq_true rfl⟩) ?_
  refine W.eq (g2 := F0 m 294 ls [.int v]) rfl ?_
  refine lv_aload_n hx hb d_Law_law_294 rfl (lv_at hl 2 rfl) ?_
  refine lv_aload_n hx hb d_Law_law_295 rfl (lv_at hl 0 rfl) ?_
  refine lv_iload_n hx hb d_Law_law_296 rfl (lv_at hl 3 rfl) ?_
  refine lv_iconst (v := 1) hx hb d_Law_law_297 (by decide) ?_
  refine lv_iadd hx hb d_Law_law_298 ?_
  refine va_sld hx hb hX hbl hbA hS (in5 (j := 1) hi hL (by omega) rfl) d_Law_law_299 ?_
  refine lv_aload_n hx hb d_Law_law_300 rfl (lv_at hl 0 rfl) ?_
  refine lv_iload_n hx hb d_Law_law_301 rfl (lv_at hl 3 rfl) ?_
  refine lv_iconst (v := 2) hx hb d_Law_law_302 (by decide) ?_
  refine lv_iadd hx hb d_Law_law_303 ?_
  refine va_sld hx hb hX hbl hbA hS (in5 (j := 2) hi hL (by omega) rfl) d_Law_law_304 ?_
  refine xc (va_runV (As := [.int (xs (nI i + 1).toNatClampNeg), .int (xs (nI i + 2).toNatClampNeg)]) (rest := [.int v]) ⟨hx, hb, hml, hown, ht⟩ (c_MaskEdgesModel_image l X bd SY (xs (nI i + 1).toNatClampNeg) (xs (nI i + 2).toNatClampNeg) hPy hB e2) (cwV 2 ht (xgV xw_555 xw_556 xw_557 xw_43 xw_558) rfl rfl rfl (by decide +kernel) ⟨Nat.le_of_ble_eq_true rfl, Nat.le_of_ble_eq_true rfl⟩) (xPV hKK (va_recv hK hPy (ci := 6) (q0 := 0) rfl yg0)) rfl rfl hl.1 rfl (lv_room (Nat.le_of_ble_eq_true rfl)) d_Law_law_305 ⟨Nat.le_of_ble_eq_true rfl, Nat.le_of_ble_eq_true rfl⟩) (fun H1 L1 hq hz => ?_)
  replace hS := xS_call hS hz (fun q h => by obtain ⟨j, h1, h2⟩ := h; show s.heap.size ≤ q; rw [h2]; exact hbd j h1)
  replace hP := xkeep hP hz (fun k q hk h => by obtain ⟨h1, rfl⟩ := x_at hk; obtain ⟨j, h3, h4⟩ := h; exact hap k j h1 h3 h4)
  replace hPy : va_P X.1 vwCl (wY X bd y') H1 := hq
  clear hq hz
  refine W.eq (g2 := F0 m 308 ls [.int v, .int v]) rfl ?_
  refine lv_icmp_eq (tgt := 643) hx hb d_Law_law_308 (by decide) (fun hc => ?_) (fun hc => absurd rfl hc)
  exact kk ST y' _ _ hr2 hP hPy hS
set_option maxHeartbeats 4000000 in
set_option maxRecDepth 100000 in
theorem law_error {p : Program} {l : Launch} {e : Env} {s : State} {m : MethodId} {below : List Frame} {meth : Method} {c : Code} {b L : Nat} {xs : Nat → Int32} {X : xG} {ad bd : Nat → Nat} (C0 : lw_At p s m meth c b L xs) (hKK : xK X s) (hA : okA ad) (hB : okB bd) (had : ∀ j, j < 172 → s.heap.size ≤ ad j) (hbd : ∀ j, j < 23 → s.heap.size ≤ bd j) (hap : ∀ i j, i < 172 → j < 23 → ad i ≠ bd j) {i : Nat} (hi : i + 6 ≤ L) (hL : L ≤ 3072) {ST : xSt} {SY : ySt} (hrel : rel ST SY) {H : Heap} {locs : List Loc} (hP : va_P X.1 vwCl (wX X ad ST) H) (hPy : va_P X.1 vwCl (wY X bd SY) H) (hS : va_S (fun q : Nat => s.heap.size ≤ q) s.heap H locs) {ls : Array Slot} (hl : lv_has ls 4 [(0, .ref b), (1, .ref (ad 0)), (2, .ref (bd 0)), (3, .int (nI i))]) {Q : State → Prop} (kk : ∀ (ST' : xSt) (SY' : ySt) (H : Heap) (locs : List Loc), rel ST' SY' → va_P X.1 vwCl (wX X ad ST') H → va_P X.1 vwCl (wY X bd SY') H → va_S (fun q : Nat => s.heap.size ≤ q) s.heap H locs → W p l e room_1 s m #[Value.ref b] below meth c H locs 195 8228 Q (F0 m 643 ls [])) : W p l e room_1 s m #[Value.ref b] below meth c H locs 195 8228 Q (F0 m 313 ls []) := by
  obtain ⟨hx, hb, hr, hml, hown0, hts, hX, hbl, hlocks, hgv⟩ := id C0
  have ht : ∀ w ∈ xT, w.before #[Value.ref b] s = true := fun w h => hts w (xTg w h).1
  have hown : s.vm.findClass "MaskEdgesLaw" = some m.cls := hown0
  have hK := hKK.1
  have hbA : ¬ (fun q : Nat => s.heap.size ≤ q) b := Nat.not_le.mpr hbl
  obtain ⟨v, y', e1, e2, hr2⟩ := op_error hrel (xs (nI i + 1).toNatClampNeg)
  refine lv_aload_n hx hb d_Law_law_313 rfl (lv_at hl 1 rfl) ?_
  refine lv_aload_n hx hb d_Law_law_314 rfl (lv_at hl 0 rfl) ?_
  refine lv_iload_n hx hb d_Law_law_315 rfl (lv_at hl 3 rfl) ?_
  refine lv_iconst (v := 1) hx hb d_Law_law_316 (by decide) ?_
  refine lv_iadd hx hb d_Law_law_317 ?_
  refine va_sld hx hb hX hbl hbA hS (in5 (j := 1) hi hL (by omega) rfl) d_Law_law_318 ?_
  refine xcR (va_runV (As := [.int (xs (nI i + 1).toNatClampNeg)]) (rest := []) ⟨hx, hb, hml, hown, ht⟩ (c_MaskEdges_error l X ad ST (xs (nI i + 1).toNatClampNeg) hP e1) (cwV 1 ht (xgV xw_331 xw_332 xw_333 xw_37 xw_334) rfl rfl rfl (by decide +kernel) ⟨Nat.le_of_ble_eq_true rfl, Nat.le_of_ble_eq_true rfl⟩) (xPV hKK (va_recv hK hP (ci := 5) (q0 := 0) rfl xg0)) rfl rfl hl.1 rfl (lv_room (Nat.le_of_ble_eq_true rfl)) d_Law_law_319 ⟨Nat.le_of_ble_eq_true rfl, Nat.le_of_ble_eq_true rfl⟩) ?_
  refine W.eq (g2 := F0 m 322 ls [.int v]) rfl ?_
  refine lv_aload_n hx hb d_Law_law_322 rfl (lv_at hl 2 rfl) ?_
  refine lv_aload_n hx hb d_Law_law_323 rfl (lv_at hl 0 rfl) ?_
  refine lv_iload_n hx hb d_Law_law_324 rfl (lv_at hl 3 rfl) ?_
  refine lv_iconst (v := 1) hx hb d_Law_law_325 (by decide) ?_
  refine lv_iadd hx hb d_Law_law_326 ?_
  refine va_sld hx hb hX hbl hbA hS (in5 (j := 1) hi hL (by omega) rfl) d_Law_law_327 ?_
  refine xc (va_runV (As := [.int (xs (nI i + 1).toNatClampNeg)]) (rest := [.int v]) ⟨hx, hb, hml, hown, ht⟩ (c_MaskEdgesModel_error l X bd SY (xs (nI i + 1).toNatClampNeg) hPy hB e2) (cwV 1 ht (xgV xw_580 xw_581 xw_582 xw_43 xw_583) rfl rfl rfl (by decide +kernel) ⟨Nat.le_of_ble_eq_true rfl, Nat.le_of_ble_eq_true rfl⟩) (xPV hKK (va_recv hK hPy (ci := 6) (q0 := 0) rfl yg0)) rfl rfl hl.1 rfl (lv_room (Nat.le_of_ble_eq_true rfl)) d_Law_law_328 ⟨Nat.le_of_ble_eq_true rfl, Nat.le_of_ble_eq_true rfl⟩) (fun H1 L1 hq hz => ?_)
  replace hS := xS_call hS hz (fun q h => by obtain ⟨j, h1, h2⟩ := h; show s.heap.size ≤ q; rw [h2]; exact hbd j h1)
  replace hP := xkeep hP hz (fun k q hk h => by obtain ⟨h1, rfl⟩ := x_at hk; obtain ⟨j, h3, h4⟩ := h; exact hap k j h1 h3 h4)
  replace hPy : va_P X.1 vwCl (wY X bd y') H1 := hq
  clear hq hz
  refine W.eq (g2 := F0 m 331 ls [.int v, .int v]) rfl ?_
  refine lv_icmp_eq (tgt := 643) hx hb d_Law_law_331 (by decide) (fun hc => ?_) (fun hc => absurd rfl hc)
  exact kk ST y' _ _ hr2 hP hPy hS
set_option maxHeartbeats 4000000 in
set_option maxRecDepth 100000 in
theorem law_run {p : Program} {l : Launch} {e : Env} {s : State} {m : MethodId} {below : List Frame} {meth : Method} {c : Code} {b L : Nat} {xs : Nat → Int32} {X : xG} {ad bd : Nat → Nat} (C0 : lw_At p s m meth c b L xs) (hKK : xK X s) (hA : okA ad) (hB : okB bd) (had : ∀ j, j < 172 → s.heap.size ≤ ad j) (hbd : ∀ j, j < 23 → s.heap.size ≤ bd j) (hap : ∀ i j, i < 172 → j < 23 → ad i ≠ bd j) {i : Nat} (hi : i + 6 ≤ L) (hL : L ≤ 3072) {ST : xSt} {SY : ySt} (hrel : rel ST SY) {H : Heap} {locs : List Loc} (hP : va_P X.1 vwCl (wX X ad ST) H) (hPy : va_P X.1 vwCl (wY X bd SY) H) (hS : va_S (fun q : Nat => s.heap.size ≤ q) s.heap H locs) {ls : Array Slot} (hl : lv_has ls 4 [(0, .ref b), (1, .ref (ad 0)), (2, .ref (bd 0)), (3, .int (nI i))]) {Q : State → Prop} (kk : ∀ (ST' : xSt) (SY' : ySt) (H : Heap) (locs : List Loc), rel ST' SY' → va_P X.1 vwCl (wX X ad ST') H → va_P X.1 vwCl (wY X bd SY') H → va_S (fun q : Nat => s.heap.size ≤ q) s.heap H locs → W p l e room_1 s m #[Value.ref b] below meth c H locs 195 8228 Q (F0 m 643 ls [])) : W p l e room_1 s m #[Value.ref b] below meth c H locs 195 8228 Q (F0 m 336 ls []) := by
  obtain ⟨hx, hb, hr, hml, hown0, hts, hX, hbl, hlocks, hgv⟩ := id C0
  have ht : ∀ w ∈ xT, w.before #[Value.ref b] s = true := fun w h => hts w (xTg w h).1
  have hown : s.vm.findClass "MaskEdgesLaw" = some m.cls := hown0
  have hK := hKK.1
  have hbA : ¬ (fun q : Nat => s.heap.size ≤ q) b := Nat.not_le.mpr hbl
  obtain ⟨v, x', y', e1, e2, hr2⟩ := op_run hrel (xs (nI i + 1).toNatClampNeg) (xs (nI i + 2).toNatClampNeg) (xs (nI i + 3).toNatClampNeg) (xs (nI i + 4).toNatClampNeg)
  refine lv_aload_n hx hb d_Law_law_336 rfl (lv_at hl 1 rfl) ?_
  refine lv_aload_n hx hb d_Law_law_337 rfl (lv_at hl 0 rfl) ?_
  refine lv_iload_n hx hb d_Law_law_338 rfl (lv_at hl 3 rfl) ?_
  refine lv_iconst (v := 1) hx hb d_Law_law_339 (by decide) ?_
  refine lv_iadd hx hb d_Law_law_340 ?_
  refine va_sld hx hb hX hbl hbA hS (in5 (j := 1) hi hL (by omega) rfl) d_Law_law_341 ?_
  refine lv_aload_n hx hb d_Law_law_342 rfl (lv_at hl 0 rfl) ?_
  refine lv_iload_n hx hb d_Law_law_343 rfl (lv_at hl 3 rfl) ?_
  refine lv_iconst (v := 2) hx hb d_Law_law_344 (by decide) ?_
  refine lv_iadd hx hb d_Law_law_345 ?_
  refine va_sld hx hb hX hbl hbA hS (in5 (j := 2) hi hL (by omega) rfl) d_Law_law_346 ?_
  refine lv_aload_n hx hb d_Law_law_347 rfl (lv_at hl 0 rfl) ?_
  refine lv_iload_n hx hb d_Law_law_348 rfl (lv_at hl 3 rfl) ?_
  refine lv_iconst (v := 3) hx hb d_Law_law_349 (by decide) ?_
  refine lv_iadd hx hb d_Law_law_350 ?_
  refine va_sld hx hb hX hbl hbA hS (in5 (j := 3) hi hL (by omega) rfl) d_Law_law_351 ?_
  refine lv_aload_n hx hb d_Law_law_352 rfl (lv_at hl 0 rfl) ?_
  refine lv_iload_n hx hb d_Law_law_353 rfl (lv_at hl 3 rfl) ?_
  refine lv_iconst (v := 4) hx hb d_Law_law_354 (by decide) ?_
  refine lv_iadd hx hb d_Law_law_355 ?_
  refine va_sld hx hb hX hbl hbA hS (in5 (j := 4) hi hL (by omega) rfl) d_Law_law_356 ?_
  refine xc (va_runV (As := [.int (xs (nI i + 1).toNatClampNeg), .int (xs (nI i + 2).toNatClampNeg), .int (xs (nI i + 3).toNatClampNeg), .int (xs (nI i + 4).toNatClampNeg)]) (rest := []) ⟨hx, hb, hml, hown, ht⟩ (c_MaskEdges_run l X ad ST (xs (nI i + 1).toNatClampNeg) (xs (nI i + 2).toNatClampNeg) (xs (nI i + 3).toNatClampNeg) (xs (nI i + 4).toNatClampNeg) hP hA e1) (cwV 4 ht (xgV xw_350 xw_351 xw_352 xw_37 xw_353) rfl rfl rfl (by decide +kernel) ⟨Nat.le_of_ble_eq_true rfl, Nat.le_of_ble_eq_true rfl⟩) (xPV hKK (va_recv hK hP (ci := 5) (q0 := 0) rfl xg0)) rfl rfl hl.1 rfl (lv_room (Nat.le_of_ble_eq_true rfl)) d_Law_law_357 ⟨Nat.le_of_ble_eq_true rfl, Nat.le_of_ble_eq_true rfl⟩) (fun H1 L1 hq hz => ?_)
  replace hS := xS_call hS hz (fun q h => by obtain ⟨j, h1, h2⟩ := h; show s.heap.size ≤ q; rw [h2]; exact had j h1)
  replace hPy := xkeep hPy hz (fun k q hk h => by obtain ⟨h1, rfl⟩ := y_at hk; obtain ⟨j, h3, h4⟩ := h; exact hap j k h3 h1 h4.symm)
  replace hP : va_P X.1 vwCl (wX X ad x') H1 := hq
  clear hq hz
  refine W.eq (g2 := F0 m 360 ls [.int v]) rfl ?_
  refine lv_aload_n hx hb d_Law_law_360 rfl (lv_at hl 2 rfl) ?_
  refine lv_aload_n hx hb d_Law_law_361 rfl (lv_at hl 0 rfl) ?_
  refine lv_iload_n hx hb d_Law_law_362 rfl (lv_at hl 3 rfl) ?_
  refine lv_iconst (v := 1) hx hb d_Law_law_363 (by decide) ?_
  refine lv_iadd hx hb d_Law_law_364 ?_
  refine va_sld hx hb hX hbl hbA hS (in5 (j := 1) hi hL (by omega) rfl) d_Law_law_365 ?_
  refine lv_aload_n hx hb d_Law_law_366 rfl (lv_at hl 0 rfl) ?_
  refine lv_iload_n hx hb d_Law_law_367 rfl (lv_at hl 3 rfl) ?_
  refine lv_iconst (v := 2) hx hb d_Law_law_368 (by decide) ?_
  refine lv_iadd hx hb d_Law_law_369 ?_
  refine va_sld hx hb hX hbl hbA hS (in5 (j := 2) hi hL (by omega) rfl) d_Law_law_370 ?_
  refine lv_aload_n hx hb d_Law_law_371 rfl (lv_at hl 0 rfl) ?_
  refine lv_iload_n hx hb d_Law_law_372 rfl (lv_at hl 3 rfl) ?_
  refine lv_iconst (v := 3) hx hb d_Law_law_373 (by decide) ?_
  refine lv_iadd hx hb d_Law_law_374 ?_
  refine va_sld hx hb hX hbl hbA hS (in5 (j := 3) hi hL (by omega) rfl) d_Law_law_375 ?_
  refine lv_aload_n hx hb d_Law_law_376 rfl (lv_at hl 0 rfl) ?_
  refine lv_iload_n hx hb d_Law_law_377 rfl (lv_at hl 3 rfl) ?_
  refine lv_iconst (v := 4) hx hb d_Law_law_378 (by decide) ?_
  refine lv_iadd hx hb d_Law_law_379 ?_
  refine va_sld hx hb hX hbl hbA hS (in5 (j := 4) hi hL (by omega) rfl) d_Law_law_380 ?_
  refine xc (va_runV (As := [.int (xs (nI i + 1).toNatClampNeg), .int (xs (nI i + 2).toNatClampNeg), .int (xs (nI i + 3).toNatClampNeg), .int (xs (nI i + 4).toNatClampNeg)]) (rest := [.int v]) ⟨hx, hb, hml, hown, ht⟩ (c_MaskEdgesModel_run l X bd SY (xs (nI i + 1).toNatClampNeg) (xs (nI i + 2).toNatClampNeg) (xs (nI i + 3).toNatClampNeg) (xs (nI i + 4).toNatClampNeg) hPy hB e2) (cwV 4 ht (xgV xw_600 xw_601 xw_602 xw_43 xw_603) rfl rfl rfl (by decide +kernel) ⟨Nat.le_of_ble_eq_true rfl, Nat.le_of_ble_eq_true rfl⟩) (xPV hKK (va_recv hK hPy (ci := 6) (q0 := 0) rfl yg0)) rfl rfl hl.1 rfl (lv_room (Nat.le_of_ble_eq_true rfl)) d_Law_law_381 ⟨Nat.le_of_ble_eq_true rfl, Nat.le_of_ble_eq_true rfl⟩) (fun H1 L1 hq hz => ?_)
  replace hS := xS_call hS hz (fun q h => by obtain ⟨j, h1, h2⟩ := h; show s.heap.size ≤ q; rw [h2]; exact hbd j h1)
  replace hP := xkeep hP hz (fun k q hk h => by obtain ⟨h1, rfl⟩ := x_at hk; obtain ⟨j, h3, h4⟩ := h; exact hap k j h1 h3 h4)
  replace hPy : va_P X.1 vwCl (wY X bd y') H1 := hq
  clear hq hz
  refine W.eq (g2 := F0 m 384 ls [.int v, .int v]) rfl ?_
  refine lv_icmp_eq (tgt := 643) hx hb d_Law_law_384 (by decide) (fun hc => ?_) (fun hc => absurd rfl hc)
  exact kk x' y' _ _ hr2 hP hPy hS
set_option maxHeartbeats 4000000 in
set_option maxRecDepth 100000 in
theorem law_moved {p : Program} {l : Launch} {e : Env} {s : State} {m : MethodId} {below : List Frame} {meth : Method} {c : Code} {b L : Nat} {xs : Nat → Int32} {X : xG} {ad bd : Nat → Nat} (C0 : lw_At p s m meth c b L xs) (hKK : xK X s) (hA : okA ad) (hB : okB bd) (had : ∀ j, j < 172 → s.heap.size ≤ ad j) (hbd : ∀ j, j < 23 → s.heap.size ≤ bd j) (hap : ∀ i j, i < 172 → j < 23 → ad i ≠ bd j) {i : Nat} (hi : i + 6 ≤ L) (hL : L ≤ 3072) {ST : xSt} {SY : ySt} (hrel : rel ST SY) {H : Heap} {locs : List Loc} (hP : va_P X.1 vwCl (wX X ad ST) H) (hPy : va_P X.1 vwCl (wY X bd SY) H) (hS : va_S (fun q : Nat => s.heap.size ≤ q) s.heap H locs) {ls : Array Slot} (hl : lv_has ls 4 [(0, .ref b), (1, .ref (ad 0)), (2, .ref (bd 0)), (3, .int (nI i))]) {Q : State → Prop} (kk : ∀ (ST' : xSt) (SY' : ySt) (H : Heap) (locs : List Loc), rel ST' SY' → va_P X.1 vwCl (wX X ad ST') H → va_P X.1 vwCl (wY X bd SY') H → va_S (fun q : Nat => s.heap.size ≤ q) s.heap H locs → W p l e room_1 s m #[Value.ref b] below meth c H locs 195 8228 Q (F0 m 643 ls [])) : W p l e room_1 s m #[Value.ref b] below meth c H locs 195 8228 Q (F0 m 389 ls []) := by
  obtain ⟨hx, hb, hr, hml, hown0, hts, hX, hbl, hlocks, hgv⟩ := id C0
  have ht : ∀ w ∈ xT, w.before #[Value.ref b] s = true := fun w h => hts w (xTg w h).1
  have hown : s.vm.findClass "MaskEdgesLaw" = some m.cls := hown0
  have hK := hKK.1
  have hbA : ¬ (fun q : Nat => s.heap.size ≤ q) b := Nat.not_le.mpr hbl
  obtain ⟨v, e1, e2⟩ := op_moved hrel (xs (nI i + 1).toNatClampNeg)
  refine lv_aload_n hx hb d_Law_law_389 rfl (lv_at hl 1 rfl) ?_
  refine lv_aload_n hx hb d_Law_law_390 rfl (lv_at hl 0 rfl) ?_
  refine lv_iload_n hx hb d_Law_law_391 rfl (lv_at hl 3 rfl) ?_
  refine lv_iconst (v := 1) hx hb d_Law_law_392 (by decide) ?_
  refine lv_iadd hx hb d_Law_law_393 ?_
  refine va_sld hx hb hX hbl hbA hS (in5 (j := 1) hi hL (by omega) rfl) d_Law_law_394 ?_
  refine xcR (va_runV (As := [.int (xs (nI i + 1).toNatClampNeg)]) (rest := []) ⟨hx, hb, hml, hown, ht⟩ (c_MaskEdges_moved l X ad ST (xs (nI i + 1).toNatClampNeg) hP e1) (cwV 1 ht (xgV xw_375 xw_376 xw_377 xw_37 xw_378) rfl rfl rfl (by decide +kernel) ⟨Nat.le_of_ble_eq_true rfl, Nat.le_of_ble_eq_true rfl⟩) (xPV hKK (va_recv hK hP (ci := 5) (q0 := 0) rfl xg0)) rfl rfl hl.1 rfl (lv_room (Nat.le_of_ble_eq_true rfl)) d_Law_law_395 ⟨Nat.le_of_ble_eq_true rfl, Nat.le_of_ble_eq_true rfl⟩) ?_
  refine W.eq (g2 := F0 m 398 ls [.int v]) rfl ?_
  refine lv_aload_n hx hb d_Law_law_398 rfl (lv_at hl 2 rfl) ?_
  refine lv_aload_n hx hb d_Law_law_399 rfl (lv_at hl 0 rfl) ?_
  refine lv_iload_n hx hb d_Law_law_400 rfl (lv_at hl 3 rfl) ?_
  refine lv_iconst (v := 1) hx hb d_Law_law_401 (by decide) ?_
  refine lv_iadd hx hb d_Law_law_402 ?_
  refine va_sld hx hb hX hbl hbA hS (in5 (j := 1) hi hL (by omega) rfl) d_Law_law_403 ?_
  refine xcR (va_runV (As := [.int (xs (nI i + 1).toNatClampNeg)]) (rest := [.int v]) ⟨hx, hb, hml, hown, ht⟩ (c_MaskEdgesModel_moved l X bd SY (xs (nI i + 1).toNatClampNeg) hPy e2) (cwV 1 ht (xgV xw_618 xw_619 xw_620 xw_43 xw_621) rfl rfl rfl (by decide +kernel) ⟨Nat.le_of_ble_eq_true rfl, Nat.le_of_ble_eq_true rfl⟩) (xPV hKK (va_recv hK hPy (ci := 6) (q0 := 0) rfl yg0)) rfl rfl hl.1 rfl (lv_room (Nat.le_of_ble_eq_true rfl)) d_Law_law_404 ⟨Nat.le_of_ble_eq_true rfl, Nat.le_of_ble_eq_true rfl⟩) ?_
  refine W.eq (g2 := F0 m 407 ls [.int v, .int v]) rfl ?_
  refine lv_icmp_eq (tgt := 643) hx hb d_Law_law_407 (by decide) (fun hc => ?_) (fun hc => absurd rfl hc)
  exact kk ST SY _ _ hrel hP hPy hS
set_option maxHeartbeats 4000000 in
set_option maxRecDepth 100000 in
theorem law_worst {p : Program} {l : Launch} {e : Env} {s : State} {m : MethodId} {below : List Frame} {meth : Method} {c : Code} {b L : Nat} {xs : Nat → Int32} {X : xG} {ad bd : Nat → Nat} (C0 : lw_At p s m meth c b L xs) (hKK : xK X s) (hA : okA ad) (hB : okB bd) (had : ∀ j, j < 172 → s.heap.size ≤ ad j) (hbd : ∀ j, j < 23 → s.heap.size ≤ bd j) (hap : ∀ i j, i < 172 → j < 23 → ad i ≠ bd j) {i : Nat} (hi : i + 6 ≤ L) (hL : L ≤ 3072) {ST : xSt} {SY : ySt} (hrel : rel ST SY) {H : Heap} {locs : List Loc} (hP : va_P X.1 vwCl (wX X ad ST) H) (hPy : va_P X.1 vwCl (wY X bd SY) H) (hS : va_S (fun q : Nat => s.heap.size ≤ q) s.heap H locs) {ls : Array Slot} (hl : lv_has ls 4 [(0, .ref b), (1, .ref (ad 0)), (2, .ref (bd 0)), (3, .int (nI i))]) {Q : State → Prop} (kk : ∀ (ST' : xSt) (SY' : ySt) (H : Heap) (locs : List Loc), rel ST' SY' → va_P X.1 vwCl (wX X ad ST') H → va_P X.1 vwCl (wY X bd SY') H → va_S (fun q : Nat => s.heap.size ≤ q) s.heap H locs → W p l e room_1 s m #[Value.ref b] below meth c H locs 195 8228 Q (F0 m 643 ls [])) : W p l e room_1 s m #[Value.ref b] below meth c H locs 195 8228 Q (F0 m 412 ls []) := by
  obtain ⟨hx, hb, hr, hml, hown0, hts, hX, hbl, hlocks, hgv⟩ := id C0
  have ht : ∀ w ∈ xT, w.before #[Value.ref b] s = true := fun w h => hts w (xTg w h).1
  have hown : s.vm.findClass "MaskEdgesLaw" = some m.cls := hown0
  have hK := hKK.1
  have hbA : ¬ (fun q : Nat => s.heap.size ≤ q) b := Nat.not_le.mpr hbl
  obtain ⟨v, e1, e2⟩ := op_worst hrel (xs (nI i + 1).toNatClampNeg)
  refine lv_aload_n hx hb d_Law_law_412 rfl (lv_at hl 1 rfl) ?_
  refine lv_aload_n hx hb d_Law_law_413 rfl (lv_at hl 0 rfl) ?_
  refine lv_iload_n hx hb d_Law_law_414 rfl (lv_at hl 3 rfl) ?_
  refine lv_iconst (v := 1) hx hb d_Law_law_415 (by decide) ?_
  refine lv_iadd hx hb d_Law_law_416 ?_
  refine va_sld hx hb hX hbl hbA hS (in5 (j := 1) hi hL (by omega) rfl) d_Law_law_417 ?_
  refine xcR (va_runV (As := [.int (xs (nI i + 1).toNatClampNeg)]) (rest := []) ⟨hx, hb, hml, hown, ht⟩ (c_MaskEdges_worst l X ad ST (xs (nI i + 1).toNatClampNeg) hP e1) (cwV 1 ht (xgV xw_379 xw_380 xw_381 xw_37 xw_382) rfl rfl rfl (by decide +kernel) ⟨Nat.le_of_ble_eq_true rfl, Nat.le_of_ble_eq_true rfl⟩) (xPV hKK (va_recv hK hP (ci := 5) (q0 := 0) rfl xg0)) rfl rfl hl.1 rfl (lv_room (Nat.le_of_ble_eq_true rfl)) d_Law_law_418 ⟨Nat.le_of_ble_eq_true rfl, Nat.le_of_ble_eq_true rfl⟩) ?_
  refine W.eq (g2 := F0 m 421 ls [.int v]) rfl ?_
  refine lv_aload_n hx hb d_Law_law_421 rfl (lv_at hl 2 rfl) ?_
  refine lv_aload_n hx hb d_Law_law_422 rfl (lv_at hl 0 rfl) ?_
  refine lv_iload_n hx hb d_Law_law_423 rfl (lv_at hl 3 rfl) ?_
  refine lv_iconst (v := 1) hx hb d_Law_law_424 (by decide) ?_
  refine lv_iadd hx hb d_Law_law_425 ?_
  refine va_sld hx hb hX hbl hbA hS (in5 (j := 1) hi hL (by omega) rfl) d_Law_law_426 ?_
  refine xcR (va_runV (As := [.int (xs (nI i + 1).toNatClampNeg)]) (rest := [.int v]) ⟨hx, hb, hml, hown, ht⟩ (c_MaskEdgesModel_worst l X bd SY (xs (nI i + 1).toNatClampNeg) hPy e2) (cwV 1 ht (xgV xw_622 xw_623 xw_624 xw_43 xw_625) rfl rfl rfl (by decide +kernel) ⟨Nat.le_of_ble_eq_true rfl, Nat.le_of_ble_eq_true rfl⟩) (xPV hKK (va_recv hK hPy (ci := 6) (q0 := 0) rfl yg0)) rfl rfl hl.1 rfl (lv_room (Nat.le_of_ble_eq_true rfl)) d_Law_law_427 ⟨Nat.le_of_ble_eq_true rfl, Nat.le_of_ble_eq_true rfl⟩) ?_
  refine W.eq (g2 := F0 m 430 ls [.int v, .int v]) rfl ?_
  refine lv_icmp_eq (tgt := 643) hx hb d_Law_law_430 (by decide) (fun hc => ?_) (fun hc => absurd rfl hc)
  exact kk ST SY _ _ hrel hP hPy hS
set_option maxHeartbeats 4000000 in
set_option maxRecDepth 100000 in
theorem law_helper {p : Program} {l : Launch} {e : Env} {s : State} {m : MethodId} {below : List Frame} {meth : Method} {c : Code} {b L : Nat} {xs : Nat → Int32} {X : xG} {ad bd : Nat → Nat} (C0 : lw_At p s m meth c b L xs) (hKK : xK X s) (hA : okA ad) (hB : okB bd) (had : ∀ j, j < 172 → s.heap.size ≤ ad j) (hbd : ∀ j, j < 23 → s.heap.size ≤ bd j) (hap : ∀ i j, i < 172 → j < 23 → ad i ≠ bd j) {i : Nat} (hi : i + 6 ≤ L) (hL : L ≤ 3072) {ST : xSt} {SY : ySt} (hrel : rel ST SY) {H : Heap} {locs : List Loc} (hP : va_P X.1 vwCl (wX X ad ST) H) (hPy : va_P X.1 vwCl (wY X bd SY) H) (hS : va_S (fun q : Nat => s.heap.size ≤ q) s.heap H locs) {ls : Array Slot} (hl : lv_has ls 4 [(0, .ref b), (1, .ref (ad 0)), (2, .ref (bd 0)), (3, .int (nI i))]) {Q : State → Prop} (kk : ∀ (ST' : xSt) (SY' : ySt) (H : Heap) (locs : List Loc), rel ST' SY' → va_P X.1 vwCl (wX X ad ST') H → va_P X.1 vwCl (wY X bd SY') H → va_S (fun q : Nat => s.heap.size ≤ q) s.heap H locs → W p l e room_1 s m #[Value.ref b] below meth c H locs 195 8228 Q (F0 m 643 ls [])) : W p l e room_1 s m #[Value.ref b] below meth c H locs 195 8228 Q (F0 m 435 ls []) := by
  obtain ⟨hx, hb, hr, hml, hown0, hts, hX, hbl, hlocks, hgv⟩ := id C0
  have ht : ∀ w ∈ xT, w.before #[Value.ref b] s = true := fun w h => hts w (xTg w h).1
  have hown : s.vm.findClass "MaskEdgesLaw" = some m.cls := hown0
  have hK := hKK.1
  have hbA : ¬ (fun q : Nat => s.heap.size ≤ q) b := Nat.not_le.mpr hbl
  obtain ⟨v, x', y', e1, e2, hr2⟩ := op_helper hrel (xs (nI i + 1).toNatClampNeg) (xs (nI i + 2).toNatClampNeg)
  refine lv_aload_n hx hb d_Law_law_435 rfl (lv_at hl 1 rfl) ?_
  refine lv_aload_n hx hb d_Law_law_436 rfl (lv_at hl 0 rfl) ?_
  refine lv_iload_n hx hb d_Law_law_437 rfl (lv_at hl 3 rfl) ?_
  refine lv_iconst (v := 1) hx hb d_Law_law_438 (by decide) ?_
  refine lv_iadd hx hb d_Law_law_439 ?_
  refine va_sld hx hb hX hbl hbA hS (in5 (j := 1) hi hL (by omega) rfl) d_Law_law_440 ?_
  refine lv_aload_n hx hb d_Law_law_441 rfl (lv_at hl 0 rfl) ?_
  refine lv_iload_n hx hb d_Law_law_442 rfl (lv_at hl 3 rfl) ?_
  refine lv_iconst (v := 2) hx hb d_Law_law_443 (by decide) ?_
  refine lv_iadd hx hb d_Law_law_444 ?_
  refine va_sld hx hb hX hbl hbA hS (in5 (j := 2) hi hL (by omega) rfl) d_Law_law_445 ?_
  refine xc (va_runV (As := [.int (xs (nI i + 1).toNatClampNeg), .int (xs (nI i + 2).toNatClampNeg)]) (rest := []) ⟨hx, hb, hml, hown, ht⟩ (c_MaskEdges_helper l X ad ST (xs (nI i + 1).toNatClampNeg) (xs (nI i + 2).toNatClampNeg) hP hA e1) (cwV 2 ht (xgV xw_383 xw_384 xw_385 xw_37 xw_386) rfl rfl rfl (by decide +kernel) ⟨Nat.le_of_ble_eq_true rfl, Nat.le_of_ble_eq_true rfl⟩) (xPV hKK (va_recv hK hP (ci := 5) (q0 := 0) rfl xg0)) rfl rfl hl.1 rfl (lv_room (Nat.le_of_ble_eq_true rfl)) d_Law_law_446 ⟨Nat.le_of_ble_eq_true rfl, Nat.le_of_ble_eq_true rfl⟩) (fun H1 L1 hq hz => ?_)
  replace hS := xS_call hS hz (fun q h => by obtain ⟨j, h1, h2⟩ := h; show s.heap.size ≤ q; rw [h2]; exact had j h1)
  replace hPy := xkeep hPy hz (fun k q hk h => by obtain ⟨h1, rfl⟩ := y_at hk; obtain ⟨j, h3, h4⟩ := h; exact hap j k h3 h1 h4.symm)
  replace hP : va_P X.1 vwCl (wX X ad x') H1 := hq
  clear hq hz
  refine W.eq (g2 := F0 m 449 ls [.int v]) rfl ?_
  refine lv_aload_n hx hb d_Law_law_449 rfl (lv_at hl 2 rfl) ?_
  refine lv_aload_n hx hb d_Law_law_450 rfl (lv_at hl 0 rfl) ?_
  refine lv_iload_n hx hb d_Law_law_451 rfl (lv_at hl 3 rfl) ?_
  refine lv_iconst (v := 1) hx hb d_Law_law_452 (by decide) ?_
  refine lv_iadd hx hb d_Law_law_453 ?_
  refine va_sld hx hb hX hbl hbA hS (in5 (j := 1) hi hL (by omega) rfl) d_Law_law_454 ?_
  refine lv_aload_n hx hb d_Law_law_455 rfl (lv_at hl 0 rfl) ?_
  refine lv_iload_n hx hb d_Law_law_456 rfl (lv_at hl 3 rfl) ?_
  refine lv_iconst (v := 2) hx hb d_Law_law_457 (by decide) ?_
  refine lv_iadd hx hb d_Law_law_458 ?_
  refine va_sld hx hb hX hbl hbA hS (in5 (j := 2) hi hL (by omega) rfl) d_Law_law_459 ?_
  refine xc (va_runV (As := [.int (xs (nI i + 1).toNatClampNeg), .int (xs (nI i + 2).toNatClampNeg)]) (rest := [.int v]) ⟨hx, hb, hml, hown, ht⟩ (c_MaskEdgesModel_helper l X bd SY (xs (nI i + 1).toNatClampNeg) (xs (nI i + 2).toNatClampNeg) hPy hB e2) (cwV 2 ht (xgV xw_626 xw_627 xw_628 xw_43 xw_629) rfl rfl rfl (by decide +kernel) ⟨Nat.le_of_ble_eq_true rfl, Nat.le_of_ble_eq_true rfl⟩) (xPV hKK (va_recv hK hPy (ci := 6) (q0 := 0) rfl yg0)) rfl rfl hl.1 rfl (lv_room (Nat.le_of_ble_eq_true rfl)) d_Law_law_460 ⟨Nat.le_of_ble_eq_true rfl, Nat.le_of_ble_eq_true rfl⟩) (fun H1 L1 hq hz => ?_)
  replace hS := xS_call hS hz (fun q h => by obtain ⟨j, h1, h2⟩ := h; show s.heap.size ≤ q; rw [h2]; exact hbd j h1)
  replace hP := xkeep hP hz (fun k q hk h => by obtain ⟨h1, rfl⟩ := x_at hk; obtain ⟨j, h3, h4⟩ := h; exact hap k j h1 h3 h4)
  replace hPy : va_P X.1 vwCl (wY X bd y') H1 := hq
  clear hq hz
  refine W.eq (g2 := F0 m 463 ls [.int v, .int v]) rfl ?_
  refine lv_icmp_eq (tgt := 643) hx hb d_Law_law_463 (by decide) (fun hc => ?_) (fun hc => absurd rfl hc)
  exact kk x' y' _ _ hr2 hP hPy hS
set_option maxHeartbeats 4000000 in
set_option maxRecDepth 100000 in
theorem law_prints {p : Program} {l : Launch} {e : Env} {s : State} {m : MethodId} {below : List Frame} {meth : Method} {c : Code} {b L : Nat} {xs : Nat → Int32} {X : xG} {ad bd : Nat → Nat} (C0 : lw_At p s m meth c b L xs) (hKK : xK X s) (hA : okA ad) (hB : okB bd) (had : ∀ j, j < 172 → s.heap.size ≤ ad j) (hbd : ∀ j, j < 23 → s.heap.size ≤ bd j) (hap : ∀ i j, i < 172 → j < 23 → ad i ≠ bd j) {i : Nat} (hi : i + 6 ≤ L) (hL : L ≤ 3072) {ST : xSt} {SY : ySt} (hrel : rel ST SY) {H : Heap} {locs : List Loc} (hP : va_P X.1 vwCl (wX X ad ST) H) (hPy : va_P X.1 vwCl (wY X bd SY) H) (hS : va_S (fun q : Nat => s.heap.size ≤ q) s.heap H locs) {ls : Array Slot} (hl : lv_has ls 4 [(0, .ref b), (1, .ref (ad 0)), (2, .ref (bd 0)), (3, .int (nI i))]) {Q : State → Prop} (kk : ∀ (ST' : xSt) (SY' : ySt) (H : Heap) (locs : List Loc), rel ST' SY' → va_P X.1 vwCl (wX X ad ST') H → va_P X.1 vwCl (wY X bd SY') H → va_S (fun q : Nat => s.heap.size ≤ q) s.heap H locs → W p l e room_1 s m #[Value.ref b] below meth c H locs 195 8228 Q (F0 m 643 ls [])) : W p l e room_1 s m #[Value.ref b] below meth c H locs 195 8228 Q (F0 m 468 ls []) := by
  obtain ⟨hx, hb, hr, hml, hown0, hts, hX, hbl, hlocks, hgv⟩ := id C0
  have ht : ∀ w ∈ xT, w.before #[Value.ref b] s = true := fun w h => hts w (xTg w h).1
  have hown : s.vm.findClass "MaskEdgesLaw" = some m.cls := hown0
  have hK := hKK.1
  have hbA : ¬ (fun q : Nat => s.heap.size ≤ q) b := Nat.not_le.mpr hbl
  obtain ⟨v, y', e1, e2, hr2⟩ := op_prints hrel (xs (nI i + 1).toNatClampNeg) (xs (nI i + 2).toNatClampNeg)
  refine lv_aload_n hx hb d_Law_law_468 rfl (lv_at hl 1 rfl) ?_
  refine lv_aload_n hx hb d_Law_law_469 rfl (lv_at hl 0 rfl) ?_
  refine lv_iload_n hx hb d_Law_law_470 rfl (lv_at hl 3 rfl) ?_
  refine lv_iconst (v := 1) hx hb d_Law_law_471 (by decide) ?_
  refine lv_iadd hx hb d_Law_law_472 ?_
  refine va_sld hx hb hX hbl hbA hS (in5 (j := 1) hi hL (by omega) rfl) d_Law_law_473 ?_
  refine lv_aload_n hx hb d_Law_law_474 rfl (lv_at hl 0 rfl) ?_
  refine lv_iload_n hx hb d_Law_law_475 rfl (lv_at hl 3 rfl) ?_
  refine lv_iconst (v := 2) hx hb d_Law_law_476 (by decide) ?_
  refine lv_iadd hx hb d_Law_law_477 ?_
  refine va_sld hx hb hX hbl hbA hS (in5 (j := 2) hi hL (by omega) rfl) d_Law_law_478 ?_
  refine xcR (va_runV (As := [.int (xs (nI i + 1).toNatClampNeg), .int (xs (nI i + 2).toNatClampNeg)]) (rest := []) ⟨hx, hb, hml, hown, ht⟩ (c_MaskEdges_prints l X ad ST (xs (nI i + 1).toNatClampNeg) (xs (nI i + 2).toNatClampNeg) hP e1) (cwV 2 ht (xgV xw_406 xw_407 xw_408 xw_37 xw_409) rfl rfl rfl (by decide +kernel) ⟨Nat.le_of_ble_eq_true rfl, Nat.le_of_ble_eq_true rfl⟩) (xPV hKK (va_recv hK hP (ci := 5) (q0 := 0) rfl xg0)) rfl rfl hl.1 rfl (lv_room (Nat.le_of_ble_eq_true rfl)) d_Law_law_479 ⟨Nat.le_of_ble_eq_true rfl, Nat.le_of_ble_eq_true rfl⟩) ?_
  refine W.eq (g2 := F0 m 482 ls [.int v]) rfl ?_
  refine lv_aload_n hx hb d_Law_law_482 rfl (lv_at hl 2 rfl) ?_
  refine lv_aload_n hx hb d_Law_law_483 rfl (lv_at hl 0 rfl) ?_
  refine lv_iload_n hx hb d_Law_law_484 rfl (lv_at hl 3 rfl) ?_
  refine lv_iconst (v := 1) hx hb d_Law_law_485 (by decide) ?_
  refine lv_iadd hx hb d_Law_law_486 ?_
  refine va_sld hx hb hX hbl hbA hS (in5 (j := 1) hi hL (by omega) rfl) d_Law_law_487 ?_
  refine lv_aload_n hx hb d_Law_law_488 rfl (lv_at hl 0 rfl) ?_
  refine lv_iload_n hx hb d_Law_law_489 rfl (lv_at hl 3 rfl) ?_
  refine lv_iconst (v := 2) hx hb d_Law_law_490 (by decide) ?_
  refine lv_iadd hx hb d_Law_law_491 ?_
  refine va_sld hx hb hX hbl hbA hS (in5 (j := 2) hi hL (by omega) rfl) d_Law_law_492 ?_
  refine xc (va_runV (As := [.int (xs (nI i + 1).toNatClampNeg), .int (xs (nI i + 2).toNatClampNeg)]) (rest := [.int v]) ⟨hx, hb, hml, hown, ht⟩ (c_MaskEdgesModel_prints l X bd SY (xs (nI i + 1).toNatClampNeg) (xs (nI i + 2).toNatClampNeg) hPy hB e2) (cwV 2 ht (xgV xw_637 xw_638 xw_639 xw_43 xw_640) rfl rfl rfl (by decide +kernel) ⟨Nat.le_of_ble_eq_true rfl, Nat.le_of_ble_eq_true rfl⟩) (xPV hKK (va_recv hK hPy (ci := 6) (q0 := 0) rfl yg0)) rfl rfl hl.1 rfl (lv_room (Nat.le_of_ble_eq_true rfl)) d_Law_law_493 ⟨Nat.le_of_ble_eq_true rfl, Nat.le_of_ble_eq_true rfl⟩) (fun H1 L1 hq hz => ?_)
  replace hS := xS_call hS hz (fun q h => by obtain ⟨j, h1, h2⟩ := h; show s.heap.size ≤ q; rw [h2]; exact hbd j h1)
  replace hP := xkeep hP hz (fun k q hk h => by obtain ⟨h1, rfl⟩ := x_at hk; obtain ⟨j, h3, h4⟩ := h; exact hap k j h1 h3 h4)
  replace hPy : va_P X.1 vwCl (wY X bd y') H1 := hq
  clear hq hz
  refine W.eq (g2 := F0 m 496 ls [.int v, .int v]) rfl ?_
  refine lv_icmp_eq (tgt := 643) hx hb d_Law_law_496 (by decide) (fun hc => ?_) (fun hc => absurd rfl hc)
  exact kk ST y' _ _ hr2 hP hPy hS
set_option maxHeartbeats 4000000 in
set_option maxRecDepth 100000 in
theorem law_edge {p : Program} {l : Launch} {e : Env} {s : State} {m : MethodId} {below : List Frame} {meth : Method} {c : Code} {b L : Nat} {xs : Nat → Int32} {X : xG} {ad bd : Nat → Nat} (C0 : lw_At p s m meth c b L xs) (hKK : xK X s) (hA : okA ad) (hB : okB bd) (had : ∀ j, j < 172 → s.heap.size ≤ ad j) (hbd : ∀ j, j < 23 → s.heap.size ≤ bd j) (hap : ∀ i j, i < 172 → j < 23 → ad i ≠ bd j) {i : Nat} (hi : i + 6 ≤ L) (hL : L ≤ 3072) {ST : xSt} {SY : ySt} (hrel : rel ST SY) {H : Heap} {locs : List Loc} (hP : va_P X.1 vwCl (wX X ad ST) H) (hPy : va_P X.1 vwCl (wY X bd SY) H) (hS : va_S (fun q : Nat => s.heap.size ≤ q) s.heap H locs) {ls : Array Slot} (hl : lv_has ls 4 [(0, .ref b), (1, .ref (ad 0)), (2, .ref (bd 0)), (3, .int (nI i))]) {Q : State → Prop} (kk : ∀ (ST' : xSt) (SY' : ySt) (H : Heap) (locs : List Loc), rel ST' SY' → va_P X.1 vwCl (wX X ad ST') H → va_P X.1 vwCl (wY X bd SY') H → va_S (fun q : Nat => s.heap.size ≤ q) s.heap H locs → W p l e room_1 s m #[Value.ref b] below meth c H locs 195 8228 Q (F0 m 643 ls [])) : W p l e room_1 s m #[Value.ref b] below meth c H locs 195 8228 Q (F0 m 501 ls []) := by
  obtain ⟨hx, hb, hr, hml, hown0, hts, hX, hbl, hlocks, hgv⟩ := id C0
  have ht : ∀ w ∈ xT, w.before #[Value.ref b] s = true := fun w h => hts w (xTg w h).1
  have hown : s.vm.findClass "MaskEdgesLaw" = some m.cls := hown0
  have hK := hKK.1
  have hbA : ¬ (fun q : Nat => s.heap.size ≤ q) b := Nat.not_le.mpr hbl
  obtain ⟨v, y', e1, e2, hr2⟩ := op_edge hrel (xs (nI i + 1).toNatClampNeg) (xs (nI i + 2).toNatClampNeg)
  refine lv_aload_n hx hb d_Law_law_501 rfl (lv_at hl 1 rfl) ?_
  refine lv_aload_n hx hb d_Law_law_502 rfl (lv_at hl 0 rfl) ?_
  refine lv_iload_n hx hb d_Law_law_503 rfl (lv_at hl 3 rfl) ?_
  refine lv_iconst (v := 1) hx hb d_Law_law_504 (by decide) ?_
  refine lv_iadd hx hb d_Law_law_505 ?_
  refine va_sld hx hb hX hbl hbA hS (in5 (j := 1) hi hL (by omega) rfl) d_Law_law_506 ?_
  refine lv_aload_n hx hb d_Law_law_507 rfl (lv_at hl 0 rfl) ?_
  refine lv_iload_n hx hb d_Law_law_508 rfl (lv_at hl 3 rfl) ?_
  refine lv_iconst (v := 2) hx hb d_Law_law_509 (by decide) ?_
  refine lv_iadd hx hb d_Law_law_510 ?_
  refine va_sld hx hb hX hbl hbA hS (in5 (j := 2) hi hL (by omega) rfl) d_Law_law_511 ?_
  refine xcR (va_runV (As := [.int (xs (nI i + 1).toNatClampNeg), .int (xs (nI i + 2).toNatClampNeg)]) (rest := []) ⟨hx, hb, hml, hown, ht⟩ (c_MaskEdges_edge l X ad ST (xs (nI i + 1).toNatClampNeg) (xs (nI i + 2).toNatClampNeg) hP e1) (cwV 2 ht (xgV xw_410 xw_411 xw_412 xw_37 xw_413) rfl rfl rfl (by decide +kernel) ⟨Nat.le_of_ble_eq_true rfl, Nat.le_of_ble_eq_true rfl⟩) (xPV hKK (va_recv hK hP (ci := 5) (q0 := 0) rfl xg0)) rfl rfl hl.1 rfl (lv_room (Nat.le_of_ble_eq_true rfl)) d_Law_law_512 ⟨Nat.le_of_ble_eq_true rfl, Nat.le_of_ble_eq_true rfl⟩) ?_
  refine W.eq (g2 := F0 m 515 ls [.int v]) rfl ?_
  refine lv_aload_n hx hb d_Law_law_515 rfl (lv_at hl 2 rfl) ?_
  refine lv_aload_n hx hb d_Law_law_516 rfl (lv_at hl 0 rfl) ?_
  refine lv_iload_n hx hb d_Law_law_517 rfl (lv_at hl 3 rfl) ?_
  refine lv_iconst (v := 1) hx hb d_Law_law_518 (by decide) ?_
  refine lv_iadd hx hb d_Law_law_519 ?_
  refine va_sld hx hb hX hbl hbA hS (in5 (j := 1) hi hL (by omega) rfl) d_Law_law_520 ?_
  refine lv_aload_n hx hb d_Law_law_521 rfl (lv_at hl 0 rfl) ?_
  refine lv_iload_n hx hb d_Law_law_522 rfl (lv_at hl 3 rfl) ?_
  refine lv_iconst (v := 2) hx hb d_Law_law_523 (by decide) ?_
  refine lv_iadd hx hb d_Law_law_524 ?_
  refine va_sld hx hb hX hbl hbA hS (in5 (j := 2) hi hL (by omega) rfl) d_Law_law_525 ?_
  refine xc (va_runV (As := [.int (xs (nI i + 1).toNatClampNeg), .int (xs (nI i + 2).toNatClampNeg)]) (rest := [.int v]) ⟨hx, hb, hml, hown, ht⟩ (c_MaskEdgesModel_edge l X bd SY (xs (nI i + 1).toNatClampNeg) (xs (nI i + 2).toNatClampNeg) hPy hB e2) (cwV 2 ht (xgV xw_599 xw_585 xw_586 xw_43 xw_587) rfl rfl rfl (by decide +kernel) ⟨Nat.le_of_ble_eq_true rfl, Nat.le_of_ble_eq_true rfl⟩) (xPV hKK (va_recv hK hPy (ci := 6) (q0 := 0) rfl yg0)) rfl rfl hl.1 rfl (lv_room (Nat.le_of_ble_eq_true rfl)) d_Law_law_526 ⟨Nat.le_of_ble_eq_true rfl, Nat.le_of_ble_eq_true rfl⟩) (fun H1 L1 hq hz => ?_)
  replace hS := xS_call hS hz (fun q h => by obtain ⟨j, h1, h2⟩ := h; show s.heap.size ≤ q; rw [h2]; exact hbd j h1)
  replace hP := xkeep hP hz (fun k q hk h => by obtain ⟨h1, rfl⟩ := x_at hk; obtain ⟨j, h3, h4⟩ := h; exact hap k j h1 h3 h4)
  replace hPy : va_P X.1 vwCl (wY X bd y') H1 := hq
  clear hq hz
  refine W.eq (g2 := F0 m 529 ls [.int v, .int v]) rfl ?_
  refine lv_icmp_eq (tgt := 643) hx hb d_Law_law_529 (by decide) (fun hc => ?_) (fun hc => absurd rfl hc)
  exact kk ST y' _ _ hr2 hP hPy hS
set_option maxHeartbeats 4000000 in
set_option maxRecDepth 100000 in
theorem law_alike {p : Program} {l : Launch} {e : Env} {s : State} {m : MethodId} {below : List Frame} {meth : Method} {c : Code} {b L : Nat} {xs : Nat → Int32} {X : xG} {ad bd : Nat → Nat} (C0 : lw_At p s m meth c b L xs) (hKK : xK X s) (hA : okA ad) (hB : okB bd) (had : ∀ j, j < 172 → s.heap.size ≤ ad j) (hbd : ∀ j, j < 23 → s.heap.size ≤ bd j) (hap : ∀ i j, i < 172 → j < 23 → ad i ≠ bd j) {i : Nat} (hi : i + 6 ≤ L) (hL : L ≤ 3072) {ST : xSt} {SY : ySt} (hrel : rel ST SY) {H : Heap} {locs : List Loc} (hP : va_P X.1 vwCl (wX X ad ST) H) (hPy : va_P X.1 vwCl (wY X bd SY) H) (hS : va_S (fun q : Nat => s.heap.size ≤ q) s.heap H locs) {ls : Array Slot} (hl : lv_has ls 4 [(0, .ref b), (1, .ref (ad 0)), (2, .ref (bd 0)), (3, .int (nI i))]) {Q : State → Prop} (kk : ∀ (ST' : xSt) (SY' : ySt) (H : Heap) (locs : List Loc), rel ST' SY' → va_P X.1 vwCl (wX X ad ST') H → va_P X.1 vwCl (wY X bd SY') H → va_S (fun q : Nat => s.heap.size ≤ q) s.heap H locs → W p l e room_1 s m #[Value.ref b] below meth c H locs 195 8228 Q (F0 m 643 ls [])) : W p l e room_1 s m #[Value.ref b] below meth c H locs 195 8228 Q (F0 m 534 ls []) := by
  obtain ⟨hx, hb, hr, hml, hown0, hts, hX, hbl, hlocks, hgv⟩ := id C0
  have ht : ∀ w ∈ xT, w.before #[Value.ref b] s = true := fun w h => hts w (xTg w h).1
  have hown : s.vm.findClass "MaskEdgesLaw" = some m.cls := hown0
  have hK := hKK.1
  have hbA : ¬ (fun q : Nat => s.heap.size ≤ q) b := Nat.not_le.mpr hbl
  obtain ⟨v, e1, e2⟩ := op_alike hrel (xs (nI i + 1).toNatClampNeg) (xs (nI i + 2).toNatClampNeg)
  refine lv_aload_n hx hb d_Law_law_534 rfl (lv_at hl 1 rfl) ?_
  refine lv_aload_n hx hb d_Law_law_535 rfl (lv_at hl 0 rfl) ?_
  refine lv_iload_n hx hb d_Law_law_536 rfl (lv_at hl 3 rfl) ?_
  refine lv_iconst (v := 1) hx hb d_Law_law_537 (by decide) ?_
  refine lv_iadd hx hb d_Law_law_538 ?_
  refine va_sld hx hb hX hbl hbA hS (in5 (j := 1) hi hL (by omega) rfl) d_Law_law_539 ?_
  refine lv_aload_n hx hb d_Law_law_540 rfl (lv_at hl 0 rfl) ?_
  refine lv_iload_n hx hb d_Law_law_541 rfl (lv_at hl 3 rfl) ?_
  refine lv_iconst (v := 2) hx hb d_Law_law_542 (by decide) ?_
  refine lv_iadd hx hb d_Law_law_543 ?_
  refine va_sld hx hb hX hbl hbA hS (in5 (j := 2) hi hL (by omega) rfl) d_Law_law_544 ?_
  refine xcR (va_runV (As := [.int (xs (nI i + 1).toNatClampNeg), .int (xs (nI i + 2).toNatClampNeg)]) (rest := []) ⟨hx, hb, hml, hown, ht⟩ (c_MaskEdges_alike l X ad ST (xs (nI i + 1).toNatClampNeg) (xs (nI i + 2).toNatClampNeg) hP e1) (cwV 2 ht (xgV xw_414 xw_415 xw_416 xw_37 xw_417) rfl rfl rfl (by decide +kernel) ⟨Nat.le_of_ble_eq_true rfl, Nat.le_of_ble_eq_true rfl⟩) (xPV hKK (va_recv hK hP (ci := 5) (q0 := 0) rfl xg0)) rfl rfl hl.1 rfl (lv_room (Nat.le_of_ble_eq_true rfl)) d_Law_law_545 ⟨Nat.le_of_ble_eq_true rfl, Nat.le_of_ble_eq_true rfl⟩) ?_
  refine W.eq (g2 := F0 m 548 ls [.int v]) rfl ?_
  refine lv_aload_n hx hb d_Law_law_548 rfl (lv_at hl 2 rfl) ?_
  refine lv_aload_n hx hb d_Law_law_549 rfl (lv_at hl 0 rfl) ?_
  refine lv_iload_n hx hb d_Law_law_550 rfl (lv_at hl 3 rfl) ?_
  refine lv_iconst (v := 1) hx hb d_Law_law_551 (by decide) ?_
  refine lv_iadd hx hb d_Law_law_552 ?_
  refine va_sld hx hb hX hbl hbA hS (in5 (j := 1) hi hL (by omega) rfl) d_Law_law_553 ?_
  refine lv_aload_n hx hb d_Law_law_554 rfl (lv_at hl 0 rfl) ?_
  refine lv_iload_n hx hb d_Law_law_555 rfl (lv_at hl 3 rfl) ?_
  refine lv_iconst (v := 2) hx hb d_Law_law_556 (by decide) ?_
  refine lv_iadd hx hb d_Law_law_557 ?_
  refine va_sld hx hb hX hbl hbA hS (in5 (j := 2) hi hL (by omega) rfl) d_Law_law_558 ?_
  refine xcR (va_runV (As := [.int (xs (nI i + 1).toNatClampNeg), .int (xs (nI i + 2).toNatClampNeg)]) (rest := [.int v]) ⟨hx, hb, hml, hown, ht⟩ (c_MaskEdgesModel_alike l X bd SY (xs (nI i + 1).toNatClampNeg) (xs (nI i + 2).toNatClampNeg) hPy e2) (cwV 2 ht (xgV xw_641 xw_642 xw_643 xw_43 xw_644) rfl rfl rfl (by decide +kernel) ⟨Nat.le_of_ble_eq_true rfl, Nat.le_of_ble_eq_true rfl⟩) (xPV hKK (va_recv hK hPy (ci := 6) (q0 := 0) rfl yg0)) rfl rfl hl.1 rfl (lv_room (Nat.le_of_ble_eq_true rfl)) d_Law_law_559 ⟨Nat.le_of_ble_eq_true rfl, Nat.le_of_ble_eq_true rfl⟩) ?_
  refine W.eq (g2 := F0 m 562 ls [.int v, .int v]) rfl ?_
  refine lv_icmp_eq (tgt := 643) hx hb d_Law_law_562 (by decide) (fun hc => ?_) (fun hc => absurd rfl hc)
  exact kk ST SY _ _ hrel hP hPy hS
set_option maxHeartbeats 4000000 in
set_option maxRecDepth 100000 in
theorem law_shift {p : Program} {l : Launch} {e : Env} {s : State} {m : MethodId} {below : List Frame} {meth : Method} {c : Code} {b L : Nat} {xs : Nat → Int32} {X : xG} {ad bd : Nat → Nat} (C0 : lw_At p s m meth c b L xs) (hKK : xK X s) (hA : okA ad) (hB : okB bd) (had : ∀ j, j < 172 → s.heap.size ≤ ad j) (hbd : ∀ j, j < 23 → s.heap.size ≤ bd j) (hap : ∀ i j, i < 172 → j < 23 → ad i ≠ bd j) {i : Nat} (hi : i + 6 ≤ L) (hL : L ≤ 3072) {ST : xSt} {SY : ySt} (hrel : rel ST SY) {H : Heap} {locs : List Loc} (hP : va_P X.1 vwCl (wX X ad ST) H) (hPy : va_P X.1 vwCl (wY X bd SY) H) (hS : va_S (fun q : Nat => s.heap.size ≤ q) s.heap H locs) {ls : Array Slot} (hl : lv_has ls 4 [(0, .ref b), (1, .ref (ad 0)), (2, .ref (bd 0)), (3, .int (nI i))]) {Q : State → Prop} (kk : ∀ (ST' : xSt) (SY' : ySt) (H : Heap) (locs : List Loc), rel ST' SY' → va_P X.1 vwCl (wX X ad ST') H → va_P X.1 vwCl (wY X bd SY') H → va_S (fun q : Nat => s.heap.size ≤ q) s.heap H locs → W p l e room_1 s m #[Value.ref b] below meth c H locs 195 8228 Q (F0 m 643 ls [])) : W p l e room_1 s m #[Value.ref b] below meth c H locs 195 8228 Q (F0 m 567 ls []) := by
  obtain ⟨hx, hb, hr, hml, hown0, hts, hX, hbl, hlocks, hgv⟩ := id C0
  have ht : ∀ w ∈ xT, w.before #[Value.ref b] s = true := fun w h => hts w (xTg w h).1
  have hown : s.vm.findClass "MaskEdgesLaw" = some m.cls := hown0
  have hK := hKK.1
  have hbA : ¬ (fun q : Nat => s.heap.size ≤ q) b := Nat.not_le.mpr hbl
  obtain ⟨v, x', y', e1, e2, hr2⟩ := op_shift hrel (xs (nI i + 1).toNatClampNeg) (xs (nI i + 2).toNatClampNeg)
  refine lv_aload_n hx hb d_Law_law_567 rfl (lv_at hl 1 rfl) ?_
  refine lv_aload_n hx hb d_Law_law_568 rfl (lv_at hl 0 rfl) ?_
  refine lv_iload_n hx hb d_Law_law_569 rfl (lv_at hl 3 rfl) ?_
  refine lv_iconst (v := 1) hx hb d_Law_law_570 (by decide) ?_
  refine lv_iadd hx hb d_Law_law_571 ?_
  refine va_sld hx hb hX hbl hbA hS (in5 (j := 1) hi hL (by omega) rfl) d_Law_law_572 ?_
  refine lv_aload_n hx hb d_Law_law_573 rfl (lv_at hl 0 rfl) ?_
  refine lv_iload_n hx hb d_Law_law_574 rfl (lv_at hl 3 rfl) ?_
  refine lv_iconst (v := 2) hx hb d_Law_law_575 (by decide) ?_
  refine lv_iadd hx hb d_Law_law_576 ?_
  refine va_sld hx hb hX hbl hbA hS (in5 (j := 2) hi hL (by omega) rfl) d_Law_law_577 ?_
  refine xc (va_runV (As := [.int (xs (nI i + 1).toNatClampNeg), .int (xs (nI i + 2).toNatClampNeg)]) (rest := []) ⟨hx, hb, hml, hown, ht⟩ (c_MaskEdges_shift l X ad ST (xs (nI i + 1).toNatClampNeg) (xs (nI i + 2).toNatClampNeg) hP hA e1) (cwV 2 ht (xgV xw_429 xw_430 xw_431 xw_37 xw_432) rfl rfl rfl (by decide +kernel) ⟨Nat.le_of_ble_eq_true rfl, Nat.le_of_ble_eq_true rfl⟩) (xPV hKK (va_recv hK hP (ci := 5) (q0 := 0) rfl xg0)) rfl rfl hl.1 rfl (lv_room (Nat.le_of_ble_eq_true rfl)) d_Law_law_578 ⟨Nat.le_of_ble_eq_true rfl, Nat.le_of_ble_eq_true rfl⟩) (fun H1 L1 hq hz => ?_)
  replace hS := xS_call hS hz (fun q h => by obtain ⟨j, h1, h2⟩ := h; show s.heap.size ≤ q; rw [h2]; exact had j h1)
  replace hPy := xkeep hPy hz (fun k q hk h => by obtain ⟨h1, rfl⟩ := y_at hk; obtain ⟨j, h3, h4⟩ := h; exact hap j k h3 h1 h4.symm)
  replace hP : va_P X.1 vwCl (wX X ad x') H1 := hq
  clear hq hz
  refine W.eq (g2 := F0 m 581 ls [.int v]) rfl ?_
  refine lv_aload_n hx hb d_Law_law_581 rfl (lv_at hl 2 rfl) ?_
  refine lv_aload_n hx hb d_Law_law_582 rfl (lv_at hl 0 rfl) ?_
  refine lv_iload_n hx hb d_Law_law_583 rfl (lv_at hl 3 rfl) ?_
  refine lv_iconst (v := 1) hx hb d_Law_law_584 (by decide) ?_
  refine lv_iadd hx hb d_Law_law_585 ?_
  refine va_sld hx hb hX hbl hbA hS (in5 (j := 1) hi hL (by omega) rfl) d_Law_law_586 ?_
  refine lv_aload_n hx hb d_Law_law_587 rfl (lv_at hl 0 rfl) ?_
  refine lv_iload_n hx hb d_Law_law_588 rfl (lv_at hl 3 rfl) ?_
  refine lv_iconst (v := 2) hx hb d_Law_law_589 (by decide) ?_
  refine lv_iadd hx hb d_Law_law_590 ?_
  refine va_sld hx hb hX hbl hbA hS (in5 (j := 2) hi hL (by omega) rfl) d_Law_law_591 ?_
  refine xc (va_runV (As := [.int (xs (nI i + 1).toNatClampNeg), .int (xs (nI i + 2).toNatClampNeg)]) (rest := [.int v]) ⟨hx, hb, hml, hown, ht⟩ (c_MaskEdgesModel_shift l X bd SY (xs (nI i + 1).toNatClampNeg) (xs (nI i + 2).toNatClampNeg) hPy hB e2) (cwV 2 ht (xgV xw_645 xw_646 xw_647 xw_43 xw_648) rfl rfl rfl (by decide +kernel) ⟨Nat.le_of_ble_eq_true rfl, Nat.le_of_ble_eq_true rfl⟩) (xPV hKK (va_recv hK hPy (ci := 6) (q0 := 0) rfl yg0)) rfl rfl hl.1 rfl (lv_room (Nat.le_of_ble_eq_true rfl)) d_Law_law_592 ⟨Nat.le_of_ble_eq_true rfl, Nat.le_of_ble_eq_true rfl⟩) (fun H1 L1 hq hz => ?_)
  replace hS := xS_call hS hz (fun q h => by obtain ⟨j, h1, h2⟩ := h; show s.heap.size ≤ q; rw [h2]; exact hbd j h1)
  replace hP := xkeep hP hz (fun k q hk h => by obtain ⟨h1, rfl⟩ := x_at hk; obtain ⟨j, h3, h4⟩ := h; exact hap k j h1 h3 h4)
  replace hPy : va_P X.1 vwCl (wY X bd y') H1 := hq
  clear hq hz
  refine W.eq (g2 := F0 m 595 ls [.int v, .int v]) rfl ?_
  refine lv_icmp_eq (tgt := 643) hx hb d_Law_law_595 (by decide) (fun hc => ?_) (fun hc => absurd rfl hc)
  exact kk x' y' _ _ hr2 hP hPy hS
set_option maxHeartbeats 4000000 in
set_option maxRecDepth 100000 in
theorem law_is {p : Program} {l : Launch} {e : Env} {s : State} {m : MethodId} {below : List Frame} {meth : Method} {c : Code} {b L : Nat} {xs : Nat → Int32} {X : xG} {ad bd : Nat → Nat} (C0 : lw_At p s m meth c b L xs) (hKK : xK X s) (hA : okA ad) (hB : okB bd) (had : ∀ j, j < 172 → s.heap.size ≤ ad j) (hbd : ∀ j, j < 23 → s.heap.size ≤ bd j) (hap : ∀ i j, i < 172 → j < 23 → ad i ≠ bd j) {i : Nat} (hi : i + 6 ≤ L) (hL : L ≤ 3072) {ST : xSt} {SY : ySt} (hrel : rel ST SY) {H : Heap} {locs : List Loc} (hP : va_P X.1 vwCl (wX X ad ST) H) (hPy : va_P X.1 vwCl (wY X bd SY) H) (hS : va_S (fun q : Nat => s.heap.size ≤ q) s.heap H locs) {ls : Array Slot} (hl : lv_has ls 4 [(0, .ref b), (1, .ref (ad 0)), (2, .ref (bd 0)), (3, .int (nI i))]) {Q : State → Prop} (kk : ∀ (ST' : xSt) (SY' : ySt) (H : Heap) (locs : List Loc), rel ST' SY' → va_P X.1 vwCl (wX X ad ST') H → va_P X.1 vwCl (wY X bd SY') H → va_S (fun q : Nat => s.heap.size ≤ q) s.heap H locs → W p l e room_1 s m #[Value.ref b] below meth c H locs 195 8228 Q (F0 m 643 ls [])) : W p l e room_1 s m #[Value.ref b] below meth c H locs 195 8228 Q (F0 m 600 ls []) := by
  obtain ⟨hx, hb, hr, hml, hown0, hts, hX, hbl, hlocks, hgv⟩ := id C0
  have ht : ∀ w ∈ xT, w.before #[Value.ref b] s = true := fun w h => hts w (xTg w h).1
  have hown : s.vm.findClass "MaskEdgesLaw" = some m.cls := hown0
  have hK := hKK.1
  have hbA : ¬ (fun q : Nat => s.heap.size ≤ q) b := Nat.not_le.mpr hbl
  obtain ⟨v, y', e1, e2, hr2⟩ := op_is hrel (xs (nI i + 1).toNatClampNeg) (xs (nI i + 2).toNatClampNeg) (xs (nI i + 3).toNatClampNeg)
  refine lv_aload_n hx hb d_Law_law_600 rfl (lv_at hl 1 rfl) ?_
  refine lv_aload_n hx hb d_Law_law_601 rfl (lv_at hl 0 rfl) ?_
  refine lv_iload_n hx hb d_Law_law_602 rfl (lv_at hl 3 rfl) ?_
  refine lv_iconst (v := 1) hx hb d_Law_law_603 (by decide) ?_
  refine lv_iadd hx hb d_Law_law_604 ?_
  refine va_sld hx hb hX hbl hbA hS (in5 (j := 1) hi hL (by omega) rfl) d_Law_law_605 ?_
  refine lv_aload_n hx hb d_Law_law_606 rfl (lv_at hl 0 rfl) ?_
  refine lv_iload_n hx hb d_Law_law_607 rfl (lv_at hl 3 rfl) ?_
  refine lv_iconst (v := 2) hx hb d_Law_law_608 (by decide) ?_
  refine lv_iadd hx hb d_Law_law_609 ?_
  refine va_sld hx hb hX hbl hbA hS (in5 (j := 2) hi hL (by omega) rfl) d_Law_law_610 ?_
  refine lv_aload_n hx hb d_Law_law_611 rfl (lv_at hl 0 rfl) ?_
  refine lv_iload_n hx hb d_Law_law_612 rfl (lv_at hl 3 rfl) ?_
  refine lv_iconst (v := 3) hx hb d_Law_law_613 (by decide) ?_
  refine lv_iadd hx hb d_Law_law_614 ?_
  refine va_sld hx hb hX hbl hbA hS (in5 (j := 3) hi hL (by omega) rfl) d_Law_law_615 ?_
  refine xcR (va_runV (As := [.int (xs (nI i + 1).toNatClampNeg), .int (xs (nI i + 2).toNatClampNeg), .int (xs (nI i + 3).toNatClampNeg)]) (rest := []) ⟨hx, hb, hml, hown, ht⟩ (c_MaskEdges_is l X ad ST (xs (nI i + 1).toNatClampNeg) (xs (nI i + 2).toNatClampNeg) (xs (nI i + 3).toNatClampNeg) hP e1) (cwV 3 ht (xgV xw_437 xw_438 xw_439 xw_37 xw_440) rfl rfl rfl (by decide +kernel) ⟨Nat.le_of_ble_eq_true rfl, Nat.le_of_ble_eq_true rfl⟩) (xPV hKK (va_recv hK hP (ci := 5) (q0 := 0) rfl xg0)) rfl rfl hl.1 rfl (lv_room (Nat.le_of_ble_eq_true rfl)) d_Law_law_616 ⟨Nat.le_of_ble_eq_true rfl, Nat.le_of_ble_eq_true rfl⟩) ?_
  refine W.eq (g2 := F0 m 619 ls [.int v]) rfl ?_
  refine lv_aload_n hx hb d_Law_law_619 rfl (lv_at hl 2 rfl) ?_
  refine lv_aload_n hx hb d_Law_law_620 rfl (lv_at hl 0 rfl) ?_
  refine lv_iload_n hx hb d_Law_law_621 rfl (lv_at hl 3 rfl) ?_
  refine lv_iconst (v := 1) hx hb d_Law_law_622 (by decide) ?_
  refine lv_iadd hx hb d_Law_law_623 ?_
  refine va_sld hx hb hX hbl hbA hS (in5 (j := 1) hi hL (by omega) rfl) d_Law_law_624 ?_
  refine lv_aload_n hx hb d_Law_law_625 rfl (lv_at hl 0 rfl) ?_
  refine lv_iload_n hx hb d_Law_law_626 rfl (lv_at hl 3 rfl) ?_
  refine lv_iconst (v := 2) hx hb d_Law_law_627 (by decide) ?_
  refine lv_iadd hx hb d_Law_law_628 ?_
  refine va_sld hx hb hX hbl hbA hS (in5 (j := 2) hi hL (by omega) rfl) d_Law_law_629 ?_
  refine lv_aload_n hx hb d_Law_law_630 rfl (lv_at hl 0 rfl) ?_
  refine lv_iload_n hx hb d_Law_law_631 rfl (lv_at hl 3 rfl) ?_
  refine lv_iconst (v := 3) hx hb d_Law_law_632 (by decide) ?_
  refine lv_iadd hx hb d_Law_law_633 ?_
  refine va_sld hx hb hX hbl hbA hS (in5 (j := 3) hi hL (by omega) rfl) d_Law_law_634 ?_
  refine xc (va_runV (As := [.int (xs (nI i + 1).toNatClampNeg), .int (xs (nI i + 2).toNatClampNeg), .int (xs (nI i + 3).toNatClampNeg)]) (rest := [.int v]) ⟨hx, hb, hml, hown, ht⟩ (c_MaskEdgesModel_is l X bd SY (xs (nI i + 1).toNatClampNeg) (xs (nI i + 2).toNatClampNeg) (xs (nI i + 3).toNatClampNeg) hPy hB e2) (cwV 3 ht (xgV xw_651 xw_652 xw_653 xw_43 xw_654) rfl rfl rfl (by decide +kernel) ⟨Nat.le_of_ble_eq_true rfl, Nat.le_of_ble_eq_true rfl⟩) (xPV hKK (va_recv hK hPy (ci := 6) (q0 := 0) rfl yg0)) rfl rfl hl.1 rfl (lv_room (Nat.le_of_ble_eq_true rfl)) d_Law_law_635 ⟨Nat.le_of_ble_eq_true rfl, Nat.le_of_ble_eq_true rfl⟩) (fun H1 L1 hq hz => ?_)
  replace hS := xS_call hS hz (fun q h => by obtain ⟨j, h1, h2⟩ := h; show s.heap.size ≤ q; rw [h2]; exact hbd j h1)
  replace hP := xkeep hP hz (fun k q hk h => by obtain ⟨h1, rfl⟩ := x_at hk; obtain ⟨j, h3, h4⟩ := h; exact hap k j h1 h3 h4)
  replace hPy : va_P X.1 vwCl (wY X bd y') H1 := hq
  clear hq hz
  refine W.eq (g2 := F0 m 638 ls [.int v, .int v]) rfl ?_
  refine lv_icmp_eq (tgt := 643) hx hb d_Law_law_638 (by decide) (fun hc => ?_) (fun hc => absurd rfl hc)
  exact kk ST y' _ _ hr2 hP hPy hS
