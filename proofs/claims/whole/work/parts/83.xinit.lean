/-! MaskEdges() -/
def xKo (X : xG) (U : State) : Prop := xK X U ∧ va_AO "MaskEdges$Outline" U ∧ va_AO "MaskEdges$Piece" U ∧ va_AO "MaskEdges$Box" U
def bI (X : xG) (q : Nat → Nat) (cf : Nat → Nat × va_E) : Prop := ∀ k, k < 16 → k ≠ 1 → k ≠ 2 → k ≠ 4 → cf k = (q k, xfix X q x0 k)
theorem bI_up {X : xG} {q : Nat → Nat} {cf : Nat → Nat × va_E} (h : bI X q cf) {k : Nat} (hk : 16 ≤ k ∨ k = 1 ∨ k = 2 ∨ k = 4) (v : Nat × va_E) : bI X q (va_up cf k v) := fun j h1 h2 h3 h4 => by rw [up_ne _ (by omega)]; exact h j h1 h2 h3 h4
set_option maxHeartbeats 4000000 in
set_option maxRecDepth 100000 in
theorem c_MaskEdges_init (l : Launch) (X : xG) {H : Heap} (h : Nat) (hP : va_P X.1 vwCl [(h, .inr (5, [.null, .int 0, .null, .int 0, .null, .null, .int 0, .null, .null, .null, .null, .null, .int 0, .null]))] H) : xI l y_MaskEdges_init (Cond.code y_MaskEdges_init prog_1_method_1_code 2 none :: xT) ({ frames := 2, cells := 171, slots := 2136, locals := 32 } : Room) (xKo X) [.ref h] H (xNew H h) (fun H1 => ∃ ad : Nat → Nat, ad 0 = h ∧ okA ad ∧ (∀ j, 1 ≤ j → j < 172 → H.size ≤ ad j) ∧ va_P X.1 vwCl (wX X ad x0) H1) 171 2136 := by
  refine Met.ofW (cc := prog_1_method_1_code) (maxL := 2) (ret := none) (by decide) rfl ?_
  intro p e s m args below meth c s₁ B hml hv
  obtain ⟨ha, hH, hKK⟩ := hv
  subst hH
  have hx := B.exec
  have hb := B.bytes
  have hr := B.returns
  have ht : ∀ w ∈ xT, w.before args s = true := fun w h => atoms_spec (ws := (Cond.code y_MaskEdges_init prog_1_method_1_code 2 none :: xT)) B.pre w (List.mem_cons_of_mem _ h)
  have hown : s.vm.findClass "MaskEdges" = some m.cls := findClass_of_methodNamed B.named
  have hlocks := B.notSynchronized
  have hin : meth.name = "<init>" := (name_of_methodNamed B.named B.method).1
  obtain ⟨hKK, hO1, hO2, hO3⟩ := hKK
  have hK := hKK.1
  rw [show entryFrame m args 2 = entryFrame m ([.ref h] : List Value).toArray 2 from by rw [ha]]
  clear ha
  have hS : va_S (xNew s.heap h) s.heap s.heap [] := va_S.rf
  have hA : ∀ q : Nat, s.heap.size ≤ q → xNew s.heap h q := fun q z => Or.inr z
  have hD : va_D (xNew s.heap h) [(h, .inr (5, [.null, .int 0, .null, .int 0, .null, .null, .int 0, .null, .null, .null, .null, .null, .int 0, .null]))] := xD1
  have hl := lv_entry ([.ref h]) (n := 2) (Nat.le_of_ble_eq_true rfl)
  rw [lg_entry_eq]
  generalize (lg_sl ([.ref h]) ++ List.replicate (2 - (lg_sl ([.ref h])).length) Slot.unset).toArray = ls at hl ⊢
  replace hl : lv_has ls 2 [(0, .ref h)] := hl
  refine x_Q (fun Q hQ => ?_)
  have hLL : ∀ (q : Nat → Nat), q 0 = h → ∀ (cf : Nat → Nat × va_E) (H : Heap) (locs : List Loc), (bI X q cf ∧ cf 2 = (q 2, rfE 120 (X.2 3) (fun _ => none))) ∧ cf 4 = (q 4, rfE 24 (X.2 4) (fun _ => none)) → cf 1 = (q 1, rfE 4 (X.2 2) (fun _ => none)) → va_P X.1 vwCl (wF cf 16) H → va_D (xNew s.heap h) (wF cf 16) → va_S (xNew s.heap h) s.heap H locs → ∀ (ls : Array Slot), lv_has ls 2 [(0, .ref h), (1, .int 0)] → W p l e (headSpec (Cond.code y_MaskEdges_init prog_1_method_1_code 2 none :: xT) ({ frames := 2, cells := 171, slots := 2136, locals := 32 } : Room)).room s m args below meth c H locs 15 456 Q (F0 m 103 ls []) := by
    intro q hq0
    have hL156 : ∀ (n i : Nat) (cf : Nat → Nat × va_E) (o : Nat → Option Nat) (H : Heap) (locs : List Loc), i + n = 24 → ((bI X q cf ∧ ∃ o1, cf 1 = (q 1, rfE 4 (X.2 2) o1) ∧ (∀ j, j < 4 → o1 j = some (cf (16 + 3 * j)).1) ∧ ∀ j, j < 4 → (cf (16 + 3 * j)).2 = eO (cf (17 + 3 * j)).1 (cf (18 + 3 * j)).1 ∧ (cf (17 + 3 * j)).2 = eZ X ∧ (cf (18 + 3 * j)).2 = eZ X) ∧ ∃ o2, cf 2 = (q 2, rfE 120 (X.2 3) o2) ∧ (∀ j, j < 120 → o2 j = some (cf (28 + j)).1) ∧ ∀ j, j < 120 → (cf (28 + j)).2 = eP) → (cf 4 = (q 4, rfE 24 (X.2 4) o) ∧ (∀ j, j < i → o j = some (cf (148 + j)).1) ∧ ∀ j, j < i → (cf (148 + j)).2 = eB) → va_P X.1 vwCl (wF cf (148 + i)) H → va_D (xNew s.heap h) (wF cf (148 + i)) → va_S (xNew s.heap h) s.heap H locs → ∀ (ls : Array Slot), lv_has ls 2 [(0, .ref h), (1, .int (nI i))] → W p l e (headSpec (Cond.code y_MaskEdges_init prog_1_method_1_code 2 none :: xT) ({ frames := 2, cells := 171, slots := 2136, locals := 32 } : Room)).room s m args below meth c H locs (147 + i) (2040 + 4 * i) Q (F0 m 156 ls []) := by
      intro n
      induction n with
      | zero =>
        intro i cf o H locs hi hI hJ hP hD hS ls hl
        obtain rfl : i = 24 := by omega
        refine lv_iload_n hx hb d_MaskEdges_init_156 rfl (lv_at hl 1 rfl) ?_
        refine lv_bipush (v := 24) hx hb d_MaskEdges_init_157 (by decide) ?_
        refine lv_icmp_ge (tgt := 181) hx hb d_MaskEdges_init_159 (by decide) (fun hc => ?_) (fun hc => absurd (show (24 : Int32) ≤ nI 24 by decide) hc)
        obtain ⟨⟨hbI, o1, k1, k2, k3⟩, o2, j1, j2, j3⟩ := hI
        obtain ⟨i1, i2, i3⟩ := hJ
        obtain ⟨ad, a0, a1, a2, a3⟩ := x_final hP hD hbI k1 k2 j1 j2 i1 i2 k3 j3 i3
        have hge : ∀ j, 1 ≤ j → j < 172 → s.heap.size ≤ ad j := fun j h1 h2 => by
          rcases a2 j h2 with z | z
          · have := a1 j 0 h2 (by omega) (by rw [a0, hq0]; exact z)
            omega
          · exact z
        subst hQ
        refine W.widen (k := 171) (n := 2136) (by omega) (by omega) ?_
        exact W.vret hx hb hr (fun t ht hW => ⟨⟨rfl, by rw [ht]; exact ⟨ad, a0.trans hq0, a1, hge, a3⟩⟩, hS.F ht⟩) hS.2.2 d_MaskEdges_init_181
      | succ n ih =>
        intro i cf o H locs hi hI hJ hP hD hS ls hl
        obtain ⟨hJ1, hJ2, hJ3⟩ := hJ
        have hc0 : cf 0 = (h, .inr (5, [.ref (q 1), .int 0, .ref (q 2), .int 0, .ref (q 3), .ref (q 4), .int 0, .ref (q 5), .ref (q 7), .ref (q 9), .ref (q 11), .ref (q 14), .int 0, .ref (q 15)])) := by
          have := hI.1.1 0 (by omega) (by omega) (by omega) (by omega)
          rw [this, hq0]
          rfl
        refine lv_iload_n hx hb d_MaskEdges_init_156 rfl (lv_at hl 1 rfl) ?_
        refine lv_bipush (v := 24) hx hb d_MaskEdges_init_157 (by decide) ?_
        refine lv_icmp_ge (tgt := 181) hx hb d_MaskEdges_init_159 (by decide) (fun hc => absurd hc (by rw [i_le, i_n (by omega)]; show ¬ (24 : Int) ≤ _; omega)) (fun hc => ?_)
        refine lv_aload_n hx hb d_MaskEdges_init_162 rfl (lv_at hl 0 rfl) ?_
        refine va_get (D := X.1) (ci := 5) (v := .ref (q 4)) (C := "MaskEdges") (T := F_MaskEdges) (N := 14) hx hb ht in_MaskEdges hown hK hP 0 ((wF_get (by omega)).trans (congrArg some hc0)) rfl 5 (by decide) (ht _ xw_160) (fun _ h9 => h9) rfl d_MaskEdges_init_163 ?_
        refine lv_iload_n hx hb d_MaskEdges_init_166 rfl (lv_at hl 1 rfl) ?_
        refine va_new (ci := 0) (fs := [.int 0, .int 0, .int 0, .int 0]) (C := "MaskEdges$Box") (T := F_Box) (N := 4) hx hb ht in_Box ty_Box tyk_Box hown (ht _ xw_56) (ht _ xw_80) (ht _ xw_40) hK hP hD hS hA rfl (fun j hj => by rcases (show j = 0 ∨ j = 1 ∨ j = 2 ∨ j = 3 by omega) with rfl | rfl | rfl | rfl <;> rfl) (by show 147 + i + 1 ≤ 171; omega) (by show 2040 + 4 * i + 4 ≤ 2136; omega) d_MaskEdges_init_167 (fun qn H hP hD hS => ?_)
        replace hP : va_P X.1 vwCl (wF cf (148 + i) ++ [(qn, eB)]) H := hP
        replace hD : va_D (xNew s.heap h) (wF cf (148 + i) ++ [(qn, eB)]) := hD
        rw [wF_push] at hP hD
        refine lv_dup hx hb d_MaskEdges_init_170 rfl ?_
        refine xcR (va_runIN (As := []) (rest := [.ref qn, .int (nI i), .ref (q 4)]) ⟨hx, hb, hml, hown, ht⟩ (c_Box_init l X qn) ⟨va_cnB 0 ht (xgC xw_82) rfl rfl rfl (hKK.2 _ xn_2) (ht _ xw_40) (by decide +kernel) ⟨Nat.le_of_ble_eq_true rfl, Nat.le_of_ble_eq_true rfl⟩, rfl, ht _ xw_81⟩ (xPS hKK) rfl rfl hl.1 rfl (lv_room (Nat.le_of_ble_eq_true rfl)) d_MaskEdges_init_171 ⟨by show 147 + i + 1 + 0 ≤ 171; omega, by show 2040 + 4 * i + 4 + 0 ≤ 2136; omega⟩) ?_
        refine W.eq (g2 := F0 m 174 ls [.ref qn, .int (nI i), .ref (q 4)]) rfl ?_
        have hcp : va_up cf (148 + i) (qn, eB) 4 = (q 4, rfE 24 (X.2 4) o) := by rw [up_ne _ (by omega)]; exact hJ1
        refine va_astq (v := qn) (vs := [.int 0, .int 0, .int 0, .int 0]) (f := o) (cA := X.2 4) (n := 24) (r := ("MaskEdges$Box", F_Box, 4)) hx hb hK hP hD hS 4 4 (148 + i) 0 ((wF_get (by omega)).trans (congrArg some hcp)) rfl ((wF_get (by omega)).trans (congrArg some (up_at _ _ _))) rfl (vp_in_nI (by omega) (by omega)) d_MaskEdges_init_174 (fun H locs hP hD hS => ?_)
        rw [wF_set (by omega)] at hP hD
        refine lv_iinc (v := nI i + 1) (lv' := [(1, .int (nI i + 1)), (0, .ref h)]) hx hb d_MaskEdges_init_175 hl (k := 1) rfl rfl (by decide) rfl (fun ls hl => ?_)
        refine lv_goto (tgt := 156) hx hb d_MaskEdges_init_178 (by decide) ?_
        refine W.widen (k := 147 + (i + 1)) (n := 2040 + 4 * (i + 1)) (by omega) (by omega) ?_
        rw [nI_1] at hl
        have ci' : (nI i).toNatClampNeg = i := nI_clamp (by omega)
        rw [ci'] at hP hD
        refine ih (i + 1) _ (va_up o i (some qn)) H locs (by omega) ?_ ⟨by rw [up_at]; rfl, fun j hj => ?_, fun j hj => ?_⟩ hP hD hS ls (lv_sub hl [1, 0] rfl)
        · obtain ⟨⟨hbI, o1, k1, k2, k3⟩, o2, j1, j2, j3⟩ := hI
          refine ⟨⟨bI_up (bI_up hbI (by omega) _) (by omega) _, o1, by rw [up_ne _ (by omega), up_ne _ (by omega)]; exact k1, fun j hj => by rw [up_ne _ (by omega), up_ne _ (by omega)]; exact k2 j hj, fun j hj => ?_⟩, o2, by rw [up_ne _ (by omega), up_ne _ (by omega)]; exact j1, fun j hj => by rw [up_ne _ (by omega), up_ne _ (by omega)]; exact j2 j hj, fun j hj => by rw [up_ne _ (by omega), up_ne _ (by omega)]; exact j3 j hj⟩
          rw [up_ne _ (by omega), up_ne _ (by omega), up_ne _ (by omega), up_ne _ (by omega), up_ne _ (by omega), up_ne _ (by omega)]
          exact k3 j hj
        · by_cases ej : j = i
          · rw [ej, up_at, up_ne _ (by omega), up_at]
          · rw [up_ne _ ej, up_ne _ (by omega), up_ne _ (by omega)]
            exact hJ2 j (by omega)
        · by_cases ej : j = i
          · rw [ej, up_ne _ (by omega), up_at]
          · rw [up_ne _ (by omega), up_ne _ (by omega)]
            exact hJ3 j (by omega)
    have hL129 : ∀ (n i : Nat) (cf : Nat → Nat × va_E) (o : Nat → Option Nat) (H : Heap) (locs : List Loc), i + n = 120 → ((bI X q cf ∧ ∃ o1, cf 1 = (q 1, rfE 4 (X.2 2) o1) ∧ (∀ j, j < 4 → o1 j = some (cf (16 + 3 * j)).1) ∧ ∀ j, j < 4 → (cf (16 + 3 * j)).2 = eO (cf (17 + 3 * j)).1 (cf (18 + 3 * j)).1 ∧ (cf (17 + 3 * j)).2 = eZ X ∧ (cf (18 + 3 * j)).2 = eZ X) ∧ cf 4 = (q 4, rfE 24 (X.2 4) (fun _ => none))) → (cf 2 = (q 2, rfE 120 (X.2 3) o) ∧ (∀ j, j < i → o j = some (cf (28 + j)).1) ∧ ∀ j, j < i → (cf (28 + j)).2 = eP) → va_P X.1 vwCl (wF cf (28 + i)) H → va_D (xNew s.heap h) (wF cf (28 + i)) → va_S (xNew s.heap h) s.heap H locs → ∀ (ls : Array Slot), lv_has ls 2 [(0, .ref h), (1, .int (nI i))] → W p l e (headSpec (Cond.code y_MaskEdges_init prog_1_method_1_code 2 none :: xT) ({ frames := 2, cells := 171, slots := 2136, locals := 32 } : Room)).room s m args below meth c H locs (27 + i) (600 + 12 * i) Q (F0 m 129 ls []) := by
      intro n
      induction n with
      | zero =>
        intro i cf o H locs hi hI hJ hP hD hS ls hl
        obtain rfl : i = 120 := by omega
        refine lv_iload_n hx hb d_MaskEdges_init_129 rfl (lv_at hl 1 rfl) ?_
        refine lv_bipush (v := 120) hx hb d_MaskEdges_init_130 (by decide) ?_
        refine lv_icmp_ge (tgt := 154) hx hb d_MaskEdges_init_132 (by decide) (fun hc => ?_) (fun hc => absurd (show (120 : Int32) ≤ nI 120 by decide) hc)
        refine lv_iconst (v := 0) hx hb d_MaskEdges_init_154 (by decide) ?_
        refine lv_istore_n (lv' := [(1, .int 0), (0, .ref h)]) hx hb d_MaskEdges_init_155 rfl hl (by decide) rfl (fun ls hl => ?_)
        refine W.widen (k := 147 + 0) (n := 2040 + 4 * 0) (by omega) (by omega) ?_
        exact hL156 24 0 cf (fun _ => none) H locs rfl ⟨⟨hI.1.1, hI.1.2⟩, o, hJ⟩ ⟨hI.2, fun j hj => absurd hj (Nat.not_lt_zero _), fun j hj => absurd hj (Nat.not_lt_zero _)⟩ hP hD hS ls (lv_sub hl [1, 0] rfl)
      | succ n ih =>
        intro i cf o H locs hi hI hJ hP hD hS ls hl
        obtain ⟨hJ1, hJ2, hJ3⟩ := hJ
        have hc0 : cf 0 = (h, .inr (5, [.ref (q 1), .int 0, .ref (q 2), .int 0, .ref (q 3), .ref (q 4), .int 0, .ref (q 5), .ref (q 7), .ref (q 9), .ref (q 11), .ref (q 14), .int 0, .ref (q 15)])) := by
          have := hI.1.1 0 (by omega) (by omega) (by omega) (by omega)
          rw [this, hq0]
          rfl
        refine lv_iload_n hx hb d_MaskEdges_init_129 rfl (lv_at hl 1 rfl) ?_
        refine lv_bipush (v := 120) hx hb d_MaskEdges_init_130 (by decide) ?_
        refine lv_icmp_ge (tgt := 154) hx hb d_MaskEdges_init_132 (by decide) (fun hc => absurd hc (by rw [i_le, i_n (by omega)]; show ¬ (120 : Int) ≤ _; omega)) (fun hc => ?_)
        refine lv_aload_n hx hb d_MaskEdges_init_135 rfl (lv_at hl 0 rfl) ?_
        refine va_get (D := X.1) (ci := 5) (v := .ref (q 2)) (C := "MaskEdges") (T := F_MaskEdges) (N := 14) hx hb ht in_MaskEdges hown hK hP 0 ((wF_get (by omega)).trans (congrArg some hc0)) rfl 2 (by decide) (ht _ xw_157) (fun _ h9 => h9) rfl d_MaskEdges_init_136 ?_
        refine lv_iload_n hx hb d_MaskEdges_init_139 rfl (lv_at hl 1 rfl) ?_
        refine va_new (ci := 4) (fs := [.int 0, .int 0, .int 0, .int 0, .int 0, .int 0, .int 0, .int 0, .int 0, .int 0, .int 0, .int 0]) (C := "MaskEdges$Piece") (T := F_Piece) (N := 12) hx hb ht in_Piece ty_Piece tyk_Piece hown (ht _ xw_55) (ht _ xw_116) (ht _ xw_42) hK hP hD hS hA rfl (fun j hj => by rcases (show j = 0 ∨ j = 1 ∨ j = 2 ∨ j = 3 ∨ j = 4 ∨ j = 5 ∨ j = 6 ∨ j = 7 ∨ j = 8 ∨ j = 9 ∨ j = 10 ∨ j = 11 by omega) with rfl | rfl | rfl | rfl | rfl | rfl | rfl | rfl | rfl | rfl | rfl | rfl <;> rfl) (by show 27 + i + 1 ≤ 171; omega) (by show 600 + 12 * i + 12 ≤ 2136; omega) d_MaskEdges_init_140 (fun qn H hP hD hS => ?_)
        replace hP : va_P X.1 vwCl (wF cf (28 + i) ++ [(qn, eP)]) H := hP
        replace hD : va_D (xNew s.heap h) (wF cf (28 + i) ++ [(qn, eP)]) := hD
        rw [wF_push] at hP hD
        refine lv_dup hx hb d_MaskEdges_init_143 rfl ?_
        refine xcR (va_runIN (As := []) (rest := [.ref qn, .int (nI i), .ref (q 2)]) ⟨hx, hb, hml, hown, ht⟩ (c_Piece_init l X qn) ⟨va_cnB 0 ht (xgC xw_118) rfl rfl rfl (hKK.2 _ xn_4) (ht _ xw_42) (by decide +kernel) ⟨Nat.le_of_ble_eq_true rfl, Nat.le_of_ble_eq_true rfl⟩, rfl, ht _ xw_117⟩ (xPS hKK) rfl rfl hl.1 rfl (lv_room (Nat.le_of_ble_eq_true rfl)) d_MaskEdges_init_144 ⟨by show 27 + i + 1 + 0 ≤ 171; omega, by show 600 + 12 * i + 12 + 0 ≤ 2136; omega⟩) ?_
        refine W.eq (g2 := F0 m 147 ls [.ref qn, .int (nI i), .ref (q 2)]) rfl ?_
        have hcp : va_up cf (28 + i) (qn, eP) 2 = (q 2, rfE 120 (X.2 3) o) := by rw [up_ne _ (by omega)]; exact hJ1
        refine va_astq (v := qn) (vs := [.int 0, .int 0, .int 0, .int 0, .int 0, .int 0, .int 0, .int 0, .int 0, .int 0, .int 0, .int 0]) (f := o) (cA := X.2 3) (n := 120) (r := ("MaskEdges$Piece", F_Piece, 12)) hx hb hK hP hD hS 2 3 (28 + i) 4 ((wF_get (by omega)).trans (congrArg some hcp)) rfl ((wF_get (by omega)).trans (congrArg some (up_at _ _ _))) rfl (vp_in_nI (by omega) (by omega)) d_MaskEdges_init_147 (fun H locs hP hD hS => ?_)
        rw [wF_set (by omega)] at hP hD
        refine lv_iinc (v := nI i + 1) (lv' := [(1, .int (nI i + 1)), (0, .ref h)]) hx hb d_MaskEdges_init_148 hl (k := 1) rfl rfl (by decide) rfl (fun ls hl => ?_)
        refine lv_goto (tgt := 129) hx hb d_MaskEdges_init_151 (by decide) ?_
        refine W.widen (k := 27 + (i + 1)) (n := 600 + 12 * (i + 1)) (by omega) (by omega) ?_
        rw [nI_1] at hl
        have ci' : (nI i).toNatClampNeg = i := nI_clamp (by omega)
        rw [ci'] at hP hD
        refine ih (i + 1) _ (va_up o i (some qn)) H locs (by omega) ?_ ⟨by rw [up_at]; rfl, fun j hj => ?_, fun j hj => ?_⟩ hP hD hS ls (lv_sub hl [1, 0] rfl)
        · refine ⟨?_, by rw [up_ne _ (by omega), up_ne _ (by omega)]; exact hI.2⟩
          obtain ⟨hbI, o1, k1, k2, k3⟩ := hI.1
          refine ⟨bI_up (bI_up hbI (by omega) _) (by omega) _, o1, by rw [up_ne _ (by omega), up_ne _ (by omega)]; exact k1, fun j hj => by rw [up_ne _ (by omega), up_ne _ (by omega)]; exact k2 j hj, fun j hj => ?_⟩
          rw [up_ne _ (by omega), up_ne _ (by omega), up_ne _ (by omega), up_ne _ (by omega), up_ne _ (by omega), up_ne _ (by omega)]
          exact k3 j hj
        · by_cases ej : j = i
          · rw [ej, up_at, up_ne _ (by omega), up_at]
          · rw [up_ne _ ej, up_ne _ (by omega), up_ne _ (by omega)]
            exact hJ2 j (by omega)
        · by_cases ej : j = i
          · rw [ej, up_ne _ (by omega), up_at]
          · rw [up_ne _ (by omega), up_ne _ (by omega)]
            exact hJ3 j (by omega)
    have hL103 : ∀ (n i : Nat) (cf : Nat → Nat × va_E) (o : Nat → Option Nat) (H : Heap) (locs : List Loc), i + n = 4 → ((bI X q cf ∧ cf 2 = (q 2, rfE 120 (X.2 3) (fun _ => none))) ∧ cf 4 = (q 4, rfE 24 (X.2 4) (fun _ => none))) → (cf 1 = (q 1, rfE 4 (X.2 2) o) ∧ (∀ j, j < i → o j = some (cf (16 + 3 * j)).1) ∧ ∀ j, j < i → (cf (16 + 3 * j)).2 = eO (cf (17 + 3 * j)).1 (cf (18 + 3 * j)).1 ∧ (cf (17 + 3 * j)).2 = eZ X ∧ (cf (18 + 3 * j)).2 = eZ X) → va_P X.1 vwCl (wF cf (16 + 3 * i)) H → va_D (xNew s.heap h) (wF cf (16 + 3 * i)) → va_S (xNew s.heap h) s.heap H locs → ∀ (ls : Array Slot), lv_has ls 2 [(0, .ref h), (1, .int (nI i))] → W p l e (headSpec (Cond.code y_MaskEdges_init prog_1_method_1_code 2 none :: xT) ({ frames := 2, cells := 171, slots := 2136, locals := 32 } : Room)).room s m args below meth c H locs (15 + 3 * i) (456 + 36 * i) Q (F0 m 103 ls []) := by
      intro n
      induction n with
      | zero =>
        intro i cf o H locs hi hI hJ hP hD hS ls hl
        obtain rfl : i = 4 := by omega
        refine lv_iload_n hx hb d_MaskEdges_init_103 rfl (lv_at hl 1 rfl) ?_
        refine lv_iconst (v := 4) hx hb d_MaskEdges_init_104 (by decide) ?_
        refine lv_icmp_ge (tgt := 127) hx hb d_MaskEdges_init_105 (by decide) (fun hc => ?_) (fun hc => absurd (show (4 : Int32) ≤ nI 4 by decide) hc)
        refine lv_iconst (v := 0) hx hb d_MaskEdges_init_127 (by decide) ?_
        refine lv_istore_n (lv' := [(1, .int 0), (0, .ref h)]) hx hb d_MaskEdges_init_128 rfl hl (by decide) rfl (fun ls hl => ?_)
        refine W.widen (k := 27 + 0) (n := 600 + 12 * 0) (by omega) (by omega) ?_
        exact hL129 120 0 cf (fun _ => none) H locs rfl ⟨⟨hI.1.1, o, hJ⟩, hI.2⟩ ⟨hI.1.2, fun j hj => absurd hj (Nat.not_lt_zero _), fun j hj => absurd hj (Nat.not_lt_zero _)⟩ hP hD hS ls (lv_sub hl [1, 0] rfl)
      | succ n ih =>
        intro i cf o H locs hi hI hJ hP hD hS ls hl
        obtain ⟨hJ1, hJ2, hJ3⟩ := hJ
        have hc0 : cf 0 = (h, .inr (5, [.ref (q 1), .int 0, .ref (q 2), .int 0, .ref (q 3), .ref (q 4), .int 0, .ref (q 5), .ref (q 7), .ref (q 9), .ref (q 11), .ref (q 14), .int 0, .ref (q 15)])) := by
          have := hI.1.1 0 (by omega) (by omega) (by omega) (by omega)
          rw [this, hq0]
          rfl
        refine lv_iload_n hx hb d_MaskEdges_init_103 rfl (lv_at hl 1 rfl) ?_
        refine lv_iconst (v := 4) hx hb d_MaskEdges_init_104 (by decide) ?_
        refine lv_icmp_ge (tgt := 127) hx hb d_MaskEdges_init_105 (by decide) (fun hc => absurd hc (by rw [i_le, i_n (by omega)]; show ¬ (4 : Int) ≤ _; omega)) (fun hc => ?_)
        refine lv_aload_n hx hb d_MaskEdges_init_108 rfl (lv_at hl 0 rfl) ?_
        refine va_get (D := X.1) (ci := 5) (v := .ref (q 1)) (C := "MaskEdges") (T := F_MaskEdges) (N := 14) hx hb ht in_MaskEdges hown hK hP 0 ((wF_get (by omega)).trans (congrArg some hc0)) rfl 0 (by decide) (ht _ xw_155) (fun _ h9 => h9) rfl d_MaskEdges_init_109 ?_
        refine lv_iload_n hx hb d_MaskEdges_init_112 rfl (lv_at hl 1 rfl) ?_
        refine va_new (ci := 3) (fs := [.null, .null, .int 0, .int 0]) (C := "MaskEdges$Outline") (T := F_Outline) (N := 4) hx hb ht in_Outline ty_Outline tyk_Outline hown (ht _ xw_54) (ht _ xw_100) (ht _ xw_41) hK hP hD hS hA rfl (fun j hj => by rcases (show j = 0 ∨ j = 1 ∨ j = 2 ∨ j = 3 by omega) with rfl | rfl | rfl | rfl <;> rfl) (by show 15 + 3 * i + 1 ≤ 171; omega) (by show 456 + 36 * i + 4 ≤ 2136; omega) d_MaskEdges_init_113 (fun qn H hP hD hS => ?_)
        refine lv_dup hx hb d_MaskEdges_init_116 rfl ?_
        have hPc : va_P X.1 vwCl [(qn, .inr (3, [.null, .null, .int 0, .int 0]))] H := fun k x hk => by
          match k, hk with
          | 0, hk => cases hk; exact hP (16 + 3 * i) _ (by rw [List.getElem?_append_right (by rw [wF_len]; omega), wF_len, Nat.sub_self]; rfl)
          | k + 1, hk => simp at hk
        refine xcI (va_runIN (As := []) (rest := [.ref qn, .int (nI i), .ref (q 1)]) ⟨hx, hb, hml, hown, ht⟩ (c_Outline_init l X qn hPc) ⟨va_cnB 0 ht (xgC xw_102) rfl rfl rfl (hKK.2 _ xn_3) (ht _ xw_41) (by decide +kernel) ⟨Nat.le_of_ble_eq_true rfl, Nat.le_of_ble_eq_true rfl⟩, rfl, ht _ xw_101⟩ (xPS hKK) rfl rfl hl.1 rfl (lv_room (Nat.le_of_ble_eq_true rfl)) d_MaskEdges_init_117 ⟨by show 15 + 3 * i + 1 + 2 ≤ 171; omega, by show 456 + 36 * i + 4 + 32 ≤ 2136; omega⟩) (fun H1 L hq hz => ?_)
        have hAq : ∀ x, xNew H qn x → xNew s.heap h x := fun x z => z.elim (fun z => by rw [z]; exact hD.2 (16 + 3 * i) (qn, .inr (3, [.null, .null, .int 0, .int 0])) (by rw [List.getElem?_append_right (by rw [wF_len]; omega), wF_len, Nat.sub_self]; rfl)) (fun z => Or.inr (Nat.le_trans hS.1 z))
        replace hS := xS_call hS hz hAq
        obtain ⟨b0, b1, gne, g0, g1, hq⟩ := hq
        obtain ⟨hP2, hD2⟩ := xgrow (ws := wF cf (16 + 3 * i)) (q := qn) (e := .inr (3, [.null, .null, .int 0, .int 0])) (e' := eO b0 b1) (w1 := [(b0, eZ X), (b1, eZ X)]) hP hD hz hq (xw2 g0 g1) (xn2 gne) (fun x z => hAq x (Or.inr z))
        clear hq hz hP hD hPc
        generalize H1 = H at hP2 hS
        have ews : wF cf (16 + 3 * i) ++ (qn, eO b0 b1) :: [(b0, eZ X), (b1, eZ X)] = wF (va_up (va_up (va_up cf (16 + 3 * i) (qn, eO b0 b1)) (17 + 3 * i) (b0, eZ X)) (18 + 3 * i) (b1, eZ X)) (16 + 3 * (i + 1)) := by
          rw [show wF cf (16 + 3 * i) ++ (qn, eO b0 b1) :: [(b0, eZ X), (b1, eZ X)] = ((wF cf (16 + 3 * i) ++ [(qn, eO b0 b1)]) ++ [(b0, eZ X)]) ++ [(b1, eZ X)] from by simp, wF_push, wF_push, wF_push, show 16 + 3 * i + 1 = 17 + 3 * i from by omega, show 17 + 3 * i + 1 = 18 + 3 * i from by omega, show 18 + 3 * i + 1 = 16 + 3 * (i + 1) from by omega]
        rw [ews] at hP2 hD2
        obtain ⟨cg, hcg⟩ : ∃ cg, cg = va_up (va_up (va_up cf (16 + 3 * i) (qn, eO b0 b1)) (17 + 3 * i) (b0, eZ X)) (18 + 3 * i) (b1, eZ X) := ⟨_, rfl⟩
        rw [← hcg] at hP2 hD2
        have cgo : ∀ k, k < 16 + 3 * i → cg k = cf k := fun k hk => by rw [hcg, up_ne _ (by omega), up_ne _ (by omega), up_ne _ (by omega)]
        have cg0 : cg (16 + 3 * i) = (qn, eO b0 b1) := by rw [hcg, up_ne _ (by omega), up_ne _ (by omega), up_at]
        have cg1 : cg (17 + 3 * i) = (b0, eZ X) := by rw [hcg, up_ne _ (by omega), up_at]
        have cg2 : cg (18 + 3 * i) = (b1, eZ X) := by rw [hcg, up_at]
        refine W.eq (g2 := F0 m 120 ls [.ref qn, .int (nI i), .ref (q 1)]) rfl ?_
        have hcp : cg 1 = (q 1, rfE 4 (X.2 2) o) := by rw [cgo 1 (by omega)]; exact hJ1
        refine va_astq (v := qn) (vs := [.ref b0, .ref b1, .int 0, .int 0]) (f := o) (cA := X.2 2) (n := 4) (r := ("MaskEdges$Outline", F_Outline, 4)) hx hb hK hP2 hD2 hS 1 2 (16 + 3 * i) 3 ((wF_get (by omega)).trans (congrArg some hcp)) rfl ((wF_get (by omega)).trans (congrArg some cg0)) rfl (vp_in_nI (by omega) (by omega)) d_MaskEdges_init_120 (fun H locs hP hD hS => ?_)
        rw [wF_set (by omega)] at hP hD
        refine lv_iinc (v := nI i + 1) (lv' := [(1, .int (nI i + 1)), (0, .ref h)]) hx hb d_MaskEdges_init_121 hl (k := 1) rfl rfl (by decide) rfl (fun ls hl => ?_)
        refine lv_goto (tgt := 103) hx hb d_MaskEdges_init_124 (by decide) ?_
        refine W.widen (k := 15 + 3 * (i + 1)) (n := 456 + 36 * (i + 1)) (by omega) (by omega) ?_
        rw [nI_1] at hl
        have ci' : (nI i).toNatClampNeg = i := nI_clamp (by omega)
        rw [ci'] at hP hD
        refine ih (i + 1) _ (va_up o i (some qn)) H locs (by omega) ⟨⟨bI_up (fun k h1 h2 h3 h4 => by rw [cgo k (by omega)]; exact hI.1.1 k h1 h2 h3 h4) (by omega) _, by rw [up_ne _ (by omega), cgo 2 (by omega)]; exact hI.1.2⟩, by rw [up_ne _ (by omega), cgo 4 (by omega)]; exact hI.2⟩ ⟨by rw [up_at]; rfl, fun j hj => ?_, fun j hj => ?_⟩ hP hD hS ls (lv_sub hl [1, 0] rfl)
        · by_cases ej : j = i
          · rw [ej, up_at, up_ne _ (by omega), cg0]
          · rw [up_ne _ ej, up_ne _ (by omega), cgo _ (by omega)]
            exact hJ2 j (by omega)
        · by_cases ej : j = i
          · rw [ej, up_ne _ (by omega), up_ne _ (by omega), up_ne _ (by omega), cg0, cg1, cg2]
            exact ⟨rfl, rfl, rfl⟩
          · rw [up_ne _ (by omega), up_ne _ (by omega), up_ne _ (by omega), cgo _ (by omega), cgo _ (by omega), cgo _ (by omega)]
            exact hJ3 j (by omega)
    intro cf H locs hI h1 hP hD hS ls hl
    refine W.widen (k := 15 + 3 * 0) (n := 456 + 36 * 0) (by omega) (by omega) ?_
    exact hL103 4 0 cf (fun _ => none) H locs rfl hI ⟨h1, fun j hj => absurd hj (Nat.not_lt_zero _), fun j hj => absurd hj (Nat.not_lt_zero _)⟩ hP hD hS ls hl
  refine lv_aload_n hx hb d_MaskEdges_init_0 rfl (lv_at hl 0 rfl) ?_
  refine W.objInit hx hb hown (ht _ xw_51) (ht _ xw_52) (ht _ xw_obj) rfl (by rw [hml]; exact hl.1) rfl d_MaskEdges_init_1 (Nat.le_of_ble_eq_true rfl) (Nat.le_of_ble_eq_true rfl) ?_
  refine W.eq (g2 := F0 m 4 ls []) rfl ?_
  refine lv_aload_n hx hb d_MaskEdges_init_4 rfl (lv_at hl 0 rfl) ?_
  refine lv_iconst (v := 4) hx hb d_MaskEdges_init_5 (by decide) ?_
  refine va_newq (own := "MaskEdges") (C := "MaskEdges$Outline") (index := 9) (N' := 4) hx hb hown (ht _ xw_54) hO1 hK hP hD hS hA (by decide) rfl (by decide) (Nat.le_of_ble_eq_true rfl) (Nat.le_of_ble_eq_true rfl) d_MaskEdges_init_6 (fun q1 cA H hK1 hP hD hS => ?_)
  obtain rfl := xc_q (k := 2) hK1 rfl
  clear hK1
  replace hP : va_P X.1 vwCl [(h, .inr (5, [.null, .int 0, .null, .int 0, .null, .null, .int 0, .null, .null, .null, .null, .null, .int 0, .null])), (q1, .inl (X.2 2, 4, .inr (.inr (.inr (.inr (fun _ => none))))))] H := hP
  replace hD : va_D (xNew s.heap h) [(h, .inr (5, [.null, .int 0, .null, .int 0, .null, .null, .int 0, .null, .null, .null, .null, .null, .int 0, .null])), (q1, .inl (X.2 2, 4, .inr (.inr (.inr (.inr (fun _ => none))))))] := hD
  refine W.widen (k := 1) (n := 4) (by omega) (by omega) ?_
  refine va_putF (D := X.1) (ci := 5) (v := .ref q1) (ty := .array (.object "MaskEdges$Outline")) (C := "MaskEdges") (T := F_MaskEdges) (N := 14) hx hb ht in_MaskEdges ty_MaskEdges tyk_MaskEdges nm_MaskEdges hown hK hP hD hS 0 rfl rfl 0 (by decide) (ht _ xw_155) (fun _ h9 => h9) rfl hin rfl (by decide +kernel) rfl rfl (Nat.le_of_ble_eq_true rfl) d_MaskEdges_init_9 (fun H locs hP hD hS => ?_)
  replace hP : va_P X.1 vwCl [(h, .inr (5, [.ref q1, .int 0, .null, .int 0, .null, .null, .int 0, .null, .null, .null, .null, .null, .int 0, .null])), (q1, .inl (X.2 2, 4, .inr (.inr (.inr (.inr (fun _ => none))))))] H := hP
  replace hD : va_D (xNew s.heap h) [(h, .inr (5, [.ref q1, .int 0, .null, .int 0, .null, .null, .int 0, .null, .null, .null, .null, .null, .int 0, .null])), (q1, .inl (X.2 2, 4, .inr (.inr (.inr (.inr (fun _ => none))))))] := hD
  refine lv_aload_n hx hb d_MaskEdges_init_12 rfl (lv_at hl 0 rfl) ?_
  refine lv_bipush (v := 120) hx hb d_MaskEdges_init_13 (by decide) ?_
  refine va_newq (own := "MaskEdges") (C := "MaskEdges$Piece") (index := 15) (N' := 120) hx hb hown (ht _ xw_55) hO2 hK hP hD hS hA (by decide) rfl (by decide) (Nat.le_of_ble_eq_true rfl) (Nat.le_of_ble_eq_true rfl) d_MaskEdges_init_15 (fun q2 cA H hK1 hP hD hS => ?_)
  obtain rfl := xc_q (k := 3) hK1 rfl
  clear hK1
  replace hP : va_P X.1 vwCl [(h, .inr (5, [.ref q1, .int 0, .null, .int 0, .null, .null, .int 0, .null, .null, .null, .null, .null, .int 0, .null])), (q1, .inl (X.2 2, 4, .inr (.inr (.inr (.inr (fun _ => none)))))), (q2, .inl (X.2 3, 120, .inr (.inr (.inr (.inr (fun _ => none))))))] H := hP
  replace hD : va_D (xNew s.heap h) [(h, .inr (5, [.ref q1, .int 0, .null, .int 0, .null, .null, .int 0, .null, .null, .null, .null, .null, .int 0, .null])), (q1, .inl (X.2 2, 4, .inr (.inr (.inr (.inr (fun _ => none)))))), (q2, .inl (X.2 3, 120, .inr (.inr (.inr (.inr (fun _ => none))))))] := hD
  refine W.widen (k := 2) (n := 124) (by omega) (by omega) ?_
  refine va_putF (D := X.1) (ci := 5) (v := .ref q2) (ty := .array (.object "MaskEdges$Piece")) (C := "MaskEdges") (T := F_MaskEdges) (N := 14) hx hb ht in_MaskEdges ty_MaskEdges tyk_MaskEdges nm_MaskEdges hown hK hP hD hS 0 rfl rfl 2 (by decide) (ht _ xw_157) (fun _ h9 => h9) rfl hin rfl (by decide +kernel) rfl rfl (Nat.le_of_ble_eq_true rfl) d_MaskEdges_init_18 (fun H locs hP hD hS => ?_)
  replace hP : va_P X.1 vwCl [(h, .inr (5, [.ref q1, .int 0, .ref q2, .int 0, .null, .null, .int 0, .null, .null, .null, .null, .null, .int 0, .null])), (q1, .inl (X.2 2, 4, .inr (.inr (.inr (.inr (fun _ => none)))))), (q2, .inl (X.2 3, 120, .inr (.inr (.inr (.inr (fun _ => none))))))] H := hP
  replace hD : va_D (xNew s.heap h) [(h, .inr (5, [.ref q1, .int 0, .ref q2, .int 0, .null, .null, .int 0, .null, .null, .null, .null, .null, .int 0, .null])), (q1, .inl (X.2 2, 4, .inr (.inr (.inr (.inr (fun _ => none)))))), (q2, .inl (X.2 3, 120, .inr (.inr (.inr (.inr (fun _ => none))))))] := hD
  refine lv_aload_n hx hb d_MaskEdges_init_21 rfl (lv_at hl 0 rfl) ?_
  refine lv_bipush (v := 120) hx hb d_MaskEdges_init_22 (by decide) ?_
  refine va_newa (atype := .int) (ty := .int) (N' := 120) (a0 := (120, .inl (fun _ => 0))) hx hb (ht _ xw_64) rfl hK hP hD hS hA (fun _ => rfl) (by decide) rfl (by decide) (Nat.le_of_ble_eq_true rfl) (Nat.le_of_ble_eq_true rfl) d_MaskEdges_init_24 (fun q3 cA H hK1 hP hD hS => ?_)
  obtain rfl := xc_I hK1
  clear hK1
  replace hP : va_P X.1 vwCl [(h, .inr (5, [.ref q1, .int 0, .ref q2, .int 0, .null, .null, .int 0, .null, .null, .null, .null, .null, .int 0, .null])), (q1, .inl (X.2 2, 4, .inr (.inr (.inr (.inr (fun _ => none)))))), (q2, .inl (X.2 3, 120, .inr (.inr (.inr (.inr (fun _ => none)))))), (q3, .inl (X.2 0, 120, .inl (fun _ => 0)))] H := hP
  replace hD : va_D (xNew s.heap h) [(h, .inr (5, [.ref q1, .int 0, .ref q2, .int 0, .null, .null, .int 0, .null, .null, .null, .null, .null, .int 0, .null])), (q1, .inl (X.2 2, 4, .inr (.inr (.inr (.inr (fun _ => none)))))), (q2, .inl (X.2 3, 120, .inr (.inr (.inr (.inr (fun _ => none)))))), (q3, .inl (X.2 0, 120, .inl (fun _ => 0)))] := hD
  refine W.widen (k := 3) (n := 244) (by omega) (by omega) ?_
  refine va_putF (D := X.1) (ci := 5) (v := .ref q3) (ty := .array .int) (C := "MaskEdges") (T := F_MaskEdges) (N := 14) hx hb ht in_MaskEdges ty_MaskEdges tyk_MaskEdges nm_MaskEdges hown hK hP hD hS 0 rfl rfl 4 (by decide) (ht _ xw_159) (fun _ h9 => h9) rfl hin rfl (by decide +kernel) rfl rfl (Nat.le_of_ble_eq_true rfl) d_MaskEdges_init_26 (fun H locs hP hD hS => ?_)
  replace hP : va_P X.1 vwCl [(h, .inr (5, [.ref q1, .int 0, .ref q2, .int 0, .ref q3, .null, .int 0, .null, .null, .null, .null, .null, .int 0, .null])), (q1, .inl (X.2 2, 4, .inr (.inr (.inr (.inr (fun _ => none)))))), (q2, .inl (X.2 3, 120, .inr (.inr (.inr (.inr (fun _ => none)))))), (q3, .inl (X.2 0, 120, .inl (fun _ => 0)))] H := hP
  replace hD : va_D (xNew s.heap h) [(h, .inr (5, [.ref q1, .int 0, .ref q2, .int 0, .ref q3, .null, .int 0, .null, .null, .null, .null, .null, .int 0, .null])), (q1, .inl (X.2 2, 4, .inr (.inr (.inr (.inr (fun _ => none)))))), (q2, .inl (X.2 3, 120, .inr (.inr (.inr (.inr (fun _ => none)))))), (q3, .inl (X.2 0, 120, .inl (fun _ => 0)))] := hD
  refine lv_aload_n hx hb d_MaskEdges_init_29 rfl (lv_at hl 0 rfl) ?_
  refine lv_bipush (v := 24) hx hb d_MaskEdges_init_30 (by decide) ?_
  refine va_newq (own := "MaskEdges") (C := "MaskEdges$Box") (index := 25) (N' := 24) hx hb hown (ht _ xw_56) hO3 hK hP hD hS hA (by decide) rfl (by decide) (Nat.le_of_ble_eq_true rfl) (Nat.le_of_ble_eq_true rfl) d_MaskEdges_init_32 (fun q4 cA H hK1 hP hD hS => ?_)
  obtain rfl := xc_q (k := 4) hK1 rfl
  clear hK1
  replace hP : va_P X.1 vwCl [(h, .inr (5, [.ref q1, .int 0, .ref q2, .int 0, .ref q3, .null, .int 0, .null, .null, .null, .null, .null, .int 0, .null])), (q1, .inl (X.2 2, 4, .inr (.inr (.inr (.inr (fun _ => none)))))), (q2, .inl (X.2 3, 120, .inr (.inr (.inr (.inr (fun _ => none)))))), (q3, .inl (X.2 0, 120, .inl (fun _ => 0))), (q4, .inl (X.2 4, 24, .inr (.inr (.inr (.inr (fun _ => none))))))] H := hP
  replace hD : va_D (xNew s.heap h) [(h, .inr (5, [.ref q1, .int 0, .ref q2, .int 0, .ref q3, .null, .int 0, .null, .null, .null, .null, .null, .int 0, .null])), (q1, .inl (X.2 2, 4, .inr (.inr (.inr (.inr (fun _ => none)))))), (q2, .inl (X.2 3, 120, .inr (.inr (.inr (.inr (fun _ => none)))))), (q3, .inl (X.2 0, 120, .inl (fun _ => 0))), (q4, .inl (X.2 4, 24, .inr (.inr (.inr (.inr (fun _ => none))))))] := hD
  refine W.widen (k := 4) (n := 268) (by omega) (by omega) ?_
  refine va_putF (D := X.1) (ci := 5) (v := .ref q4) (ty := .array (.object "MaskEdges$Box")) (C := "MaskEdges") (T := F_MaskEdges) (N := 14) hx hb ht in_MaskEdges ty_MaskEdges tyk_MaskEdges nm_MaskEdges hown hK hP hD hS 0 rfl rfl 5 (by decide) (ht _ xw_160) (fun _ h9 => h9) rfl hin rfl (by decide +kernel) rfl rfl (Nat.le_of_ble_eq_true rfl) d_MaskEdges_init_35 (fun H locs hP hD hS => ?_)
  replace hP : va_P X.1 vwCl [(h, .inr (5, [.ref q1, .int 0, .ref q2, .int 0, .ref q3, .ref q4, .int 0, .null, .null, .null, .null, .null, .int 0, .null])), (q1, .inl (X.2 2, 4, .inr (.inr (.inr (.inr (fun _ => none)))))), (q2, .inl (X.2 3, 120, .inr (.inr (.inr (.inr (fun _ => none)))))), (q3, .inl (X.2 0, 120, .inl (fun _ => 0))), (q4, .inl (X.2 4, 24, .inr (.inr (.inr (.inr (fun _ => none))))))] H := hP
  replace hD : va_D (xNew s.heap h) [(h, .inr (5, [.ref q1, .int 0, .ref q2, .int 0, .ref q3, .ref q4, .int 0, .null, .null, .null, .null, .null, .int 0, .null])), (q1, .inl (X.2 2, 4, .inr (.inr (.inr (.inr (fun _ => none)))))), (q2, .inl (X.2 3, 120, .inr (.inr (.inr (.inr (fun _ => none)))))), (q3, .inl (X.2 0, 120, .inl (fun _ => 0))), (q4, .inl (X.2 4, 24, .inr (.inr (.inr (.inr (fun _ => none))))))] := hD
  refine lv_aload_n hx hb d_MaskEdges_init_38 rfl (lv_at hl 0 rfl) ?_
  refine va_new (ci := 1) (fs := [.null]) (C := "MaskEdges$CellSet") (T := F_CellSet) (N := 1) hx hb ht in_CellSet ty_CellSet tyk_CellSet hown (ht _ xw_57) (ht _ xw_58) (ht _ xw_38) hK hP hD hS hA rfl (fun j hj => by rcases (show j = 0 by omega) with rfl <;> rfl) (Nat.le_of_ble_eq_true rfl) (Nat.le_of_ble_eq_true rfl) d_MaskEdges_init_39 (fun q5 H hP hD hS => ?_)
  replace hP : va_P X.1 vwCl [(h, .inr (5, [.ref q1, .int 0, .ref q2, .int 0, .ref q3, .ref q4, .int 0, .null, .null, .null, .null, .null, .int 0, .null])), (q1, .inl (X.2 2, 4, .inr (.inr (.inr (.inr (fun _ => none)))))), (q2, .inl (X.2 3, 120, .inr (.inr (.inr (.inr (fun _ => none)))))), (q3, .inl (X.2 0, 120, .inl (fun _ => 0))), (q4, .inl (X.2 4, 24, .inr (.inr (.inr (.inr (fun _ => none)))))), (q5, .inr (1, [.null]))] H := hP
  replace hD : va_D (xNew s.heap h) [(h, .inr (5, [.ref q1, .int 0, .ref q2, .int 0, .ref q3, .ref q4, .int 0, .null, .null, .null, .null, .null, .int 0, .null])), (q1, .inl (X.2 2, 4, .inr (.inr (.inr (.inr (fun _ => none)))))), (q2, .inl (X.2 3, 120, .inr (.inr (.inr (.inr (fun _ => none)))))), (q3, .inl (X.2 0, 120, .inl (fun _ => 0))), (q4, .inl (X.2 4, 24, .inr (.inr (.inr (.inr (fun _ => none)))))), (q5, .inr (1, [.null]))] := hD
  refine W.widen (k := 5) (n := 269) (by omega) (by omega) ?_
  refine lv_dup hx hb d_MaskEdges_init_42 rfl ?_
  have hPc : va_P X.1 vwCl [(q5, .inr (1, [.null]))] H := hP.sub [5] rfl
  refine xcI (va_runIN (As := []) (rest := [.ref q5, .ref h]) ⟨hx, hb, hml, hown, ht⟩ (c_CellSet_init l X q5 hPc) ⟨va_cnB 0 ht (xgC xw_60) rfl rfl rfl (hKK.2 _ xn_0) (ht _ xw_38) (by decide +kernel) ⟨Nat.le_of_ble_eq_true rfl, Nat.le_of_ble_eq_true rfl⟩, rfl, ht _ xw_59⟩ (xPS hKK) rfl rfl hl.1 rfl (lv_room (Nat.le_of_ble_eq_true rfl)) d_MaskEdges_init_43 ⟨Nat.le_of_ble_eq_true rfl, Nat.le_of_ble_eq_true rfl⟩) (fun H1 L hq hz => ?_)
  have hAq : ∀ x, xNew H q5 x → xNew s.heap h x := fun x z => z.elim (fun z => by rw [z]; exact hD.2 5 _ rfl) (fun z => Or.inr (Nat.le_trans hS.1 z))
  replace hS := xS_call hS hz hAq
  obtain ⟨q6, g0, hq⟩ := hq
  obtain ⟨hP2, hD2⟩ := xgrow (ws := [(h, .inr (5, [.ref q1, .int 0, .ref q2, .int 0, .ref q3, .ref q4, .int 0, .null, .null, .null, .null, .null, .int 0, .null])), (q1, .inl (X.2 2, 4, .inr (.inr (.inr (.inr (fun _ => none)))))), (q2, .inl (X.2 3, 120, .inr (.inr (.inr (.inr (fun _ => none)))))), (q3, .inl (X.2 0, 120, .inl (fun _ => 0))), (q4, .inl (X.2 4, 24, .inr (.inr (.inr (.inr (fun _ => none))))))]) (q := q5) (e := .inr (1, [.null])) hP hD hz hq (xw1 g0) xn1 (fun x z => hAq x (Or.inr z))
  clear hq hz hP hD
  generalize H1 = H at hP2 hS
  have hP : va_P X.1 vwCl [(h, .inr (5, [.ref q1, .int 0, .ref q2, .int 0, .ref q3, .ref q4, .int 0, .null, .null, .null, .null, .null, .int 0, .null])), (q1, .inl (X.2 2, 4, .inr (.inr (.inr (.inr (fun _ => none)))))), (q2, .inl (X.2 3, 120, .inr (.inr (.inr (.inr (fun _ => none)))))), (q3, .inl (X.2 0, 120, .inl (fun _ => 0))), (q4, .inl (X.2 4, 24, .inr (.inr (.inr (.inr (fun _ => none)))))), (q5, .inr (1, [.ref q6])), (q6, .inl (X.2 1, 48, .inr (.inl (fun _ => 0))))] H := hP2
  have hD : va_D (xNew s.heap h) [(h, .inr (5, [.ref q1, .int 0, .ref q2, .int 0, .ref q3, .ref q4, .int 0, .null, .null, .null, .null, .null, .int 0, .null])), (q1, .inl (X.2 2, 4, .inr (.inr (.inr (.inr (fun _ => none)))))), (q2, .inl (X.2 3, 120, .inr (.inr (.inr (.inr (fun _ => none)))))), (q3, .inl (X.2 0, 120, .inl (fun _ => 0))), (q4, .inl (X.2 4, 24, .inr (.inr (.inr (.inr (fun _ => none)))))), (q5, .inr (1, [.ref q6])), (q6, .inl (X.2 1, 48, .inr (.inl (fun _ => 0))))] := hD2
  clear hP2 hD2
  refine W.widen (k := 6) (n := 317) (by omega) (by omega) ?_
  refine W.eq (g2 := F0 m 46 ls [.ref q5, .ref h]) rfl ?_
  refine va_putF (D := X.1) (ci := 5) (v := .ref q5) (ty := .object "MaskEdges$CellSet") (C := "MaskEdges") (T := F_MaskEdges) (N := 14) hx hb ht in_MaskEdges ty_MaskEdges tyk_MaskEdges nm_MaskEdges hown hK hP hD hS 0 rfl rfl 7 (by decide) (ht _ xw_162) (fun _ h9 => h9) rfl hin rfl (by decide +kernel) rfl rfl (Nat.le_of_ble_eq_true rfl) d_MaskEdges_init_46 (fun H locs hP hD hS => ?_)
  replace hP : va_P X.1 vwCl [(h, .inr (5, [.ref q1, .int 0, .ref q2, .int 0, .ref q3, .ref q4, .int 0, .ref q5, .null, .null, .null, .null, .int 0, .null])), (q1, .inl (X.2 2, 4, .inr (.inr (.inr (.inr (fun _ => none)))))), (q2, .inl (X.2 3, 120, .inr (.inr (.inr (.inr (fun _ => none)))))), (q3, .inl (X.2 0, 120, .inl (fun _ => 0))), (q4, .inl (X.2 4, 24, .inr (.inr (.inr (.inr (fun _ => none)))))), (q5, .inr (1, [.ref q6])), (q6, .inl (X.2 1, 48, .inr (.inl (fun _ => 0))))] H := hP
  replace hD : va_D (xNew s.heap h) [(h, .inr (5, [.ref q1, .int 0, .ref q2, .int 0, .ref q3, .ref q4, .int 0, .ref q5, .null, .null, .null, .null, .int 0, .null])), (q1, .inl (X.2 2, 4, .inr (.inr (.inr (.inr (fun _ => none)))))), (q2, .inl (X.2 3, 120, .inr (.inr (.inr (.inr (fun _ => none)))))), (q3, .inl (X.2 0, 120, .inl (fun _ => 0))), (q4, .inl (X.2 4, 24, .inr (.inr (.inr (.inr (fun _ => none)))))), (q5, .inr (1, [.ref q6])), (q6, .inl (X.2 1, 48, .inr (.inl (fun _ => 0))))] := hD
  refine lv_aload_n hx hb d_MaskEdges_init_49 rfl (lv_at hl 0 rfl) ?_
  refine va_new (ci := 1) (fs := [.null]) (C := "MaskEdges$CellSet") (T := F_CellSet) (N := 1) hx hb ht in_CellSet ty_CellSet tyk_CellSet hown (ht _ xw_57) (ht _ xw_58) (ht _ xw_38) hK hP hD hS hA rfl (fun j hj => by rcases (show j = 0 by omega) with rfl <;> rfl) (Nat.le_of_ble_eq_true rfl) (Nat.le_of_ble_eq_true rfl) d_MaskEdges_init_50 (fun q7 H hP hD hS => ?_)
  replace hP : va_P X.1 vwCl [(h, .inr (5, [.ref q1, .int 0, .ref q2, .int 0, .ref q3, .ref q4, .int 0, .ref q5, .null, .null, .null, .null, .int 0, .null])), (q1, .inl (X.2 2, 4, .inr (.inr (.inr (.inr (fun _ => none)))))), (q2, .inl (X.2 3, 120, .inr (.inr (.inr (.inr (fun _ => none)))))), (q3, .inl (X.2 0, 120, .inl (fun _ => 0))), (q4, .inl (X.2 4, 24, .inr (.inr (.inr (.inr (fun _ => none)))))), (q5, .inr (1, [.ref q6])), (q6, .inl (X.2 1, 48, .inr (.inl (fun _ => 0)))), (q7, .inr (1, [.null]))] H := hP
  replace hD : va_D (xNew s.heap h) [(h, .inr (5, [.ref q1, .int 0, .ref q2, .int 0, .ref q3, .ref q4, .int 0, .ref q5, .null, .null, .null, .null, .int 0, .null])), (q1, .inl (X.2 2, 4, .inr (.inr (.inr (.inr (fun _ => none)))))), (q2, .inl (X.2 3, 120, .inr (.inr (.inr (.inr (fun _ => none)))))), (q3, .inl (X.2 0, 120, .inl (fun _ => 0))), (q4, .inl (X.2 4, 24, .inr (.inr (.inr (.inr (fun _ => none)))))), (q5, .inr (1, [.ref q6])), (q6, .inl (X.2 1, 48, .inr (.inl (fun _ => 0)))), (q7, .inr (1, [.null]))] := hD
  refine W.widen (k := 7) (n := 318) (by omega) (by omega) ?_
  refine lv_dup hx hb d_MaskEdges_init_53 rfl ?_
  have hPc : va_P X.1 vwCl [(q7, .inr (1, [.null]))] H := hP.sub [7] rfl
  refine xcI (va_runIN (As := []) (rest := [.ref q7, .ref h]) ⟨hx, hb, hml, hown, ht⟩ (c_CellSet_init l X q7 hPc) ⟨va_cnB 0 ht (xgC xw_60) rfl rfl rfl (hKK.2 _ xn_0) (ht _ xw_38) (by decide +kernel) ⟨Nat.le_of_ble_eq_true rfl, Nat.le_of_ble_eq_true rfl⟩, rfl, ht _ xw_59⟩ (xPS hKK) rfl rfl hl.1 rfl (lv_room (Nat.le_of_ble_eq_true rfl)) d_MaskEdges_init_54 ⟨Nat.le_of_ble_eq_true rfl, Nat.le_of_ble_eq_true rfl⟩) (fun H1 L hq hz => ?_)
  have hAq : ∀ x, xNew H q7 x → xNew s.heap h x := fun x z => z.elim (fun z => by rw [z]; exact hD.2 7 _ rfl) (fun z => Or.inr (Nat.le_trans hS.1 z))
  replace hS := xS_call hS hz hAq
  obtain ⟨q8, g0, hq⟩ := hq
  obtain ⟨hP2, hD2⟩ := xgrow (ws := [(h, .inr (5, [.ref q1, .int 0, .ref q2, .int 0, .ref q3, .ref q4, .int 0, .ref q5, .null, .null, .null, .null, .int 0, .null])), (q1, .inl (X.2 2, 4, .inr (.inr (.inr (.inr (fun _ => none)))))), (q2, .inl (X.2 3, 120, .inr (.inr (.inr (.inr (fun _ => none)))))), (q3, .inl (X.2 0, 120, .inl (fun _ => 0))), (q4, .inl (X.2 4, 24, .inr (.inr (.inr (.inr (fun _ => none)))))), (q5, .inr (1, [.ref q6])), (q6, .inl (X.2 1, 48, .inr (.inl (fun _ => 0))))]) (q := q7) (e := .inr (1, [.null])) hP hD hz hq (xw1 g0) xn1 (fun x z => hAq x (Or.inr z))
  clear hq hz hP hD
  generalize H1 = H at hP2 hS
  have hP : va_P X.1 vwCl [(h, .inr (5, [.ref q1, .int 0, .ref q2, .int 0, .ref q3, .ref q4, .int 0, .ref q5, .null, .null, .null, .null, .int 0, .null])), (q1, .inl (X.2 2, 4, .inr (.inr (.inr (.inr (fun _ => none)))))), (q2, .inl (X.2 3, 120, .inr (.inr (.inr (.inr (fun _ => none)))))), (q3, .inl (X.2 0, 120, .inl (fun _ => 0))), (q4, .inl (X.2 4, 24, .inr (.inr (.inr (.inr (fun _ => none)))))), (q5, .inr (1, [.ref q6])), (q6, .inl (X.2 1, 48, .inr (.inl (fun _ => 0)))), (q7, .inr (1, [.ref q8])), (q8, .inl (X.2 1, 48, .inr (.inl (fun _ => 0))))] H := hP2
  have hD : va_D (xNew s.heap h) [(h, .inr (5, [.ref q1, .int 0, .ref q2, .int 0, .ref q3, .ref q4, .int 0, .ref q5, .null, .null, .null, .null, .int 0, .null])), (q1, .inl (X.2 2, 4, .inr (.inr (.inr (.inr (fun _ => none)))))), (q2, .inl (X.2 3, 120, .inr (.inr (.inr (.inr (fun _ => none)))))), (q3, .inl (X.2 0, 120, .inl (fun _ => 0))), (q4, .inl (X.2 4, 24, .inr (.inr (.inr (.inr (fun _ => none)))))), (q5, .inr (1, [.ref q6])), (q6, .inl (X.2 1, 48, .inr (.inl (fun _ => 0)))), (q7, .inr (1, [.ref q8])), (q8, .inl (X.2 1, 48, .inr (.inl (fun _ => 0))))] := hD2
  clear hP2 hD2
  refine W.widen (k := 8) (n := 366) (by omega) (by omega) ?_
  refine W.eq (g2 := F0 m 57 ls [.ref q7, .ref h]) rfl ?_
  refine va_putF (D := X.1) (ci := 5) (v := .ref q7) (ty := .object "MaskEdges$CellSet") (C := "MaskEdges") (T := F_MaskEdges) (N := 14) hx hb ht in_MaskEdges ty_MaskEdges tyk_MaskEdges nm_MaskEdges hown hK hP hD hS 0 rfl rfl 8 (by decide) (ht _ xw_163) (fun _ h9 => h9) rfl hin rfl (by decide +kernel) rfl rfl (Nat.le_of_ble_eq_true rfl) d_MaskEdges_init_57 (fun H locs hP hD hS => ?_)
  replace hP : va_P X.1 vwCl [(h, .inr (5, [.ref q1, .int 0, .ref q2, .int 0, .ref q3, .ref q4, .int 0, .ref q5, .ref q7, .null, .null, .null, .int 0, .null])), (q1, .inl (X.2 2, 4, .inr (.inr (.inr (.inr (fun _ => none)))))), (q2, .inl (X.2 3, 120, .inr (.inr (.inr (.inr (fun _ => none)))))), (q3, .inl (X.2 0, 120, .inl (fun _ => 0))), (q4, .inl (X.2 4, 24, .inr (.inr (.inr (.inr (fun _ => none)))))), (q5, .inr (1, [.ref q6])), (q6, .inl (X.2 1, 48, .inr (.inl (fun _ => 0)))), (q7, .inr (1, [.ref q8])), (q8, .inl (X.2 1, 48, .inr (.inl (fun _ => 0))))] H := hP
  replace hD : va_D (xNew s.heap h) [(h, .inr (5, [.ref q1, .int 0, .ref q2, .int 0, .ref q3, .ref q4, .int 0, .ref q5, .ref q7, .null, .null, .null, .int 0, .null])), (q1, .inl (X.2 2, 4, .inr (.inr (.inr (.inr (fun _ => none)))))), (q2, .inl (X.2 3, 120, .inr (.inr (.inr (.inr (fun _ => none)))))), (q3, .inl (X.2 0, 120, .inl (fun _ => 0))), (q4, .inl (X.2 4, 24, .inr (.inr (.inr (.inr (fun _ => none)))))), (q5, .inr (1, [.ref q6])), (q6, .inl (X.2 1, 48, .inr (.inl (fun _ => 0)))), (q7, .inr (1, [.ref q8])), (q8, .inl (X.2 1, 48, .inr (.inl (fun _ => 0))))] := hD
  refine lv_aload_n hx hb d_MaskEdges_init_60 rfl (lv_at hl 0 rfl) ?_
  refine va_new (ci := 1) (fs := [.null]) (C := "MaskEdges$CellSet") (T := F_CellSet) (N := 1) hx hb ht in_CellSet ty_CellSet tyk_CellSet hown (ht _ xw_57) (ht _ xw_58) (ht _ xw_38) hK hP hD hS hA rfl (fun j hj => by rcases (show j = 0 by omega) with rfl <;> rfl) (Nat.le_of_ble_eq_true rfl) (Nat.le_of_ble_eq_true rfl) d_MaskEdges_init_61 (fun q9 H hP hD hS => ?_)
  replace hP : va_P X.1 vwCl [(h, .inr (5, [.ref q1, .int 0, .ref q2, .int 0, .ref q3, .ref q4, .int 0, .ref q5, .ref q7, .null, .null, .null, .int 0, .null])), (q1, .inl (X.2 2, 4, .inr (.inr (.inr (.inr (fun _ => none)))))), (q2, .inl (X.2 3, 120, .inr (.inr (.inr (.inr (fun _ => none)))))), (q3, .inl (X.2 0, 120, .inl (fun _ => 0))), (q4, .inl (X.2 4, 24, .inr (.inr (.inr (.inr (fun _ => none)))))), (q5, .inr (1, [.ref q6])), (q6, .inl (X.2 1, 48, .inr (.inl (fun _ => 0)))), (q7, .inr (1, [.ref q8])), (q8, .inl (X.2 1, 48, .inr (.inl (fun _ => 0)))), (q9, .inr (1, [.null]))] H := hP
  replace hD : va_D (xNew s.heap h) [(h, .inr (5, [.ref q1, .int 0, .ref q2, .int 0, .ref q3, .ref q4, .int 0, .ref q5, .ref q7, .null, .null, .null, .int 0, .null])), (q1, .inl (X.2 2, 4, .inr (.inr (.inr (.inr (fun _ => none)))))), (q2, .inl (X.2 3, 120, .inr (.inr (.inr (.inr (fun _ => none)))))), (q3, .inl (X.2 0, 120, .inl (fun _ => 0))), (q4, .inl (X.2 4, 24, .inr (.inr (.inr (.inr (fun _ => none)))))), (q5, .inr (1, [.ref q6])), (q6, .inl (X.2 1, 48, .inr (.inl (fun _ => 0)))), (q7, .inr (1, [.ref q8])), (q8, .inl (X.2 1, 48, .inr (.inl (fun _ => 0)))), (q9, .inr (1, [.null]))] := hD
  refine W.widen (k := 9) (n := 367) (by omega) (by omega) ?_
  refine lv_dup hx hb d_MaskEdges_init_64 rfl ?_
  have hPc : va_P X.1 vwCl [(q9, .inr (1, [.null]))] H := hP.sub [9] rfl
  refine xcI (va_runIN (As := []) (rest := [.ref q9, .ref h]) ⟨hx, hb, hml, hown, ht⟩ (c_CellSet_init l X q9 hPc) ⟨va_cnB 0 ht (xgC xw_60) rfl rfl rfl (hKK.2 _ xn_0) (ht _ xw_38) (by decide +kernel) ⟨Nat.le_of_ble_eq_true rfl, Nat.le_of_ble_eq_true rfl⟩, rfl, ht _ xw_59⟩ (xPS hKK) rfl rfl hl.1 rfl (lv_room (Nat.le_of_ble_eq_true rfl)) d_MaskEdges_init_65 ⟨Nat.le_of_ble_eq_true rfl, Nat.le_of_ble_eq_true rfl⟩) (fun H1 L hq hz => ?_)
  have hAq : ∀ x, xNew H q9 x → xNew s.heap h x := fun x z => z.elim (fun z => by rw [z]; exact hD.2 9 _ rfl) (fun z => Or.inr (Nat.le_trans hS.1 z))
  replace hS := xS_call hS hz hAq
  obtain ⟨q10, g0, hq⟩ := hq
  obtain ⟨hP2, hD2⟩ := xgrow (ws := [(h, .inr (5, [.ref q1, .int 0, .ref q2, .int 0, .ref q3, .ref q4, .int 0, .ref q5, .ref q7, .null, .null, .null, .int 0, .null])), (q1, .inl (X.2 2, 4, .inr (.inr (.inr (.inr (fun _ => none)))))), (q2, .inl (X.2 3, 120, .inr (.inr (.inr (.inr (fun _ => none)))))), (q3, .inl (X.2 0, 120, .inl (fun _ => 0))), (q4, .inl (X.2 4, 24, .inr (.inr (.inr (.inr (fun _ => none)))))), (q5, .inr (1, [.ref q6])), (q6, .inl (X.2 1, 48, .inr (.inl (fun _ => 0)))), (q7, .inr (1, [.ref q8])), (q8, .inl (X.2 1, 48, .inr (.inl (fun _ => 0))))]) (q := q9) (e := .inr (1, [.null])) hP hD hz hq (xw1 g0) xn1 (fun x z => hAq x (Or.inr z))
  clear hq hz hP hD
  generalize H1 = H at hP2 hS
  have hP : va_P X.1 vwCl [(h, .inr (5, [.ref q1, .int 0, .ref q2, .int 0, .ref q3, .ref q4, .int 0, .ref q5, .ref q7, .null, .null, .null, .int 0, .null])), (q1, .inl (X.2 2, 4, .inr (.inr (.inr (.inr (fun _ => none)))))), (q2, .inl (X.2 3, 120, .inr (.inr (.inr (.inr (fun _ => none)))))), (q3, .inl (X.2 0, 120, .inl (fun _ => 0))), (q4, .inl (X.2 4, 24, .inr (.inr (.inr (.inr (fun _ => none)))))), (q5, .inr (1, [.ref q6])), (q6, .inl (X.2 1, 48, .inr (.inl (fun _ => 0)))), (q7, .inr (1, [.ref q8])), (q8, .inl (X.2 1, 48, .inr (.inl (fun _ => 0)))), (q9, .inr (1, [.ref q10])), (q10, .inl (X.2 1, 48, .inr (.inl (fun _ => 0))))] H := hP2
  have hD : va_D (xNew s.heap h) [(h, .inr (5, [.ref q1, .int 0, .ref q2, .int 0, .ref q3, .ref q4, .int 0, .ref q5, .ref q7, .null, .null, .null, .int 0, .null])), (q1, .inl (X.2 2, 4, .inr (.inr (.inr (.inr (fun _ => none)))))), (q2, .inl (X.2 3, 120, .inr (.inr (.inr (.inr (fun _ => none)))))), (q3, .inl (X.2 0, 120, .inl (fun _ => 0))), (q4, .inl (X.2 4, 24, .inr (.inr (.inr (.inr (fun _ => none)))))), (q5, .inr (1, [.ref q6])), (q6, .inl (X.2 1, 48, .inr (.inl (fun _ => 0)))), (q7, .inr (1, [.ref q8])), (q8, .inl (X.2 1, 48, .inr (.inl (fun _ => 0)))), (q9, .inr (1, [.ref q10])), (q10, .inl (X.2 1, 48, .inr (.inl (fun _ => 0))))] := hD2
  clear hP2 hD2
  refine W.widen (k := 10) (n := 415) (by omega) (by omega) ?_
  refine W.eq (g2 := F0 m 68 ls [.ref q9, .ref h]) rfl ?_
  refine va_putF (D := X.1) (ci := 5) (v := .ref q9) (ty := .object "MaskEdges$CellSet") (C := "MaskEdges") (T := F_MaskEdges) (N := 14) hx hb ht in_MaskEdges ty_MaskEdges tyk_MaskEdges nm_MaskEdges hown hK hP hD hS 0 rfl rfl 9 (by decide) (ht _ xw_164) (fun _ h9 => h9) rfl hin rfl (by decide +kernel) rfl rfl (Nat.le_of_ble_eq_true rfl) d_MaskEdges_init_68 (fun H locs hP hD hS => ?_)
  replace hP : va_P X.1 vwCl [(h, .inr (5, [.ref q1, .int 0, .ref q2, .int 0, .ref q3, .ref q4, .int 0, .ref q5, .ref q7, .ref q9, .null, .null, .int 0, .null])), (q1, .inl (X.2 2, 4, .inr (.inr (.inr (.inr (fun _ => none)))))), (q2, .inl (X.2 3, 120, .inr (.inr (.inr (.inr (fun _ => none)))))), (q3, .inl (X.2 0, 120, .inl (fun _ => 0))), (q4, .inl (X.2 4, 24, .inr (.inr (.inr (.inr (fun _ => none)))))), (q5, .inr (1, [.ref q6])), (q6, .inl (X.2 1, 48, .inr (.inl (fun _ => 0)))), (q7, .inr (1, [.ref q8])), (q8, .inl (X.2 1, 48, .inr (.inl (fun _ => 0)))), (q9, .inr (1, [.ref q10])), (q10, .inl (X.2 1, 48, .inr (.inl (fun _ => 0))))] H := hP
  replace hD : va_D (xNew s.heap h) [(h, .inr (5, [.ref q1, .int 0, .ref q2, .int 0, .ref q3, .ref q4, .int 0, .ref q5, .ref q7, .ref q9, .null, .null, .int 0, .null])), (q1, .inl (X.2 2, 4, .inr (.inr (.inr (.inr (fun _ => none)))))), (q2, .inl (X.2 3, 120, .inr (.inr (.inr (.inr (fun _ => none)))))), (q3, .inl (X.2 0, 120, .inl (fun _ => 0))), (q4, .inl (X.2 4, 24, .inr (.inr (.inr (.inr (fun _ => none)))))), (q5, .inr (1, [.ref q6])), (q6, .inl (X.2 1, 48, .inr (.inl (fun _ => 0)))), (q7, .inr (1, [.ref q8])), (q8, .inl (X.2 1, 48, .inr (.inl (fun _ => 0)))), (q9, .inr (1, [.ref q10])), (q10, .inl (X.2 1, 48, .inr (.inl (fun _ => 0))))] := hD
  refine lv_aload_n hx hb d_MaskEdges_init_71 rfl (lv_at hl 0 rfl) ?_
  refine va_new (ci := 2) (fs := [.null, .null, .int 0, .int 0]) (C := "MaskEdges$Exposure") (T := F_Exposure) (N := 4) hx hb ht in_Exposure ty_Exposure tyk_Exposure hown (ht _ xw_66) (ht _ xw_67) (ht _ xw_39) hK hP hD hS hA rfl (fun j hj => by rcases (show j = 0 ∨ j = 1 ∨ j = 2 ∨ j = 3 by omega) with rfl | rfl | rfl | rfl <;> rfl) (Nat.le_of_ble_eq_true rfl) (Nat.le_of_ble_eq_true rfl) d_MaskEdges_init_72 (fun q11 H hP hD hS => ?_)
  replace hP : va_P X.1 vwCl [(h, .inr (5, [.ref q1, .int 0, .ref q2, .int 0, .ref q3, .ref q4, .int 0, .ref q5, .ref q7, .ref q9, .null, .null, .int 0, .null])), (q1, .inl (X.2 2, 4, .inr (.inr (.inr (.inr (fun _ => none)))))), (q2, .inl (X.2 3, 120, .inr (.inr (.inr (.inr (fun _ => none)))))), (q3, .inl (X.2 0, 120, .inl (fun _ => 0))), (q4, .inl (X.2 4, 24, .inr (.inr (.inr (.inr (fun _ => none)))))), (q5, .inr (1, [.ref q6])), (q6, .inl (X.2 1, 48, .inr (.inl (fun _ => 0)))), (q7, .inr (1, [.ref q8])), (q8, .inl (X.2 1, 48, .inr (.inl (fun _ => 0)))), (q9, .inr (1, [.ref q10])), (q10, .inl (X.2 1, 48, .inr (.inl (fun _ => 0)))), (q11, .inr (2, [.null, .null, .int 0, .int 0]))] H := hP
  replace hD : va_D (xNew s.heap h) [(h, .inr (5, [.ref q1, .int 0, .ref q2, .int 0, .ref q3, .ref q4, .int 0, .ref q5, .ref q7, .ref q9, .null, .null, .int 0, .null])), (q1, .inl (X.2 2, 4, .inr (.inr (.inr (.inr (fun _ => none)))))), (q2, .inl (X.2 3, 120, .inr (.inr (.inr (.inr (fun _ => none)))))), (q3, .inl (X.2 0, 120, .inl (fun _ => 0))), (q4, .inl (X.2 4, 24, .inr (.inr (.inr (.inr (fun _ => none)))))), (q5, .inr (1, [.ref q6])), (q6, .inl (X.2 1, 48, .inr (.inl (fun _ => 0)))), (q7, .inr (1, [.ref q8])), (q8, .inl (X.2 1, 48, .inr (.inl (fun _ => 0)))), (q9, .inr (1, [.ref q10])), (q10, .inl (X.2 1, 48, .inr (.inl (fun _ => 0)))), (q11, .inr (2, [.null, .null, .int 0, .int 0]))] := hD
  refine W.widen (k := 11) (n := 419) (by omega) (by omega) ?_
  refine lv_dup hx hb d_MaskEdges_init_75 rfl ?_
  have hPc : va_P X.1 vwCl [(q11, .inr (2, [.null, .null, .int 0, .int 0]))] H := hP.sub [11] rfl
  refine xcI (va_runIN (As := []) (rest := [.ref q11, .ref h]) ⟨hx, hb, hml, hown, ht⟩ (c_Exposure_init l X q11 hPc) ⟨va_cnB 0 ht (xgC xw_69) rfl rfl rfl (hKK.2 _ xn_1) (ht _ xw_39) (by decide +kernel) ⟨Nat.le_of_ble_eq_true rfl, Nat.le_of_ble_eq_true rfl⟩, rfl, ht _ xw_68⟩ (xPS hKK) rfl rfl hl.1 rfl (lv_room (Nat.le_of_ble_eq_true rfl)) d_MaskEdges_init_76 ⟨Nat.le_of_ble_eq_true rfl, Nat.le_of_ble_eq_true rfl⟩) (fun H1 L hq hz => ?_)
  have hAq : ∀ x, xNew H q11 x → xNew s.heap h x := fun x z => z.elim (fun z => by rw [z]; exact hD.2 11 _ rfl) (fun z => Or.inr (Nat.le_trans hS.1 z))
  replace hS := xS_call hS hz hAq
  obtain ⟨q12, q13, gne, g0, g1, hq⟩ := hq
  obtain ⟨hP2, hD2⟩ := xgrow (ws := [(h, .inr (5, [.ref q1, .int 0, .ref q2, .int 0, .ref q3, .ref q4, .int 0, .ref q5, .ref q7, .ref q9, .null, .null, .int 0, .null])), (q1, .inl (X.2 2, 4, .inr (.inr (.inr (.inr (fun _ => none)))))), (q2, .inl (X.2 3, 120, .inr (.inr (.inr (.inr (fun _ => none)))))), (q3, .inl (X.2 0, 120, .inl (fun _ => 0))), (q4, .inl (X.2 4, 24, .inr (.inr (.inr (.inr (fun _ => none)))))), (q5, .inr (1, [.ref q6])), (q6, .inl (X.2 1, 48, .inr (.inl (fun _ => 0)))), (q7, .inr (1, [.ref q8])), (q8, .inl (X.2 1, 48, .inr (.inl (fun _ => 0)))), (q9, .inr (1, [.ref q10])), (q10, .inl (X.2 1, 48, .inr (.inl (fun _ => 0))))]) (q := q11) (e := .inr (2, [.null, .null, .int 0, .int 0])) hP hD hz hq (xw2 g0 g1) (xn2 gne) (fun x z => hAq x (Or.inr z))
  clear hq hz hP hD
  generalize H1 = H at hP2 hS
  have hP : va_P X.1 vwCl [(h, .inr (5, [.ref q1, .int 0, .ref q2, .int 0, .ref q3, .ref q4, .int 0, .ref q5, .ref q7, .ref q9, .null, .null, .int 0, .null])), (q1, .inl (X.2 2, 4, .inr (.inr (.inr (.inr (fun _ => none)))))), (q2, .inl (X.2 3, 120, .inr (.inr (.inr (.inr (fun _ => none)))))), (q3, .inl (X.2 0, 120, .inl (fun _ => 0))), (q4, .inl (X.2 4, 24, .inr (.inr (.inr (.inr (fun _ => none)))))), (q5, .inr (1, [.ref q6])), (q6, .inl (X.2 1, 48, .inr (.inl (fun _ => 0)))), (q7, .inr (1, [.ref q8])), (q8, .inl (X.2 1, 48, .inr (.inl (fun _ => 0)))), (q9, .inr (1, [.ref q10])), (q10, .inl (X.2 1, 48, .inr (.inl (fun _ => 0)))), (q11, .inr (2, [.ref q12, .ref q13, .int 0, .int 1])), (q12, .inl (X.2 0, 6, .inl (fun _ => 0))), (q13, .inl (X.2 0, 6, .inl (fun _ => 0)))] H := hP2
  have hD : va_D (xNew s.heap h) [(h, .inr (5, [.ref q1, .int 0, .ref q2, .int 0, .ref q3, .ref q4, .int 0, .ref q5, .ref q7, .ref q9, .null, .null, .int 0, .null])), (q1, .inl (X.2 2, 4, .inr (.inr (.inr (.inr (fun _ => none)))))), (q2, .inl (X.2 3, 120, .inr (.inr (.inr (.inr (fun _ => none)))))), (q3, .inl (X.2 0, 120, .inl (fun _ => 0))), (q4, .inl (X.2 4, 24, .inr (.inr (.inr (.inr (fun _ => none)))))), (q5, .inr (1, [.ref q6])), (q6, .inl (X.2 1, 48, .inr (.inl (fun _ => 0)))), (q7, .inr (1, [.ref q8])), (q8, .inl (X.2 1, 48, .inr (.inl (fun _ => 0)))), (q9, .inr (1, [.ref q10])), (q10, .inl (X.2 1, 48, .inr (.inl (fun _ => 0)))), (q11, .inr (2, [.ref q12, .ref q13, .int 0, .int 1])), (q12, .inl (X.2 0, 6, .inl (fun _ => 0))), (q13, .inl (X.2 0, 6, .inl (fun _ => 0)))] := hD2
  clear hP2 hD2
  refine W.widen (k := 13) (n := 431) (by omega) (by omega) ?_
  refine W.eq (g2 := F0 m 79 ls [.ref q11, .ref h]) rfl ?_
  refine va_putF (D := X.1) (ci := 5) (v := .ref q11) (ty := .object "MaskEdges$Exposure") (C := "MaskEdges") (T := F_MaskEdges) (N := 14) hx hb ht in_MaskEdges ty_MaskEdges tyk_MaskEdges nm_MaskEdges hown hK hP hD hS 0 rfl rfl 10 (by decide) (ht _ xw_165) (fun _ h9 => h9) rfl hin rfl (by decide +kernel) rfl rfl (Nat.le_of_ble_eq_true rfl) d_MaskEdges_init_79 (fun H locs hP hD hS => ?_)
  replace hP : va_P X.1 vwCl [(h, .inr (5, [.ref q1, .int 0, .ref q2, .int 0, .ref q3, .ref q4, .int 0, .ref q5, .ref q7, .ref q9, .ref q11, .null, .int 0, .null])), (q1, .inl (X.2 2, 4, .inr (.inr (.inr (.inr (fun _ => none)))))), (q2, .inl (X.2 3, 120, .inr (.inr (.inr (.inr (fun _ => none)))))), (q3, .inl (X.2 0, 120, .inl (fun _ => 0))), (q4, .inl (X.2 4, 24, .inr (.inr (.inr (.inr (fun _ => none)))))), (q5, .inr (1, [.ref q6])), (q6, .inl (X.2 1, 48, .inr (.inl (fun _ => 0)))), (q7, .inr (1, [.ref q8])), (q8, .inl (X.2 1, 48, .inr (.inl (fun _ => 0)))), (q9, .inr (1, [.ref q10])), (q10, .inl (X.2 1, 48, .inr (.inl (fun _ => 0)))), (q11, .inr (2, [.ref q12, .ref q13, .int 0, .int 1])), (q12, .inl (X.2 0, 6, .inl (fun _ => 0))), (q13, .inl (X.2 0, 6, .inl (fun _ => 0)))] H := hP
  replace hD : va_D (xNew s.heap h) [(h, .inr (5, [.ref q1, .int 0, .ref q2, .int 0, .ref q3, .ref q4, .int 0, .ref q5, .ref q7, .ref q9, .ref q11, .null, .int 0, .null])), (q1, .inl (X.2 2, 4, .inr (.inr (.inr (.inr (fun _ => none)))))), (q2, .inl (X.2 3, 120, .inr (.inr (.inr (.inr (fun _ => none)))))), (q3, .inl (X.2 0, 120, .inl (fun _ => 0))), (q4, .inl (X.2 4, 24, .inr (.inr (.inr (.inr (fun _ => none)))))), (q5, .inr (1, [.ref q6])), (q6, .inl (X.2 1, 48, .inr (.inl (fun _ => 0)))), (q7, .inr (1, [.ref q8])), (q8, .inl (X.2 1, 48, .inr (.inl (fun _ => 0)))), (q9, .inr (1, [.ref q10])), (q10, .inl (X.2 1, 48, .inr (.inl (fun _ => 0)))), (q11, .inr (2, [.ref q12, .ref q13, .int 0, .int 1])), (q12, .inl (X.2 0, 6, .inl (fun _ => 0))), (q13, .inl (X.2 0, 6, .inl (fun _ => 0)))] := hD
  refine lv_aload_n hx hb d_MaskEdges_init_82 rfl (lv_at hl 0 rfl) ?_
  refine lv_bipush (v := 21) hx hb d_MaskEdges_init_83 (by decide) ?_
  refine va_newa (atype := .int) (ty := .int) (N' := 21) (a0 := (21, .inl (fun _ => 0))) hx hb (ht _ xw_64) rfl hK hP hD hS hA (fun _ => rfl) (by decide) rfl (by decide) (Nat.le_of_ble_eq_true rfl) (Nat.le_of_ble_eq_true rfl) d_MaskEdges_init_85 (fun q14 cA H hK1 hP hD hS => ?_)
  obtain rfl := xc_I hK1
  clear hK1
  replace hP : va_P X.1 vwCl [(h, .inr (5, [.ref q1, .int 0, .ref q2, .int 0, .ref q3, .ref q4, .int 0, .ref q5, .ref q7, .ref q9, .ref q11, .null, .int 0, .null])), (q1, .inl (X.2 2, 4, .inr (.inr (.inr (.inr (fun _ => none)))))), (q2, .inl (X.2 3, 120, .inr (.inr (.inr (.inr (fun _ => none)))))), (q3, .inl (X.2 0, 120, .inl (fun _ => 0))), (q4, .inl (X.2 4, 24, .inr (.inr (.inr (.inr (fun _ => none)))))), (q5, .inr (1, [.ref q6])), (q6, .inl (X.2 1, 48, .inr (.inl (fun _ => 0)))), (q7, .inr (1, [.ref q8])), (q8, .inl (X.2 1, 48, .inr (.inl (fun _ => 0)))), (q9, .inr (1, [.ref q10])), (q10, .inl (X.2 1, 48, .inr (.inl (fun _ => 0)))), (q11, .inr (2, [.ref q12, .ref q13, .int 0, .int 1])), (q12, .inl (X.2 0, 6, .inl (fun _ => 0))), (q13, .inl (X.2 0, 6, .inl (fun _ => 0))), (q14, .inl (X.2 0, 21, .inl (fun _ => 0)))] H := hP
  replace hD : va_D (xNew s.heap h) [(h, .inr (5, [.ref q1, .int 0, .ref q2, .int 0, .ref q3, .ref q4, .int 0, .ref q5, .ref q7, .ref q9, .ref q11, .null, .int 0, .null])), (q1, .inl (X.2 2, 4, .inr (.inr (.inr (.inr (fun _ => none)))))), (q2, .inl (X.2 3, 120, .inr (.inr (.inr (.inr (fun _ => none)))))), (q3, .inl (X.2 0, 120, .inl (fun _ => 0))), (q4, .inl (X.2 4, 24, .inr (.inr (.inr (.inr (fun _ => none)))))), (q5, .inr (1, [.ref q6])), (q6, .inl (X.2 1, 48, .inr (.inl (fun _ => 0)))), (q7, .inr (1, [.ref q8])), (q8, .inl (X.2 1, 48, .inr (.inl (fun _ => 0)))), (q9, .inr (1, [.ref q10])), (q10, .inl (X.2 1, 48, .inr (.inl (fun _ => 0)))), (q11, .inr (2, [.ref q12, .ref q13, .int 0, .int 1])), (q12, .inl (X.2 0, 6, .inl (fun _ => 0))), (q13, .inl (X.2 0, 6, .inl (fun _ => 0))), (q14, .inl (X.2 0, 21, .inl (fun _ => 0)))] := hD
  refine W.widen (k := 14) (n := 452) (by omega) (by omega) ?_
  refine va_putF (D := X.1) (ci := 5) (v := .ref q14) (ty := .array .int) (C := "MaskEdges") (T := F_MaskEdges) (N := 14) hx hb ht in_MaskEdges ty_MaskEdges tyk_MaskEdges nm_MaskEdges hown hK hP hD hS 0 rfl rfl 11 (by decide) (ht _ xw_166) (fun _ h9 => h9) rfl hin rfl (by decide +kernel) rfl rfl (Nat.le_of_ble_eq_true rfl) d_MaskEdges_init_87 (fun H locs hP hD hS => ?_)
  replace hP : va_P X.1 vwCl [(h, .inr (5, [.ref q1, .int 0, .ref q2, .int 0, .ref q3, .ref q4, .int 0, .ref q5, .ref q7, .ref q9, .ref q11, .ref q14, .int 0, .null])), (q1, .inl (X.2 2, 4, .inr (.inr (.inr (.inr (fun _ => none)))))), (q2, .inl (X.2 3, 120, .inr (.inr (.inr (.inr (fun _ => none)))))), (q3, .inl (X.2 0, 120, .inl (fun _ => 0))), (q4, .inl (X.2 4, 24, .inr (.inr (.inr (.inr (fun _ => none)))))), (q5, .inr (1, [.ref q6])), (q6, .inl (X.2 1, 48, .inr (.inl (fun _ => 0)))), (q7, .inr (1, [.ref q8])), (q8, .inl (X.2 1, 48, .inr (.inl (fun _ => 0)))), (q9, .inr (1, [.ref q10])), (q10, .inl (X.2 1, 48, .inr (.inl (fun _ => 0)))), (q11, .inr (2, [.ref q12, .ref q13, .int 0, .int 1])), (q12, .inl (X.2 0, 6, .inl (fun _ => 0))), (q13, .inl (X.2 0, 6, .inl (fun _ => 0))), (q14, .inl (X.2 0, 21, .inl (fun _ => 0)))] H := hP
  replace hD : va_D (xNew s.heap h) [(h, .inr (5, [.ref q1, .int 0, .ref q2, .int 0, .ref q3, .ref q4, .int 0, .ref q5, .ref q7, .ref q9, .ref q11, .ref q14, .int 0, .null])), (q1, .inl (X.2 2, 4, .inr (.inr (.inr (.inr (fun _ => none)))))), (q2, .inl (X.2 3, 120, .inr (.inr (.inr (.inr (fun _ => none)))))), (q3, .inl (X.2 0, 120, .inl (fun _ => 0))), (q4, .inl (X.2 4, 24, .inr (.inr (.inr (.inr (fun _ => none)))))), (q5, .inr (1, [.ref q6])), (q6, .inl (X.2 1, 48, .inr (.inl (fun _ => 0)))), (q7, .inr (1, [.ref q8])), (q8, .inl (X.2 1, 48, .inr (.inl (fun _ => 0)))), (q9, .inr (1, [.ref q10])), (q10, .inl (X.2 1, 48, .inr (.inl (fun _ => 0)))), (q11, .inr (2, [.ref q12, .ref q13, .int 0, .int 1])), (q12, .inl (X.2 0, 6, .inl (fun _ => 0))), (q13, .inl (X.2 0, 6, .inl (fun _ => 0))), (q14, .inl (X.2 0, 21, .inl (fun _ => 0)))] := hD
  refine lv_aload_n hx hb d_MaskEdges_init_90 rfl (lv_at hl 0 rfl) ?_
  refine va_new (ci := 0) (fs := [.int 0, .int 0, .int 0, .int 0]) (C := "MaskEdges$Box") (T := F_Box) (N := 4) hx hb ht in_Box ty_Box tyk_Box hown (ht _ xw_56) (ht _ xw_80) (ht _ xw_40) hK hP hD hS hA rfl (fun j hj => by rcases (show j = 0 ∨ j = 1 ∨ j = 2 ∨ j = 3 by omega) with rfl | rfl | rfl | rfl <;> rfl) (Nat.le_of_ble_eq_true rfl) (Nat.le_of_ble_eq_true rfl) d_MaskEdges_init_91 (fun q15 H hP hD hS => ?_)
  replace hP : va_P X.1 vwCl [(h, .inr (5, [.ref q1, .int 0, .ref q2, .int 0, .ref q3, .ref q4, .int 0, .ref q5, .ref q7, .ref q9, .ref q11, .ref q14, .int 0, .null])), (q1, .inl (X.2 2, 4, .inr (.inr (.inr (.inr (fun _ => none)))))), (q2, .inl (X.2 3, 120, .inr (.inr (.inr (.inr (fun _ => none)))))), (q3, .inl (X.2 0, 120, .inl (fun _ => 0))), (q4, .inl (X.2 4, 24, .inr (.inr (.inr (.inr (fun _ => none)))))), (q5, .inr (1, [.ref q6])), (q6, .inl (X.2 1, 48, .inr (.inl (fun _ => 0)))), (q7, .inr (1, [.ref q8])), (q8, .inl (X.2 1, 48, .inr (.inl (fun _ => 0)))), (q9, .inr (1, [.ref q10])), (q10, .inl (X.2 1, 48, .inr (.inl (fun _ => 0)))), (q11, .inr (2, [.ref q12, .ref q13, .int 0, .int 1])), (q12, .inl (X.2 0, 6, .inl (fun _ => 0))), (q13, .inl (X.2 0, 6, .inl (fun _ => 0))), (q14, .inl (X.2 0, 21, .inl (fun _ => 0))), (q15, .inr (0, [.int 0, .int 0, .int 0, .int 0]))] H := hP
  replace hD : va_D (xNew s.heap h) [(h, .inr (5, [.ref q1, .int 0, .ref q2, .int 0, .ref q3, .ref q4, .int 0, .ref q5, .ref q7, .ref q9, .ref q11, .ref q14, .int 0, .null])), (q1, .inl (X.2 2, 4, .inr (.inr (.inr (.inr (fun _ => none)))))), (q2, .inl (X.2 3, 120, .inr (.inr (.inr (.inr (fun _ => none)))))), (q3, .inl (X.2 0, 120, .inl (fun _ => 0))), (q4, .inl (X.2 4, 24, .inr (.inr (.inr (.inr (fun _ => none)))))), (q5, .inr (1, [.ref q6])), (q6, .inl (X.2 1, 48, .inr (.inl (fun _ => 0)))), (q7, .inr (1, [.ref q8])), (q8, .inl (X.2 1, 48, .inr (.inl (fun _ => 0)))), (q9, .inr (1, [.ref q10])), (q10, .inl (X.2 1, 48, .inr (.inl (fun _ => 0)))), (q11, .inr (2, [.ref q12, .ref q13, .int 0, .int 1])), (q12, .inl (X.2 0, 6, .inl (fun _ => 0))), (q13, .inl (X.2 0, 6, .inl (fun _ => 0))), (q14, .inl (X.2 0, 21, .inl (fun _ => 0))), (q15, .inr (0, [.int 0, .int 0, .int 0, .int 0]))] := hD
  refine W.widen (k := 15) (n := 456) (by omega) (by omega) ?_
  refine lv_dup hx hb d_MaskEdges_init_94 rfl ?_
  refine xcR (va_runIN (As := []) (rest := [.ref q15, .ref h]) ⟨hx, hb, hml, hown, ht⟩ (c_Box_init l X q15) ⟨va_cnB 0 ht (xgC xw_82) rfl rfl rfl (hKK.2 _ xn_2) (ht _ xw_40) (by decide +kernel) ⟨Nat.le_of_ble_eq_true rfl, Nat.le_of_ble_eq_true rfl⟩, rfl, ht _ xw_81⟩ (xPS hKK) rfl rfl hl.1 rfl (lv_room (Nat.le_of_ble_eq_true rfl)) d_MaskEdges_init_95 ⟨Nat.le_of_ble_eq_true rfl, Nat.le_of_ble_eq_true rfl⟩) ?_
  refine W.eq (g2 := F0 m 98 ls [.ref q15, .ref h]) rfl ?_
  refine va_putF (D := X.1) (ci := 5) (v := .ref q15) (ty := .object "MaskEdges$Box") (C := "MaskEdges") (T := F_MaskEdges) (N := 14) hx hb ht in_MaskEdges ty_MaskEdges tyk_MaskEdges nm_MaskEdges hown hK hP hD hS 0 rfl rfl 13 (by decide) (ht _ xw_168) (fun _ h9 => h9) rfl hin rfl (by decide +kernel) rfl rfl (Nat.le_of_ble_eq_true rfl) d_MaskEdges_init_98 (fun H locs hP hD hS => ?_)
  replace hP : va_P X.1 vwCl [(h, .inr (5, [.ref q1, .int 0, .ref q2, .int 0, .ref q3, .ref q4, .int 0, .ref q5, .ref q7, .ref q9, .ref q11, .ref q14, .int 0, .ref q15])), (q1, .inl (X.2 2, 4, .inr (.inr (.inr (.inr (fun _ => none)))))), (q2, .inl (X.2 3, 120, .inr (.inr (.inr (.inr (fun _ => none)))))), (q3, .inl (X.2 0, 120, .inl (fun _ => 0))), (q4, .inl (X.2 4, 24, .inr (.inr (.inr (.inr (fun _ => none)))))), (q5, .inr (1, [.ref q6])), (q6, .inl (X.2 1, 48, .inr (.inl (fun _ => 0)))), (q7, .inr (1, [.ref q8])), (q8, .inl (X.2 1, 48, .inr (.inl (fun _ => 0)))), (q9, .inr (1, [.ref q10])), (q10, .inl (X.2 1, 48, .inr (.inl (fun _ => 0)))), (q11, .inr (2, [.ref q12, .ref q13, .int 0, .int 1])), (q12, .inl (X.2 0, 6, .inl (fun _ => 0))), (q13, .inl (X.2 0, 6, .inl (fun _ => 0))), (q14, .inl (X.2 0, 21, .inl (fun _ => 0))), (q15, .inr (0, [.int 0, .int 0, .int 0, .int 0]))] H := hP
  replace hD : va_D (xNew s.heap h) [(h, .inr (5, [.ref q1, .int 0, .ref q2, .int 0, .ref q3, .ref q4, .int 0, .ref q5, .ref q7, .ref q9, .ref q11, .ref q14, .int 0, .ref q15])), (q1, .inl (X.2 2, 4, .inr (.inr (.inr (.inr (fun _ => none)))))), (q2, .inl (X.2 3, 120, .inr (.inr (.inr (.inr (fun _ => none)))))), (q3, .inl (X.2 0, 120, .inl (fun _ => 0))), (q4, .inl (X.2 4, 24, .inr (.inr (.inr (.inr (fun _ => none)))))), (q5, .inr (1, [.ref q6])), (q6, .inl (X.2 1, 48, .inr (.inl (fun _ => 0)))), (q7, .inr (1, [.ref q8])), (q8, .inl (X.2 1, 48, .inr (.inl (fun _ => 0)))), (q9, .inr (1, [.ref q10])), (q10, .inl (X.2 1, 48, .inr (.inl (fun _ => 0)))), (q11, .inr (2, [.ref q12, .ref q13, .int 0, .int 1])), (q12, .inl (X.2 0, 6, .inl (fun _ => 0))), (q13, .inl (X.2 0, 6, .inl (fun _ => 0))), (q14, .inl (X.2 0, 21, .inl (fun _ => 0))), (q15, .inr (0, [.int 0, .int 0, .int 0, .int 0]))] := hD
  refine lv_iconst (v := 0) hx hb d_MaskEdges_init_101 (by decide) ?_
  refine lv_istore_n (lv' := [(1, .int 0), (0, .ref h)]) hx hb d_MaskEdges_init_102 rfl hl (by decide) rfl (fun ls hl => ?_)
  obtain ⟨q, hq⟩ : ∃ q : Nat → Nat, q = fun k => ([h, q1, q2, q3, q4, q5, q6, q7, q8, q9, q10, q11, q12, q13, q14, q15] : List Nat).getD k 0 := ⟨_, rfl⟩
  obtain ⟨cf, hcf⟩ : ∃ cf : Nat → Nat × va_E, cf = fun k => ([(h, .inr (5, [.ref q1, .int 0, .ref q2, .int 0, .ref q3, .ref q4, .int 0, .ref q5, .ref q7, .ref q9, .ref q11, .ref q14, .int 0, .ref q15])), (q1, .inl (X.2 2, 4, .inr (.inr (.inr (.inr (fun _ => none)))))), (q2, .inl (X.2 3, 120, .inr (.inr (.inr (.inr (fun _ => none)))))), (q3, .inl (X.2 0, 120, .inl (fun _ => 0))), (q4, .inl (X.2 4, 24, .inr (.inr (.inr (.inr (fun _ => none)))))), (q5, .inr (1, [.ref q6])), (q6, .inl (X.2 1, 48, .inr (.inl (fun _ => 0)))), (q7, .inr (1, [.ref q8])), (q8, .inl (X.2 1, 48, .inr (.inl (fun _ => 0)))), (q9, .inr (1, [.ref q10])), (q10, .inl (X.2 1, 48, .inr (.inl (fun _ => 0)))), (q11, .inr (2, [.ref q12, .ref q13, .int 0, .int 1])), (q12, .inl (X.2 0, 6, .inl (fun _ => 0))), (q13, .inl (X.2 0, 6, .inl (fun _ => 0))), (q14, .inl (X.2 0, 21, .inl (fun _ => 0))), (q15, .inr (0, [.int 0, .int 0, .int 0, .int 0]))] : va_W).getD k (0, eB) := ⟨_, rfl⟩
  have ew : [(h, .inr (5, [.ref q1, .int 0, .ref q2, .int 0, .ref q3, .ref q4, .int 0, .ref q5, .ref q7, .ref q9, .ref q11, .ref q14, .int 0, .ref q15])), (q1, .inl (X.2 2, 4, .inr (.inr (.inr (.inr (fun _ => none)))))), (q2, .inl (X.2 3, 120, .inr (.inr (.inr (.inr (fun _ => none)))))), (q3, .inl (X.2 0, 120, .inl (fun _ => 0))), (q4, .inl (X.2 4, 24, .inr (.inr (.inr (.inr (fun _ => none)))))), (q5, .inr (1, [.ref q6])), (q6, .inl (X.2 1, 48, .inr (.inl (fun _ => 0)))), (q7, .inr (1, [.ref q8])), (q8, .inl (X.2 1, 48, .inr (.inl (fun _ => 0)))), (q9, .inr (1, [.ref q10])), (q10, .inl (X.2 1, 48, .inr (.inl (fun _ => 0)))), (q11, .inr (2, [.ref q12, .ref q13, .int 0, .int 1])), (q12, .inl (X.2 0, 6, .inl (fun _ => 0))), (q13, .inl (X.2 0, 6, .inl (fun _ => 0))), (q14, .inl (X.2 0, 21, .inl (fun _ => 0))), (q15, .inr (0, [.int 0, .int 0, .int 0, .int 0]))] = wF cf 16 := by subst hcf; rfl
  rw [ew] at hP hD
  refine hLL q (by subst hq; rfl) cf H _ ⟨⟨?_, by subst hq; subst hcf; rfl⟩, by subst hq; subst hcf; rfl⟩ (by subst hq; subst hcf; rfl) hP hD hS ls (lv_sub hl [1, 0] rfl)
  subst hq
  subst hcf
  intro k hk n1 n2 n4
  match k, hk, n1, n2, n4 with
  | 0, _, _, _, _ => rfl
  | 1, _, n, _, _ => exact absurd rfl n
  | 2, _, _, n, _ => exact absurd rfl n
  | 3, _, _, _, _ => rfl
  | 4, _, _, _, n => exact absurd rfl n
  | 5, _, _, _, _ => rfl
  | 6, _, _, _, _ => rfl
  | 7, _, _, _, _ => rfl
  | 8, _, _, _, _ => rfl
  | 9, _, _, _, _ => rfl
  | 10, _, _, _, _ => rfl
  | 11, _, _, _, _ => rfl
  | 12, _, _, _, _ => rfl
  | 13, _, _, _, _ => rfl
  | 14, _, _, _, _ => rfl
  | 15, _, _, _, _ => rfl
  | k + 16, hk, _, _, _ => omega
