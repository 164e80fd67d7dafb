/-! Constructors: what a new object is. -/
def xNew (H : Heap) (h : Nat) : Nat → Prop := fun q => q = h ∨ H.size ≤ q
abbrev xI (l : Launch) (y : MethodName) (ws : List Cond) (rm : Room) (K : State → Prop) (av : List Value) (H : Heap) (A : Nat → Prop) (Pic : Heap → Prop) (mc ms : Nat) : Prop :=
  Met l y ws rm (va_Pc av (fun U => U.heap = H ∧ K U)) (xQ none Pic A) mc ms A
theorem xc_I {X : xG} {cA : ClassId} {s : State} (h : va_K X.1 vwCl (xTy X ++ [(cA, .int)]) s) : cA = X.2 0 := Option.some.inj ((h.2 6 (cA, .int) rfl).2.symm.trans (h.2 0 (X.2 0, .int) rfl).2)
theorem xc_J {X : xG} {cA : ClassId} {s : State} (h : va_K X.1 vwCl (xTy X ++ [(cA, .long)]) s) : cA = X.2 1 := Option.some.inj ((h.2 6 (cA, .long) rfl).2.symm.trans (h.2 1 (X.2 1, .long) rfl).2)
theorem xc_Z {X : xG} {cA : ClassId} {s : State} (h : va_K X.1 vwCl (xTy X ++ [(cA, .boolean)]) s) : cA = X.2 5 := Option.some.inj ((h.2 6 (cA, .boolean) rfl).2.symm.trans (h.2 5 (X.2 5, .boolean) rfl).2)
theorem xc_q {X : xG} {cA : ClassId} {C : String} {s : State} {k : Nat} {cB : ClassId} (h : va_K X.1 vwCl (xTy X ++ [(cA, .object C)]) s) (hk : (xTy X)[k]? = some (cB, .object C)) : cA = cB := by
  obtain ⟨-, -, -, -, -, a⟩ := (h.2 6 (cA, .object C) rfl).2
  have hk' : (xTy X ++ [(cA, .object C)])[k]? = some (cB, .object C) := by
    rw [List.getElem?_append_left (List.getElem?_eq_some_iff.mp hk).1]
    exact hk
  obtain ⟨-, -, -, -, -, b⟩ := (h.2 k _ hk').2
  exact Option.some.inj (a.symm.trans b)
theorem xD1 {H : Heap} {h : Nat} {e : va_E} : va_D (xNew H h) [(h, e)] := by
  refine ⟨fun i j p q hi hj _ => ?_, fun k q hk => ?_⟩
  · have h1 := (List.getElem?_eq_some_iff.mp hi).1
    have h2 := (List.getElem?_eq_some_iff.mp hj).1
    simp at h1 h2
    omega
  · have h1 := (List.getElem?_eq_some_iff.mp hk).1
    simp at h1
    subst h1
    cases hk
    exact Or.inl rfl
theorem xnewq {H : Heap} {h : Nat} {e : va_E} {ws : va_W} (hD : va_D (xNew H h) ((h, e) :: ws)) {k : Nat} {q : Nat × va_E} (hk : ws[k]? = some q) : H.size ≤ q.1 := by
  rcases hD.2 (k + 1) q (by rw [List.getElem?_cons_succ]; exact hk) with z | z
  · have := hD.1 (k + 1) 0 q (h, e) (by rw [List.getElem?_cons_succ]; exact hk) (List.getElem?_cons_zero) z
    omega
  · exact z
section XI
variable {p : Program} {l : Launch} {e : Env} {R : Room} {s : State} {m : MethodId} {args : Array Value} {below : List Frame} {meth : Method} {c : Code} {H : Heap} {locs : List Loc} {cells slots mc ms : Nat} {Q : State → Prop}
variable {pc : Nat} {ls : Array Slot} {rest st0 : List Value} {a : Array Value} {A : Nat → Prop} {Pic : Heap → Prop}
theorem xcI (hr : va_Run p l e R s m args below meth c H locs cells slots mc ms (F0 m pc ls st0) rest (xQ none Pic A a) A)
    (kk : ∀ (H1 : Heap) (L : List Loc), Pic H1 → xFr A H H1 L → W p l e R s m args below meth c H1 (locs ++ L) (cells + mc) (slots + ms) Q (F0 m (pc + 3) ls rest)) : W p l e R s m args below meth c H locs cells slots Q (F0 m pc ls st0) := by
  intro T hT X
  obtain ⟨v, st₀, t, T', L, h0, X', hL, e1, e2, ⟨⟨hv, hp⟩, hz, hk⟩, st⟩ := hr T hT X
  cases hv
  rw [h0] at hz hk
  obtain ⟨t2, a1, b1⟩ := kk T'.heap L (by rw [e1]; exact hp) ⟨by rw [e1]; exact hz, fun q h1 h2 => by rw [e1]; exact hk q h1 h2, hL⟩ T' rfl X'
  exact ⟨t2, st t2 a1, b1⟩
end XI
/-- behind a constructor's call: the new object, what it has made, beside the rest -/
theorem xgrow {D : va_G} {cl : List vw_C} {A : Nat → Prop} {ws w1 : va_W} {q : Nat} {e e' : va_E} {H H1 : Heap} {L : List Loc} (hP : va_P D cl (ws ++ [(q, e)]) H) (hD : va_D A (ws ++ [(q, e)])) (hz : xFr (xNew H q) H H1 L) (hP1 : va_P D cl ((q, e') :: w1) H1) (hw : ∀ (k : Nat) (x : Nat × va_E), w1[k]? = some x → H.size ≤ x.1) (hnd : ∀ (i j : Nat) (x z : Nat × va_E), w1[i]? = some x → w1[j]? = some z → x.1 = z.1 → i = j) (hA : ∀ x, H.size ≤ x → A x) : va_P D cl (ws ++ (q, e') :: w1) H1 ∧ va_D A (ws ++ (q, e') :: w1) := by
  have old : ∀ (k : Nat) (x : Nat × va_E), ws[k]? = some x → x.1 < H.size ∧ x.1 ≠ q ∧ A x.1 := by
    intro k x hk
    have hl : k < ws.length := (List.getElem?_eq_some_iff.mp hk).1
    have hk' : (ws ++ [(q, e)])[k]? = some x := by rw [List.getElem?_append_left hl]; exact hk
    refine ⟨(hP k x hk').lt, fun z => ?_, hD.2 k x hk'⟩
    have := hD.1 k ws.length x (q, e) hk' (by rw [List.getElem?_append_right (Nat.le_refl _), Nat.sub_self]; rfl) z
    omega
  have hq : q < H.size ∧ A q := by
    have hk' : (ws ++ [(q, e)])[ws.length]? = some (q, e) := by rw [List.getElem?_append_right (Nat.le_refl _), Nat.sub_self]; rfl
    exact ⟨(hP _ _ hk').lt, hD.2 _ _ hk'⟩
  have all : ∀ (k : Nat) (x : Nat × va_E), (ws ++ (q, e') :: w1)[k]? = some x → (k < ws.length ∧ ws[k]? = some x) ∨ (k = ws.length ∧ x = (q, e')) ∨ (ws.length < k ∧ w1[k - ws.length - 1]? = some x) := by
    intro k x hk
    by_cases h1 : k < ws.length
    · rw [List.getElem?_append_left h1] at hk
      exact Or.inl ⟨h1, hk⟩
    · rw [List.getElem?_append_right (by omega)] at hk
      by_cases h2 : k = ws.length
      · rw [h2, Nat.sub_self, List.getElem?_cons_zero] at hk
        exact Or.inr (Or.inl ⟨h2, (Option.some.inj hk).symm⟩)
      · rw [show k - ws.length = (k - ws.length - 1) + 1 from by omega, List.getElem?_cons_succ] at hk
        exact Or.inr (Or.inr ⟨by omega, hk⟩)
  refine ⟨fun k x hk => ?_, fun i j x z hi hj hxz => ?_, fun k x hk => ?_⟩
  · rcases all k x hk with ⟨h1, h2⟩ | ⟨h1, h2⟩ | ⟨h1, h2⟩
    · obtain ⟨o1, o2, o3⟩ := old k x h2
      have hk' : (ws ++ [(q, e)])[k]? = some x := by rw [List.getElem?_append_left h1]; exact h2
      exact (hP k x hk').kept (hz.2.1 x.1 o1 (fun w => w.elim (fun w => o2 w) (fun w => by omega)))
    · rw [h2]; exact hP1 0 _ rfl
    · exact hP1 (k - ws.length - 1 + 1) x (by rw [List.getElem?_cons_succ]; exact h2)
  · rcases all i x hi with ⟨h1, h2⟩ | ⟨h1, h2⟩ | ⟨h1, h2⟩ <;> rcases all j z hj with ⟨g1, g2⟩ | ⟨g1, g2⟩ | ⟨g1, g2⟩
    · exact hD.1 i j x z (by rw [List.getElem?_append_left h1]; exact h2) (by rw [List.getElem?_append_left g1]; exact g2) hxz
    · exact absurd (by rw [hxz, g2]) (old i x h2).2.1
    · have := (old i x h2).1; have := hw _ _ g2; omega
    · exact absurd (by rw [← hxz, h2]) (old j z g2).2.1
    · omega
    · have := hw _ _ g2; rw [h2] at hxz; have := hq.1; omega
    · have := (old j z g2).1; have := hw _ _ h2; omega
    · have := hw _ _ h2; rw [g2] at hxz; have := hq.1; omega
    · have := hnd _ _ _ _ h2 g2 hxz; omega
  · rcases all k x hk with ⟨h1, h2⟩ | ⟨h1, h2⟩ | ⟨h1, h2⟩
    · exact (old k x h2).2.2
    · rw [h2]; exact hq.2
    · exact hA _ (hw _ _ h2)
theorem xPI {X : xG} {s : State} {H : Heap} {As : List Value} (h : xK X s) : PreS s H (va_Pc As (fun U => U.heap = H ∧ xK X U)) As := xPS h
set_option maxHeartbeats 4000000 in
set_option maxRecDepth 100000 in
theorem c_Box_init (l : Launch) (X : xG) {H : Heap} (h : Nat) : xM l y_Box_init (Cond.code y_Box_init prog_2_method_1_code 1 none :: xT) ({ frames := 1, cells := 0, slots := 0, locals := 12 } : Room) (xK X) [.ref h] H xNo none (fun H1 => H1 = H) := by
  refine Met.ofW (cc := prog_2_method_1_code) (maxL := 1) (ret := none) (by decide) rfl ?_
  intro p e s m args below meth c s₁ B hml hv
  obtain ⟨ha, hH, hKK⟩ := hv
  subst hH
  have hx := B.exec
  have hb := B.bytes
  have hr := B.returns
  have ht : ∀ w ∈ xT, w.before args s = true := fun w h => atoms_spec (ws := (Cond.code y_Box_init prog_2_method_1_code 1 none :: xT)) B.pre w (List.mem_cons_of_mem _ h)
  have hown : s.vm.findClass "MaskEdges$Box" = some m.cls := findClass_of_methodNamed B.named
  have hlocks := B.notSynchronized
  rw [show entryFrame m args 1 = entryFrame m ([.ref h] : List Value).toArray 1 from by rw [ha]]
  clear ha
  have hl := lv_entry ([.ref h]) (n := 1) (Nat.le_of_ble_eq_true rfl)
  rw [lg_entry_eq]
  generalize (lg_sl ([.ref h]) ++ List.replicate (1 - (lg_sl ([.ref h])).length) Slot.unset).toArray = ls at hl ⊢
  replace hl : lv_has ls 1 [(0, .ref h)] := hl
  refine lv_aload_n hx hb d_Box_init_0 rfl (lv_at hl 0 rfl) ?_
  refine W.objInit hx hb hown (ht _ xw_83) (ht _ xw_52) (ht _ xw_obj) rfl (by rw [hml]; exact hl.1) rfl d_Box_init_1 (Nat.le_of_ble_eq_true rfl) (Nat.le_of_ble_eq_true rfl) ?_
  refine W.eq (g2 := F0 m 4 ls []) rfl ?_
  exact W.vret hx hb hr (fun t ht hW => ⟨⟨rfl, ht⟩, x_F0 ht⟩) (fun _ h => by cases h) d_Box_init_4
set_option maxHeartbeats 4000000 in
set_option maxRecDepth 100000 in
theorem c_Piece_init (l : Launch) (X : xG) {H : Heap} (h : Nat) : xM l y_Piece_init (Cond.code y_Piece_init prog_6_method_1_code 1 none :: xT) ({ frames := 1, cells := 0, slots := 0, locals := 12 } : Room) (xK X) [.ref h] H xNo none (fun H1 => H1 = H) := by
  refine Met.ofW (cc := prog_6_method_1_code) (maxL := 1) (ret := none) (by decide) rfl ?_
  intro p e s m args below meth c s₁ B hml hv
  obtain ⟨ha, hH, hKK⟩ := hv
  subst hH
  have hx := B.exec
  have hb := B.bytes
  have hr := B.returns
  have ht : ∀ w ∈ xT, w.before args s = true := fun w h => atoms_spec (ws := (Cond.code y_Piece_init prog_6_method_1_code 1 none :: xT)) B.pre w (List.mem_cons_of_mem _ h)
  have hown : s.vm.findClass "MaskEdges$Piece" = some m.cls := findClass_of_methodNamed B.named
  have hlocks := B.notSynchronized
  rw [show entryFrame m args 1 = entryFrame m ([.ref h] : List Value).toArray 1 from by rw [ha]]
  clear ha
  have hl := lv_entry ([.ref h]) (n := 1) (Nat.le_of_ble_eq_true rfl)
  rw [lg_entry_eq]
  generalize (lg_sl ([.ref h]) ++ List.replicate (1 - (lg_sl ([.ref h])).length) Slot.unset).toArray = ls at hl ⊢
  replace hl : lv_has ls 1 [(0, .ref h)] := hl
  refine lv_aload_n hx hb d_Piece_init_0 rfl (lv_at hl 0 rfl) ?_
  refine W.objInit hx hb hown (ht _ xw_119) (ht _ xw_52) (ht _ xw_obj) rfl (by rw [hml]; exact hl.1) rfl d_Piece_init_1 (Nat.le_of_ble_eq_true rfl) (Nat.le_of_ble_eq_true rfl) ?_
  refine W.eq (g2 := F0 m 4 ls []) rfl ?_
  exact W.vret hx hb hr (fun t ht hW => ⟨⟨rfl, ht⟩, x_F0 ht⟩) (fun _ h => by cases h) d_Piece_init_4
set_option maxHeartbeats 4000000 in
set_option maxRecDepth 100000 in
theorem c_CellSet_init (l : Launch) (X : xG) {H : Heap} (h : Nat) (hP : va_P X.1 vwCl [(h, .inr (1, [.null]))] H) : xI l y_CellSet_init (Cond.code y_CellSet_init prog_3_method_1_code 1 none :: xT) ({ frames := 1, cells := 1, slots := 48, locals := 12 } : Room) (xK X) [.ref h] H (xNew H h) (fun H1 => ∃ a0, H.size ≤ a0 ∧ va_P X.1 vwCl (w_CellSet X h a0 (fun _ => 0)) H1) 1 48 := by
  refine Met.ofW (cc := prog_3_method_1_code) (maxL := 1) (ret := none) (by decide) rfl ?_
  intro p e s m args below meth c s₁ B hml hv
  obtain ⟨ha, hH, hKK⟩ := hv
  subst hH
  have hx := B.exec
  have hb := B.bytes
  have hr := B.returns
  have ht : ∀ w ∈ xT, w.before args s = true := fun w h => atoms_spec (ws := (Cond.code y_CellSet_init prog_3_method_1_code 1 none :: xT)) B.pre w (List.mem_cons_of_mem _ h)
  have hown : s.vm.findClass "MaskEdges$CellSet" = some m.cls := findClass_of_methodNamed B.named
  have hlocks := B.notSynchronized
  have hin : meth.name = "<init>" := (name_of_methodNamed B.named B.method).1
  have hK := hKK.1
  rw [show entryFrame m args 1 = entryFrame m ([.ref h] : List Value).toArray 1 from by rw [ha]]
  clear ha
  have hS : va_S (xNew s.heap h) s.heap s.heap [] := va_S.rf
  have hA : ∀ q : Nat, s.heap.size ≤ q → xNew s.heap h q := fun q z => Or.inr z
  have hD : va_D (xNew s.heap h) [(h, .inr (1, [.null]))] := xD1
  have hl := lv_entry ([.ref h]) (n := 1) (Nat.le_of_ble_eq_true rfl)
  rw [lg_entry_eq]
  generalize (lg_sl ([.ref h]) ++ List.replicate (1 - (lg_sl ([.ref h])).length) Slot.unset).toArray = ls at hl ⊢
  replace hl : lv_has ls 1 [(0, .ref h)] := hl
  refine lv_aload_n hx hb d_CellSet_init_0 rfl (lv_at hl 0 rfl) ?_
  refine W.objInit hx hb hown (ht _ xw_61) (ht _ xw_52) (ht _ xw_obj) rfl (by rw [hml]; exact hl.1) rfl d_CellSet_init_1 (Nat.le_of_ble_eq_true rfl) (Nat.le_of_ble_eq_true rfl) ?_
  refine W.eq (g2 := F0 m 4 ls []) rfl ?_
  refine lv_aload_n hx hb d_CellSet_init_4 rfl (lv_at hl 0 rfl) ?_
  refine lv_bipush (v := 48) hx hb d_CellSet_init_5 (by decide) ?_
  refine va_newa (atype := .long) (ty := .long) (N' := 48) (a0 := (48, .inr (.inl (fun _ => 0)))) hx hb (ht _ xw_65) rfl hK hP hD hS hA (fun _ => rfl) (by decide) rfl (by decide) (Nat.le_of_ble_eq_true rfl) (Nat.le_of_ble_eq_true rfl) d_CellSet_init_7 (fun q0 cA H hK1 hP hD hS => ?_)
  obtain rfl := xc_J hK1
  clear hK1
  replace hP : va_P X.1 vwCl [(h, .inr (1, [.null])), (q0, .inl (X.2 1, 48, .inr (.inl (fun _ => 0))))] H := hP
  replace hD : va_D (xNew s.heap h) [(h, .inr (1, [.null])), (q0, .inl (X.2 1, 48, .inr (.inl (fun _ => 0))))] := hD
  refine W.widen (k := 1) (n := 48) (by omega) (by omega) ?_
  refine va_putF (D := X.1) (ci := 1) (v := .ref q0) (ty := .array .long) (C := "MaskEdges$CellSet") (T := F_CellSet) (N := 1) hx hb ht in_CellSet ty_CellSet tyk_CellSet nm_CellSet hown hK hP hD hS 0 rfl rfl 0 (by decide) (ht _ xw_62) (fun _ h9 => h9) rfl hin rfl (by decide +kernel) rfl rfl (Nat.le_of_ble_eq_true rfl) d_CellSet_init_9 (fun H locs hP hD hS => ?_)
  replace hP : va_P X.1 vwCl [(h, .inr (1, [.ref q0])), (q0, .inl (X.2 1, 48, .inr (.inl (fun _ => 0))))] H := hP
  replace hD : va_D (xNew s.heap h) [(h, .inr (1, [.ref q0])), (q0, .inl (X.2 1, 48, .inr (.inl (fun _ => 0))))] := hD
  have hq : ∀ (k : Nat) (x : Nat × va_E), ([(q0, .inl (X.2 1, 48, .inr (.inl (fun _ => 0))))] : va_W)[k]? = some x → s.heap.size ≤ x.1 := fun k x hk => xnewq hD hk
  exact W.vret hx hb hr (fun t ht hW => ⟨⟨rfl, by rw [ht]; exact ⟨q0, hq 0 _ rfl, hP⟩⟩, hS.F ht⟩) hS.2.2 d_CellSet_init_12
set_option maxHeartbeats 4000000 in
set_option maxRecDepth 100000 in
theorem c_Outline_init (l : Launch) (X : xG) {H : Heap} (h : Nat) (hP : va_P X.1 vwCl [(h, .inr (3, [.null, .null, .int 0, .int 0]))] H) : xI l y_Outline_init (Cond.code y_Outline_init prog_5_method_1_code 1 none :: xT) ({ frames := 1, cells := 2, slots := 32, locals := 12 } : Room) (xK X) [.ref h] H (xNew H h) (fun H1 => ∃ a0 a1, a0 ≠ a1 ∧ H.size ≤ a0 ∧ H.size ≤ a1 ∧ va_P X.1 vwCl (w_Outline X h a0 a1 (fun _ => 0, fun _ => 0, 0, 0)) H1) 2 32 := by
  refine Met.ofW (cc := prog_5_method_1_code) (maxL := 1) (ret := none) (by decide) rfl ?_
  intro p e s m args below meth c s₁ B hml hv
  obtain ⟨ha, hH, hKK⟩ := hv
  subst hH
  have hx := B.exec
  have hb := B.bytes
  have hr := B.returns
  have ht : ∀ w ∈ xT, w.before args s = true := fun w h => atoms_spec (ws := (Cond.code y_Outline_init prog_5_method_1_code 1 none :: xT)) B.pre w (List.mem_cons_of_mem _ h)
  have hown : s.vm.findClass "MaskEdges$Outline" = some m.cls := findClass_of_methodNamed B.named
  have hlocks := B.notSynchronized
  have hin : meth.name = "<init>" := (name_of_methodNamed B.named B.method).1
  have hK := hKK.1
  rw [show entryFrame m args 1 = entryFrame m ([.ref h] : List Value).toArray 1 from by rw [ha]]
  clear ha
  have hS : va_S (xNew s.heap h) s.heap s.heap [] := va_S.rf
  have hA : ∀ q : Nat, s.heap.size ≤ q → xNew s.heap h q := fun q z => Or.inr z
  have hD : va_D (xNew s.heap h) [(h, .inr (3, [.null, .null, .int 0, .int 0]))] := xD1
  have hl := lv_entry ([.ref h]) (n := 1) (Nat.le_of_ble_eq_true rfl)
  rw [lg_entry_eq]
  generalize (lg_sl ([.ref h]) ++ List.replicate (1 - (lg_sl ([.ref h])).length) Slot.unset).toArray = ls at hl ⊢
  replace hl : lv_has ls 1 [(0, .ref h)] := hl
  refine lv_aload_n hx hb d_Outline_init_0 rfl (lv_at hl 0 rfl) ?_
  refine W.objInit hx hb hown (ht _ xw_103) (ht _ xw_52) (ht _ xw_obj) rfl (by rw [hml]; exact hl.1) rfl d_Outline_init_1 (Nat.le_of_ble_eq_true rfl) (Nat.le_of_ble_eq_true rfl) ?_
  refine W.eq (g2 := F0 m 4 ls []) rfl ?_
  refine lv_aload_n hx hb d_Outline_init_4 rfl (lv_at hl 0 rfl) ?_
  refine lv_bipush (v := 16) hx hb d_Outline_init_5 (by decide) ?_
  refine va_newa (atype := .int) (ty := .int) (N' := 16) (a0 := (16, .inl (fun _ => 0))) hx hb (ht _ xw_64) rfl hK hP hD hS hA (fun _ => rfl) (by decide) rfl (by decide) (Nat.le_of_ble_eq_true rfl) (Nat.le_of_ble_eq_true rfl) d_Outline_init_7 (fun q0 cA H hK1 hP hD hS => ?_)
  obtain rfl := xc_I hK1
  clear hK1
  replace hP : va_P X.1 vwCl [(h, .inr (3, [.null, .null, .int 0, .int 0])), (q0, .inl (X.2 0, 16, .inl (fun _ => 0)))] H := hP
  replace hD : va_D (xNew s.heap h) [(h, .inr (3, [.null, .null, .int 0, .int 0])), (q0, .inl (X.2 0, 16, .inl (fun _ => 0)))] := hD
  refine W.widen (k := 1) (n := 16) (by omega) (by omega) ?_
  refine va_putF (D := X.1) (ci := 3) (v := .ref q0) (ty := .array .int) (C := "MaskEdges$Outline") (T := F_Outline) (N := 4) hx hb ht in_Outline ty_Outline tyk_Outline nm_Outline hown hK hP hD hS 0 rfl rfl 0 (by decide) (ht _ xw_104) (fun _ h9 => h9) rfl hin rfl (by decide +kernel) rfl rfl (Nat.le_of_ble_eq_true rfl) d_Outline_init_9 (fun H locs hP hD hS => ?_)
  replace hP : va_P X.1 vwCl [(h, .inr (3, [.ref q0, .null, .int 0, .int 0])), (q0, .inl (X.2 0, 16, .inl (fun _ => 0)))] H := hP
  replace hD : va_D (xNew s.heap h) [(h, .inr (3, [.ref q0, .null, .int 0, .int 0])), (q0, .inl (X.2 0, 16, .inl (fun _ => 0)))] := hD
  refine lv_aload_n hx hb d_Outline_init_12 rfl (lv_at hl 0 rfl) ?_
  refine lv_bipush (v := 16) hx hb d_Outline_init_13 (by decide) ?_
  refine va_newa (atype := .int) (ty := .int) (N' := 16) (a0 := (16, .inl (fun _ => 0))) hx hb (ht _ xw_64) rfl hK hP hD hS hA (fun _ => rfl) (by decide) rfl (by decide) (Nat.le_of_ble_eq_true rfl) (Nat.le_of_ble_eq_true rfl) d_Outline_init_15 (fun q1 cA H hK1 hP hD hS => ?_)
  obtain rfl := xc_I hK1
  clear hK1
  replace hP : va_P X.1 vwCl [(h, .inr (3, [.ref q0, .null, .int 0, .int 0])), (q0, .inl (X.2 0, 16, .inl (fun _ => 0))), (q1, .inl (X.2 0, 16, .inl (fun _ => 0)))] H := hP
  replace hD : va_D (xNew s.heap h) [(h, .inr (3, [.ref q0, .null, .int 0, .int 0])), (q0, .inl (X.2 0, 16, .inl (fun _ => 0))), (q1, .inl (X.2 0, 16, .inl (fun _ => 0)))] := hD
  refine W.widen (k := 2) (n := 32) (by omega) (by omega) ?_
  refine va_putF (D := X.1) (ci := 3) (v := .ref q1) (ty := .array .int) (C := "MaskEdges$Outline") (T := F_Outline) (N := 4) hx hb ht in_Outline ty_Outline tyk_Outline nm_Outline hown hK hP hD hS 0 rfl rfl 1 (by decide) (ht _ xw_106) (fun _ h9 => h9) rfl hin rfl (by decide +kernel) rfl rfl (Nat.le_of_ble_eq_true rfl) d_Outline_init_17 (fun H locs hP hD hS => ?_)
  replace hP : va_P X.1 vwCl [(h, .inr (3, [.ref q0, .ref q1, .int 0, .int 0])), (q0, .inl (X.2 0, 16, .inl (fun _ => 0))), (q1, .inl (X.2 0, 16, .inl (fun _ => 0)))] H := hP
  replace hD : va_D (xNew s.heap h) [(h, .inr (3, [.ref q0, .ref q1, .int 0, .int 0])), (q0, .inl (X.2 0, 16, .inl (fun _ => 0))), (q1, .inl (X.2 0, 16, .inl (fun _ => 0)))] := hD
  have hq : ∀ (k : Nat) (x : Nat × va_E), ([(q0, .inl (X.2 0, 16, .inl (fun _ => 0))), (q1, .inl (X.2 0, 16, .inl (fun _ => 0)))] : va_W)[k]? = some x → s.heap.size ≤ x.1 := fun k x hk => xnewq hD hk
  have hne : q0 ≠ q1 := fun z => by have := hD.1 1 2 _ _ rfl rfl z; omega
  exact W.vret hx hb hr (fun t ht hW => ⟨⟨rfl, by rw [ht]; exact ⟨q0, q1, hne, hq 0 _ rfl, hq 1 _ rfl, hP⟩⟩, hS.F ht⟩) hS.2.2 d_Outline_init_20
set_option maxHeartbeats 4000000 in
set_option maxRecDepth 100000 in
theorem c_Exposure_init (l : Launch) (X : xG) {H : Heap} (h : Nat) (hP : va_P X.1 vwCl [(h, .inr (2, [.null, .null, .int 0, .int 0]))] H) : xI l y_Exposure_init (Cond.code y_Exposure_init prog_4_method_1_code 1 none :: xT) ({ frames := 1, cells := 2, slots := 12, locals := 12 } : Room) (xK X) [.ref h] H (xNew H h) (fun H1 => ∃ a0 a1, a0 ≠ a1 ∧ H.size ≤ a0 ∧ H.size ≤ a1 ∧ va_P X.1 vwCl (w_Exposure X h a0 a1 (fun _ => 0, fun _ => 0, 0, 1)) H1) 2 12 := by
  refine Met.ofW (cc := prog_4_method_1_code) (maxL := 1) (ret := none) (by decide) rfl ?_
  intro p e s m args below meth c s₁ B hml hv
  obtain ⟨ha, hH, hKK⟩ := hv
  subst hH
  have hx := B.exec
  have hb := B.bytes
  have hr := B.returns
  have ht : ∀ w ∈ xT, w.before args s = true := fun w h => atoms_spec (ws := (Cond.code y_Exposure_init prog_4_method_1_code 1 none :: xT)) B.pre w (List.mem_cons_of_mem _ h)
  have hown : s.vm.findClass "MaskEdges$Exposure" = some m.cls := findClass_of_methodNamed B.named
  have hlocks := B.notSynchronized
  have hin : meth.name = "<init>" := (name_of_methodNamed B.named B.method).1
  have hK := hKK.1
  rw [show entryFrame m args 1 = entryFrame m ([.ref h] : List Value).toArray 1 from by rw [ha]]
  clear ha
  have hS : va_S (xNew s.heap h) s.heap s.heap [] := va_S.rf
  have hA : ∀ q : Nat, s.heap.size ≤ q → xNew s.heap h q := fun q z => Or.inr z
  have hD : va_D (xNew s.heap h) [(h, .inr (2, [.null, .null, .int 0, .int 0]))] := xD1
  have hl := lv_entry ([.ref h]) (n := 1) (Nat.le_of_ble_eq_true rfl)
  rw [lg_entry_eq]
  generalize (lg_sl ([.ref h]) ++ List.replicate (1 - (lg_sl ([.ref h])).length) Slot.unset).toArray = ls at hl ⊢
  replace hl : lv_has ls 1 [(0, .ref h)] := hl
  refine lv_aload_n hx hb d_Exposure_init_0 rfl (lv_at hl 0 rfl) ?_
  refine W.objInit hx hb hown (ht _ xw_70) (ht _ xw_52) (ht _ xw_obj) rfl (by rw [hml]; exact hl.1) rfl d_Exposure_init_1 (Nat.le_of_ble_eq_true rfl) (Nat.le_of_ble_eq_true rfl) ?_
  refine W.eq (g2 := F0 m 4 ls []) rfl ?_
  refine lv_aload_n hx hb d_Exposure_init_4 rfl (lv_at hl 0 rfl) ?_
  refine lv_bipush (v := 6) hx hb d_Exposure_init_5 (by decide) ?_
  refine va_newa (atype := .int) (ty := .int) (N' := 6) (a0 := (6, .inl (fun _ => 0))) hx hb (ht _ xw_64) rfl hK hP hD hS hA (fun _ => rfl) (by decide) rfl (by decide) (Nat.le_of_ble_eq_true rfl) (Nat.le_of_ble_eq_true rfl) d_Exposure_init_7 (fun q0 cA H hK1 hP hD hS => ?_)
  obtain rfl := xc_I hK1
  clear hK1
  replace hP : va_P X.1 vwCl [(h, .inr (2, [.null, .null, .int 0, .int 0])), (q0, .inl (X.2 0, 6, .inl (fun _ => 0)))] H := hP
  replace hD : va_D (xNew s.heap h) [(h, .inr (2, [.null, .null, .int 0, .int 0])), (q0, .inl (X.2 0, 6, .inl (fun _ => 0)))] := hD
  refine W.widen (k := 1) (n := 6) (by omega) (by omega) ?_
  refine va_putF (D := X.1) (ci := 2) (v := .ref q0) (ty := .array .int) (C := "MaskEdges$Exposure") (T := F_Exposure) (N := 4) hx hb ht in_Exposure ty_Exposure tyk_Exposure nm_Exposure hown hK hP hD hS 0 rfl rfl 0 (by decide) (ht _ xw_71) (fun _ h9 => h9) rfl hin rfl (by decide +kernel) rfl rfl (Nat.le_of_ble_eq_true rfl) d_Exposure_init_9 (fun H locs hP hD hS => ?_)
  replace hP : va_P X.1 vwCl [(h, .inr (2, [.ref q0, .null, .int 0, .int 0])), (q0, .inl (X.2 0, 6, .inl (fun _ => 0)))] H := hP
  replace hD : va_D (xNew s.heap h) [(h, .inr (2, [.ref q0, .null, .int 0, .int 0])), (q0, .inl (X.2 0, 6, .inl (fun _ => 0)))] := hD
  refine lv_aload_n hx hb d_Exposure_init_12 rfl (lv_at hl 0 rfl) ?_
  refine lv_bipush (v := 6) hx hb d_Exposure_init_13 (by decide) ?_
  refine va_newa (atype := .int) (ty := .int) (N' := 6) (a0 := (6, .inl (fun _ => 0))) hx hb (ht _ xw_64) rfl hK hP hD hS hA (fun _ => rfl) (by decide) rfl (by decide) (Nat.le_of_ble_eq_true rfl) (Nat.le_of_ble_eq_true rfl) d_Exposure_init_15 (fun q1 cA H hK1 hP hD hS => ?_)
  obtain rfl := xc_I hK1
  clear hK1
  replace hP : va_P X.1 vwCl [(h, .inr (2, [.ref q0, .null, .int 0, .int 0])), (q0, .inl (X.2 0, 6, .inl (fun _ => 0))), (q1, .inl (X.2 0, 6, .inl (fun _ => 0)))] H := hP
  replace hD : va_D (xNew s.heap h) [(h, .inr (2, [.ref q0, .null, .int 0, .int 0])), (q0, .inl (X.2 0, 6, .inl (fun _ => 0))), (q1, .inl (X.2 0, 6, .inl (fun _ => 0)))] := hD
  refine W.widen (k := 2) (n := 12) (by omega) (by omega) ?_
  refine va_putF (D := X.1) (ci := 2) (v := .ref q1) (ty := .array .int) (C := "MaskEdges$Exposure") (T := F_Exposure) (N := 4) hx hb ht in_Exposure ty_Exposure tyk_Exposure nm_Exposure hown hK hP hD hS 0 rfl rfl 1 (by decide) (ht _ xw_72) (fun _ h9 => h9) rfl hin rfl (by decide +kernel) rfl rfl (Nat.le_of_ble_eq_true rfl) d_Exposure_init_17 (fun H locs hP hD hS => ?_)
  replace hP : va_P X.1 vwCl [(h, .inr (2, [.ref q0, .ref q1, .int 0, .int 0])), (q0, .inl (X.2 0, 6, .inl (fun _ => 0))), (q1, .inl (X.2 0, 6, .inl (fun _ => 0)))] H := hP
  replace hD : va_D (xNew s.heap h) [(h, .inr (2, [.ref q0, .ref q1, .int 0, .int 0])), (q0, .inl (X.2 0, 6, .inl (fun _ => 0))), (q1, .inl (X.2 0, 6, .inl (fun _ => 0)))] := hD
  refine lv_aload_n hx hb d_Exposure_init_20 rfl (lv_at hl 0 rfl) ?_
  refine lv_iconst (v := 1) hx hb d_Exposure_init_21 (by decide) ?_
  refine va_put (D := X.1) (ci := 2) (v := .int 1) (ty := .int) (C := "MaskEdges$Exposure") (T := F_Exposure) (N := 4) hx hb ht in_Exposure ty_Exposure tyk_Exposure nm_Exposure hown hK hP hD hS 0 rfl rfl 3 (by decide) (ht _ xw_74) (fun _ h9 => h9) rfl (by decide +kernel) rfl rfl (Nat.le_of_ble_eq_true rfl) d_Exposure_init_22 (fun H locs hP hD hS => ?_)
  replace hP : va_P X.1 vwCl [(h, .inr (2, [.ref q0, .ref q1, .int 0, .int 1])), (q0, .inl (X.2 0, 6, .inl (fun _ => 0))), (q1, .inl (X.2 0, 6, .inl (fun _ => 0)))] H := hP
  replace hD : va_D (xNew s.heap h) [(h, .inr (2, [.ref q0, .ref q1, .int 0, .int 1])), (q0, .inl (X.2 0, 6, .inl (fun _ => 0))), (q1, .inl (X.2 0, 6, .inl (fun _ => 0)))] := hD
  have hq : ∀ (k : Nat) (x : Nat × va_E), ([(q0, .inl (X.2 0, 6, .inl (fun _ => 0))), (q1, .inl (X.2 0, 6, .inl (fun _ => 0)))] : va_W)[k]? = some x → s.heap.size ≤ x.1 := fun k x hk => xnewq hD hk
  have hne : q0 ≠ q1 := fun z => by have := hD.1 1 2 _ _ rfl rfl z; omega
  exact W.vret hx hb hr (fun t ht hW => ⟨⟨rfl, by rw [ht]; exact ⟨q0, q1, hne, hq 0 _ rfl, hq 1 _ rfl, hP⟩⟩, hS.F ht⟩) hS.2.2 d_Exposure_init_25
