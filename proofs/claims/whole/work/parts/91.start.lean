/-! The start: the law's own words, the state that two new objects are in. -/
/-! THE CLAIM OUT OF ONE WALK OF THE LAW'S BODY. Your part is whole_start (and what it stands on); all else here is the same for every law, but numbers. -/
def R_law : String := "MaskEdgesLaw"
def lw_P (b : Addr) (xs : List Int32) (args : Array Value) (s : State) : Prop := args = #[.ref b] ∧ s.IntsAt b xs ∧ xs.length ≤ 3072 ∧ (Jvm.Cond.and given_1 narrow_1).before args s = true
def lw_Q (_ : Array Value) (s : State) (o : Outcome) (t : State) : Prop := o = .returned (some (.int 1)) ∧ Framed s o t [] 600000 7302250
def lw_Z (below : List Frame) (a : Array Value) (s : State) : State → Prop := fun t => ∃ o, t.status = .running ∧ Ended t below o ∧ lw_Q a s o t
/-- the law's own end, with 1 on the stack, nothing written that was there before, its room as the claim has it -/
theorem lw_ret {p : Program} {l : Launch} {e : Env} {s : State} {m : MethodId} {below : List Frame} {meth : Method} {c : Code} {b : Nat} (hx : p.tables.exec = Jvm.exec) (hb : c.code = code) (hr : meth.sig.returnType = ret) (hlocks : meth.locks = false) {pc : Nat} {H : Heap} {ls : Array Slot} (hdg : decode code pc = .ok (.ireturn, 1)) : W p l e room_1 s m #[Value.ref b] below meth c H [] 600000 7302250 (lw_Z below #[Value.ref b] s) (F0 m pc ls [.int 1]) := by
  intro T hT X
  obtain ⟨fs, hret, hrun, hended, hW, hframe⟩ := X.leave (v := some (.int 1)) (hlocks := hlocks) (fun h => by rw [hr] at h; cases h)
  have hmeth' : T.vm.method? m = some meth := X.method'
  refine ⟨T.setFrames fs, ?_, .returned (some (.int 1)), hrun, hended, rfl, ⟨_, rfl⟩, hW, hframe⟩
  jvm_step X.here [X.here.top, hx, hb, hdg, hmeth', hr, ret, narrow_b1]
  (try refine ⟨rfl, ?_⟩); (try refine ⟨rfl, ?_⟩)
  first | (intro acts; rw [hret _ acts rfl rfl rfl]) | rw [hret _ _ rfl rfl rfl]
  exact Steps.refl _
/-- what holds at the law's entry: the machine, the code, the tables' words (any of lw_tbl by 'hts w (by decide +kernel)'), the script of L ints xs at the cell b, what the Statement gives of the start (any of its parts by flat_of_before) -/
def lw_At (p : Program) (s : State) (m : MethodId) (meth : Method) (c : Code) (b L : Nat) (xs : Nat → Int32) : Prop :=
  p.tables.exec = Jvm.exec ∧ c.code = code ∧ meth.sig.returnType = ret ∧ c.maxLocals = 4 ∧ s.vm.findClass R_law = some m.cls ∧ (∀ w ∈ lw_tbl, w.before #[Value.ref b] s = true) ∧ va_X b L xs s s.heap ∧ b < s.heap.size ∧ meth.locks = false ∧ (Jvm.Cond.and given_1 narrow_1).before #[Value.ref b] s = true
theorem nl_0 : Cond.methodLinkNest "MaskEdges" 33 y_CellSet_init "MaskEdges" ∈ lw_tbl := List.mem_append_right _ (List.mem_of_getElem? (i := 26) (by decide +kernel))
theorem nl_1 : Cond.methodLinkNest "MaskEdges" 46 y_Exposure_init "MaskEdges" ∈ lw_tbl := List.mem_append_right _ (List.mem_of_getElem? (i := 38) (by decide +kernel))
theorem nl_2 : Cond.methodLinkNest "MaskEdges" 54 y_Box_init "MaskEdges" ∈ lw_tbl := List.mem_append_right _ (List.mem_of_getElem? (i := 57) (by decide +kernel))
theorem nl_3 : Cond.methodLinkNest "MaskEdges" 59 y_Outline_init "MaskEdges" ∈ lw_tbl := List.mem_append_right _ (List.mem_of_getElem? (i := 83) (by decide +kernel))
theorem nl_4 : Cond.methodLinkNest "MaskEdges" 60 y_Piece_init "MaskEdges" ∈ lw_tbl := List.mem_append_right _ (List.mem_of_getElem? (i := 105) (by decide +kernel))
theorem nl_5 : Cond.methodLinkNest "MaskEdges$CellSet" 15 y_MaskEdges_onGrid "MaskEdges" ∈ lw_tbl := List.mem_append_right _ (List.mem_of_getElem? (i := 243) (by decide +kernel))
theorem nl_6 : Cond.methodLinkNest "MaskEdges$CellSet" 28 y_MaskEdges_columnBits "MaskEdges" ∈ lw_tbl := List.mem_append_right _ (List.mem_of_getElem? (i := 268) (by decide +kernel))
theorem nl_7 : Cond.methodLinkNest "MaskEdges$Exposure" 31 y_MaskEdges_onGrid "MaskEdges" ∈ lw_tbl := List.mem_append_right _ (List.mem_of_getElem? (i := 377) (by decide +kernel))
theorem nl_8 : Cond.methodLinkNest "MaskEdges$Piece" 97 y_MaskEdges_clamp "MaskEdges" ∈ lw_tbl := List.mem_append_right _ (List.mem_of_getElem? (i := 403) (by decide +kernel))
theorem nl_all : ∀ w ∈ xNl, w ∈ lw_tbl := List.forall_mem_cons.mpr ⟨nl_0, List.forall_mem_cons.mpr ⟨nl_1, List.forall_mem_cons.mpr ⟨nl_2, List.forall_mem_cons.mpr ⟨nl_3, List.forall_mem_cons.mpr ⟨nl_4, List.forall_mem_cons.mpr ⟨nl_5, List.forall_mem_cons.mpr ⟨nl_6, List.forall_mem_cons.mpr ⟨nl_7, List.forall_mem_cons.mpr ⟨nl_8, fun _ h => absurd h List.not_mem_nil⟩⟩⟩⟩⟩⟩⟩⟩⟩
theorem ov_Outline : Cond.arrayOver (.object "MaskEdges$Outline") ∈ lw_tbl := List.mem_append_right _ (List.mem_of_getElem? (i := 19) (by decide +kernel))
theorem ov_Piece : Cond.arrayOver (.object "MaskEdges$Piece") ∈ lw_tbl := List.mem_append_right _ (List.mem_of_getElem? (i := 21) (by decide +kernel))
theorem ov_Box : Cond.arrayOver (.object "MaskEdges$Box") ∈ lw_tbl := List.mem_append_right _ (List.mem_of_getElem? (i := 23) (by decide +kernel))
theorem tgt0 {P : Nat → t_Outline} (x y : Int) : tgt P x y 0 = false := rfl
theorem rel_0 : rel x0 y0 := by
  have cz : ∀ a b : Nat, cs (fun _ => 0) a b = false := fun a b => tb_0 a
  refine ⟨0, 0, 0, 0, 0, ⟨⟨rfl, ⟨rfl, by omega, fun p hp => ⟨?_, ?_⟩⟩, fun a b _ _ => cz a b⟩, fun p _ _ => rfl⟩, ⟨⟨rfl, by omega, fun k hk => absurd hk (Nat.not_lt_zero _), (by show 1 ≤ (1 : Int32).toInt; decide), (by show (1 : Int32).toInt ≤ 100000; decide)⟩, ⟨rfl, fun k _ => ⟨rfl, rfl⟩, rfl⟩⟩, ⟨rfl, by omega, rfl, fun k hk => absurd hk (Nat.not_lt_zero _)⟩, ⟨rfl, by omega, rfl, fun k hk => absurd hk (Nat.not_lt_zero _), fun a b _ _ => cz a b⟩, ?_, ⟨rfl, by omega, (by show (-1 : Int32) = nI 0 - 1; decide), fun k hk => absurd hk (Nat.not_lt_zero _)⟩, ⟨fun _ _ => rfl, fun _ _ => rfl⟩⟩
  · refine ⟨rfl, by show (0 : Int32).toInt.toNat ≤ 16; decide, Or.inl rfl, fun k hk => absurd hk (Nat.not_lt_zero _), fun k hk => absurd hk (Nat.not_lt_zero _), fun h => ?_⟩
    exact absurd (show (0 : Int32) = 1 from h) (by decide)
  · exact ⟨rfl, rfl, fun k _ => ⟨rfl, rfl⟩⟩
  · intro a b _ _
    show cs (fun _ => 0) a b = (cs (fun _ => 0) a b || cs (fun _ => 0) a b)
    rw [cz]
    rfl
